abbrev lw_W (qx q5 q2 q1 q3 qs qo qh qw : Nat) (cyI cyJ : ClassId) (g_X : Nat → Int64) (w_o w_f w_r w_b w_a : Int32) (w_l : Int64) (t_S : Nat → Int64) (t_O t_H : Nat → Int32) (s_n : Int32) (t_W : Nat → Int32) (s_k : Int32) (v_s : Int64) : va_W :=
  (qx, .inl (cyJ, 1, .inr (.inl g_X))) :: cl_W q5 q2 q1 q3 qs qo qh qw cyI cyJ w_o w_f w_r w_b w_a w_l t_S t_O t_H s_n t_W s_k v_s
/-- what a try answers -/
def xl_k {T : Type} : Except String T → Int32
  | .ok _ => 0
  | .error E => if E = ex_S then 2 else 1
section XL
variable {p : Program} {l : Launch} {e : Env} {R : Room} {s : State} {m : MethodId} {args : Array Value} {below : List Frame} {meth : Method} {c : Code} {H : Heap} {locs : List Loc} {cells slots mc ms : Nat} {Q : State → Prop}
variable {pc : Nat} {ls : Array Slot} {rest st0 : List Value} {a : Array Value} {D : va_G} {cl : List vw_C} {A0 : Nat → Prop} {H0 : Heap} {ws wc wr : va_W}
theorem xl_calli {T : Type} {R' : Except String (T × Int32)} {w : T → va_W} (hr : vx_Run p l e R s m args below meth c H locs cells slots mc ms (F0 m pc ls st0) rest (xr_i R' w D cl (va_A wc H.size) a) (xr_X R' wc D cl (va_A wc H.size)) (va_A wc H.size)) (hP : va_P D cl ws H) (hD : va_D A0 ws) (hS : va_S A0 H0 H locs) (hA : ∀ q, H0.size ≤ q → A0 q)
    (isC isR : List Nat) (hC : isC.map (fun i => ws[i]?) = wc.map some) (hR : isR.map (fun i => ws[i]?) = wr.map some) (hnC : va_nd isC = true) (hn : va_nd isR = true) (hdis : ∀ i ∈ isR, i ∉ isC) (had : ∀ u, (w u).map (·.1) = wc.map (·.1))
    (kx : ∀ (E : String) (ce : Cell) (q9 : Addr) (H1 : Heap) (locs1 : List Loc), R' = .error E → va_P D cl (wr ++ wc) H1 → va_S A0 H0 H1 locs1 → H1[q9]? = some ce → ce.vm = .none → s.vm.findClass E = some ce.cls → vx_W p l e R s m args below meth c H1 locs1 (cells + mc) (slots + ms) Q (F0 m pc ls rest) q9)
    (kk : ∀ (u : T) (r : Int32) (H1 : Heap) (locs1 : List Loc), R' = .ok (u, r) → va_P D cl (wr ++ w u) H1 → va_D A0 (wr ++ w u) → va_S A0 H0 H1 locs1 → W p l e R s m args below meth c H1 locs1 (cells + mc) (slots + ms) Q (F0 m (pc + 3) ls (.int r :: rest))) : W p l e R s m args below meth c H locs cells slots Q (F0 m pc ls st0) := by
  have hF := va_free (wc := wc) hD hS hA isC hC
  have hDc := (hD.sub isC hnC hC).self (sz := H.size)
  refine vx_calli hr hS (fun q _ h => hF q h) hF (fun q _ h => hF q h) ?_ ?_
  · intro E ce q9 u t H1 locs1 ht hal px bx hsz hk hS1 hce hv hcl
    obtain ⟨b1, b2⟩ := bx
    obtain ⟨hPn, hDn⟩ := va_join (H1 := H1) hP hD isC isR hC hR hn hdis hk hF (by rw [← ht]; exact b2) hDc
    exact kx E ce q9 H1 locs1 b1 hPn hS1 hce hv hcl
  · intro r u t H1 locs1 ht hal po bo hsz hk hS1
    obtain ⟨hPn, hDn⟩ := va_join (H1 := H1) hP hD isC isR hC hR hn hdis hk hF (by rw [← ht]; exact bo) (mu_D hDc (had u))
    exact kk u r H1 locs1 po hPn hDn hS1
theorem xl_callv {T : Type} {R' : Except String T} {w : T → va_W} (hr : vx_Run p l e R s m args below meth c H locs cells slots mc ms (F0 m pc ls st0) rest (xr_v R' w D cl (va_A wc H.size) a) (xr_X R' wc D cl (va_A wc H.size)) (va_A wc H.size)) (hP : va_P D cl ws H) (hD : va_D A0 ws) (hS : va_S A0 H0 H locs) (hA : ∀ q, H0.size ≤ q → A0 q)
    (isC isR : List Nat) (hC : isC.map (fun i => ws[i]?) = wc.map some) (hR : isR.map (fun i => ws[i]?) = wr.map some) (hnC : va_nd isC = true) (hn : va_nd isR = true) (hdis : ∀ i ∈ isR, i ∉ isC) (had : ∀ u, (w u).map (·.1) = wc.map (·.1))
    (kx : ∀ (E : String) (ce : Cell) (q9 : Addr) (H1 : Heap) (locs1 : List Loc), R' = .error E → va_P D cl (wr ++ wc) H1 → va_S A0 H0 H1 locs1 → H1[q9]? = some ce → ce.vm = .none → s.vm.findClass E = some ce.cls → vx_W p l e R s m args below meth c H1 locs1 (cells + mc) (slots + ms) Q (F0 m pc ls rest) q9)
    (kk : ∀ (u : T) (H1 : Heap) (locs1 : List Loc), R' = .ok u → va_P D cl (wr ++ w u) H1 → va_D A0 (wr ++ w u) → va_S A0 H0 H1 locs1 → W p l e R s m args below meth c H1 locs1 (cells + mc) (slots + ms) Q (F0 m (pc + 3) ls rest)) : W p l e R s m args below meth c H locs cells slots Q (F0 m pc ls st0) := by
  have hF := va_free (wc := wc) hD hS hA isC hC
  have hDc := (hD.sub isC hnC hC).self (sz := H.size)
  refine vx_callv hr hS (fun q _ h => hF q h) hF (fun q _ h => hF q h) ?_ ?_
  · intro E ce q9 u t H1 locs1 ht hal px bx hsz hk hS1 hce hv hcl
    obtain ⟨b1, b2⟩ := bx
    obtain ⟨hPn, hDn⟩ := va_join (H1 := H1) hP hD isC isR hC hR hn hdis hk hF (by rw [← ht]; exact b2) hDc
    exact kx E ce q9 H1 locs1 b1 hPn hS1 hce hv hcl
  · intro u t H1 locs1 ht hal po bo hsz hk hS1
    obtain ⟨hPn, hDn⟩ := va_join (H1 := H1) hP hD isC isR hC hR hn hdis hk hF (by rw [← ht]; exact bo) (mu_D hDc (had u))
    exact kk u H1 locs1 po hPn hDn hS1
end XL
def wl_L_size (q5 q2 q1 q3 qs qo qh qw : Nat) (cyI cyJ : ClassId) (w_o : Int32) (w_f : Int32) (w_r : Int32) (w_b : Int32) (w_a : Int32) (w_l : Int64) (t_S : Nat → Int64) (t_O : Nat → Int32) (t_H : Nat → Int32) (s_n : Int32) (t_W : Nat → Int32) (s_k : Int32) (v_s : Int64) : Except String (Int32 × Int32 × Int32 × Int64 × Int64) → va_W
  | .ok u => (cl_W q5 q2 q1 q3 qs qo qh qw cyI cyJ u.1 u.2.1 u.2.2.1 w_b w_a u.2.2.2.1 t_S t_O t_H s_n t_W s_k u.2.2.2.2)
  | .error _ => (cl_W q5 q2 q1 q3 qs qo qh qw cyI cyJ w_o w_f w_r w_b w_a w_l t_S t_O t_H s_n t_W s_k v_s)
set_option maxHeartbeats 4000000 in
set_option maxRecDepth 100000 in
theorem c_L_size (l : Launch) (hl0 : l.stackTraces = false) (dC : Nat → ClassId) (dI : Nat → Nat → Nat) (q5 q2 q1 q3 qs qo qh qw : Nat) (cyI cyJ : ClassId) (w_o : Int32) (w_f : Int32) (w_r : Int32) (w_b : Int32) (w_a : Int32) (w_l : Int64) (t_S : Nat → Int64) (t_O : Nat → Int32) (t_H : Nat → Int32) (s_n : Int32) (t_W : Nat → Int32) (s_k : Int32) (v_s : Int64) (sz : Nat) (a0 : Int32) (a1 : Int32) (a2 : Int32)   (R : Except String (Int32 × Int32 × Int32 × Int64 × Int64)) (hR : (cf_X5_size w_o w_f w_r w_b w_a w_l v_s a0 a1 a2) = R) (hRE : ∀ E, R = .error E → E = ex_A) : vx_Met l yL_size wsL_size ({ frames := 8, cells := 3, slots := 18, locals := 127 }) (xw_P [.ref q5, .int a0, .int a1, .int a2] sz (dC, dI) kcl (cl_W q5 q2 q1 q3 qs qo qh qw cyI cyJ w_o w_f w_r w_b w_a w_l t_S t_O t_H s_n t_W s_k v_s) [(cyI, .int), (cyJ, .long)]) (va_Qi (fun k (_ : Unit) => k = xl_k R) (fun _ t => va_P (dC, dI) kcl (wl_L_size q5 q2 q1 q3 qs qo qh qw cyI cyJ w_o w_f w_r w_b w_a w_l t_S t_O t_H s_n t_W s_k v_s R) t.heap) (va_A (cl_W q5 q2 q1 q3 qs qo qh qw cyI cyJ w_o w_f w_r w_b w_a w_l t_S t_O t_H s_n t_W s_k v_s) sz)) (fun _ _ _ => False) 3 18 (va_A (cl_W q5 q2 q1 q3 qs qo qh qw cyI cyJ w_o w_f w_r w_b w_a w_l t_S t_O t_H s_n t_W s_k v_s) sz) := by
  refine vx_ofWH (cc := cL_size) (maxL := 5) (ret := (some .int)) (hh := [(0, 7, 10, 13)]) (by decide) rfl ?_
  intro p e s m args below meth c s₁ B hml hv
  obtain ⟨rfl, hsz, hP, hK, hD0, hZ⟩ := hv
  have hx := B.exec
  have hb := B.bytes
  have hr := B.returns
  have hts := atoms_spec (ws := wsL_size) B.pre
  have hown : s.vm.findClass RL = some m.cls := findClass_of_methodNamed B.named
  have hlocks := B.notSynchronized
  have htb : c.exceptionTable.toList = tableOf [(0, 7, 10, 13)] := vx_table (x := yL_size) B (hts _ List.mem_cons_self)
  subst hsz
  have hD := hD0.self (sz := s.heap.size)
  generalize hAe : va_A (cl_W q5 q2 q1 q3 qs qo qh qw cyI cyJ w_o w_f w_r w_b w_a w_l t_S t_O t_H s_n t_W s_k v_s) s.heap.size = A at hD hZ ⊢
  have hA : ∀ q : Nat, s.heap.size ≤ q → A q := fun q h => by rw [← hAe]; exact Or.inr h
  have hP : va_P (dC, dI) kcl (cl_W q5 q2 q1 q3 qs qo qh qw cyI cyJ w_o w_f w_r w_b w_a w_l t_S t_O t_H s_n t_W s_k v_s) s.heap := hP
  have hl := lv_entry ([.ref q5, .int a0, .int a1, .int a2]) (n := 5) (Nat.le_of_ble_eq_true rfl)
  rw [lg_entry_eq]
  generalize (lg_sl ([.ref q5, .int a0, .int a1, .int a2]) ++ List.replicate (5 - (lg_sl ([.ref q5, .int a0, .int a1, .int a2])).length) Slot.unset).toArray = ls at hl ⊢
  have hl : lv_has ls 5 [(0, .ref q5), (1, .int a0), (2, .int a1), (3, .int a2)] := hl
  refine mu_start (A := A) (fun H locs hP hS => ?_) hP
  refine lv_aload_n hx hb dL_size_0 rfl (lv_at hl 0 rfl) ?_
  refine lv_iload_n hx hb dL_size_1 rfl (lv_at hl 1 rfl) ?_
  refine lv_iload_n hx hb dL_size_2 rfl (lv_at hl 2 rfl) ?_
  refine lv_iload_n hx hb dL_size_3 rfl (lv_at hl 3 rfl) ?_
  refine xl_callv (wr := []) (vx_runV (As := [.int a0, .int a1, .int a2]) (rest := []) ⟨hx, hb, hml, hown, hts⟩ (c_X5_size l hl0 dC dI q5 q2 q1 q3 qs qo qh qw cyI cyJ w_o w_f w_r w_b w_a w_l t_S t_O t_H s_n t_W s_k v_s H.size a0 a1 a2   R hR) (cwV 3 hts gL_size_X5_size rfl rfl rfl (by decide +kernel) ⟨Nat.le_of_ble_eq_true rfl, Nat.le_of_ble_eq_true rfl⟩) ⟨xw_blind, va_recv hK hP (ci := 3) (q0 := 0) rfl rfl, fun U hU hW => ⟨rfl, by rw [hU], by rw [hU]; exact hP.sub [0, 1, 2, 3, 4, 5, 6, 7] rfl, va_K.moved hW.alike (hK.sub [0, 1] rfl), (hD.sub [0, 1, 2, 3, 4, 5, 6, 7] (by decide) rfl).weaken (fun _ _ _ _ => trivial), by rw [hU]; exact ((hZ.kept hS.2.1).narrow (fun q h => va_free hD hS hA [0, 1, 2, 3, 4, 5, 6, 7] rfl q h)).warm hW⟩⟩ rfl rfl hl.1 rfl (lv_room (Nat.le_of_ble_eq_true rfl)) dL_size_4 ⟨Nat.le_of_ble_eq_true rfl, Nat.le_of_ble_eq_true rfl⟩) hP hD hS hA [0, 1, 2, 3, 4, 5, 6, 7] [] rfl rfl (by decide) (by decide) (by decide) (fun _ => rfl) ?_ ?_
  · intro E ce q9 H locs he hP hS hce hv9 hcl
    have hEq := hRE E he
    subst hEq
    · refine ct_W1 (name := ex_A) hown htb (by decide) (by decide) (hts (.classLink RL 13 ex_A) (by decide +kernel)) (va_tabs rfl rfl (hZ.2.2.2.2.2.1 (.castable ex_A ex_A) (by decide +kernel))) hce hv9 hcl ?_
      refine lv_astore (lv' := [(4, .ref q9), (0, .ref q5), (1, .int a0), (2, .int a1), (3, .int a2)]) hx hb dL_size_10 hl (by decide) rfl (fun ls hl => ?_)
      refine lv_iconst (v := (1 : Int32)) hx hb dL_size_12 (by decide +kernel) ?_
      refine W.widen (k := 3) (n := 18) (by decide) (by decide) (vx_ret ?_)
      exact W.iret (v := (1 : Int32)) hx hb hr (fun t ht _ => ⟨⟨(1 : Int32), (), rfl, by rw [he]; rfl, show va_P (dC, dI) kcl (wl_L_size q5 q2 q1 q3 qs qo qh qw cyI cyJ w_o w_f w_r w_b w_a w_l t_S t_O t_H s_n t_W s_k v_s R) t.heap by rw [he, ht]; exact hP⟩, hS.F ht⟩) hS.2.2 dL_size_13
  · intro u H locs hok hP hD hS
    have hP : va_P (dC, dI) kcl (cl_W q5 q2 q1 q3 qs qo qh qw cyI cyJ u.1 u.2.1 u.2.2.1 w_b w_a u.2.2.2.1 t_S t_O t_H s_n t_W s_k u.2.2.2.2) H := hP
    have hD : va_D A (cl_W q5 q2 q1 q3 qs qo qh qw cyI cyJ u.1 u.2.1 u.2.2.1 w_b w_a u.2.2.2.1 t_S t_O t_H s_n t_W s_k u.2.2.2.2) := hD
    refine lv_goto (tgt := 14) hx hb dL_size_7 (by decide) ?_
    refine lv_iconst (v := (0 : Int32)) hx hb dL_size_14 (by decide +kernel) ?_
    refine W.widen (k := 3) (n := 18) (by decide) (by decide) (vx_ret ?_)
    exact W.iret (v := (0 : Int32)) hx hb hr (fun t ht _ => ⟨⟨(0 : Int32), (), rfl, by rw [hok]; rfl, show va_P (dC, dI) kcl (wl_L_size q5 q2 q1 q3 qs qo qh qw cyI cyJ w_o w_f w_r w_b w_a w_l t_S t_O t_H s_n t_W s_k v_s R) t.heap by rw [hok, ht]; exact hP⟩, hS.F ht⟩) hS.2.2 dL_size_15
def wl_L_point (q5 q2 q1 q3 qs qo qh qw : Nat) (cyI cyJ : ClassId) (w_o : Int32) (w_f : Int32) (w_r : Int32) (w_b : Int32) (w_a : Int32) (w_l : Int64) (t_S : Nat → Int64) (t_O : Nat → Int32) (t_H : Nat → Int32) (s_n : Int32) (t_W : Nat → Int32) (s_k : Int32) (v_s : Int64) : Except String (Int64 × Int64) → va_W
  | .ok u => (cl_W q5 q2 q1 q3 qs qo qh qw cyI cyJ w_o w_f w_r w_b w_a u.1 t_S t_O t_H s_n t_W s_k u.2)
  | .error _ => (cl_W q5 q2 q1 q3 qs qo qh qw cyI cyJ w_o w_f w_r w_b w_a w_l t_S t_O t_H s_n t_W s_k v_s)
set_option maxHeartbeats 4000000 in
set_option maxRecDepth 100000 in
theorem c_L_point (l : Launch) (hl0 : l.stackTraces = false) (dC : Nat → ClassId) (dI : Nat → Nat → Nat) (q5 q2 q1 q3 qs qo qh qw : Nat) (cyI cyJ : ClassId) (w_o : Int32) (w_f : Int32) (w_r : Int32) (w_b : Int32) (w_a : Int32) (w_l : Int64) (t_S : Nat → Int64) (t_O : Nat → Int32) (t_H : Nat → Int32) (s_n : Int32) (t_W : Nat → Int32) (s_k : Int32) (v_s : Int64) (sz : Nat) (a0 : Int32) (a1 : Int32) (a2 : Int32)   (R : Except String (Int64 × Int64)) (hR : (cf_X5_point w_o w_f w_r w_b w_a w_l v_s a0 a1 a2) = R) (hRE : ∀ E, R = .error E → E = ex_A) : vx_Met l yL_point wsL_point ({ frames := 8, cells := 3, slots := 18, locals := 127 }) (xw_P [.ref q5, .int a0, .int a1, .int a2] sz (dC, dI) kcl (cl_W q5 q2 q1 q3 qs qo qh qw cyI cyJ w_o w_f w_r w_b w_a w_l t_S t_O t_H s_n t_W s_k v_s) [(cyI, .int), (cyJ, .long)]) (va_Qi (fun k (_ : Unit) => k = xl_k R) (fun _ t => va_P (dC, dI) kcl (wl_L_point q5 q2 q1 q3 qs qo qh qw cyI cyJ w_o w_f w_r w_b w_a w_l t_S t_O t_H s_n t_W s_k v_s R) t.heap) (va_A (cl_W q5 q2 q1 q3 qs qo qh qw cyI cyJ w_o w_f w_r w_b w_a w_l t_S t_O t_H s_n t_W s_k v_s) sz)) (fun _ _ _ => False) 3 18 (va_A (cl_W q5 q2 q1 q3 qs qo qh qw cyI cyJ w_o w_f w_r w_b w_a w_l t_S t_O t_H s_n t_W s_k v_s) sz) := by
  refine vx_ofWH (cc := cL_point) (maxL := 5) (ret := (some .int)) (hh := [(0, 7, 10, 13)]) (by decide) rfl ?_
  intro p e s m args below meth c s₁ B hml hv
  obtain ⟨rfl, hsz, hP, hK, hD0, hZ⟩ := hv
  have hx := B.exec
  have hb := B.bytes
  have hr := B.returns
  have hts := atoms_spec (ws := wsL_point) B.pre
  have hown : s.vm.findClass RL = some m.cls := findClass_of_methodNamed B.named
  have hlocks := B.notSynchronized
  have htb : c.exceptionTable.toList = tableOf [(0, 7, 10, 13)] := vx_table (x := yL_point) B (hts _ List.mem_cons_self)
  subst hsz
  have hD := hD0.self (sz := s.heap.size)
  generalize hAe : va_A (cl_W q5 q2 q1 q3 qs qo qh qw cyI cyJ w_o w_f w_r w_b w_a w_l t_S t_O t_H s_n t_W s_k v_s) s.heap.size = A at hD hZ ⊢
  have hA : ∀ q : Nat, s.heap.size ≤ q → A q := fun q h => by rw [← hAe]; exact Or.inr h
  have hP : va_P (dC, dI) kcl (cl_W q5 q2 q1 q3 qs qo qh qw cyI cyJ w_o w_f w_r w_b w_a w_l t_S t_O t_H s_n t_W s_k v_s) s.heap := hP
  have hl := lv_entry ([.ref q5, .int a0, .int a1, .int a2]) (n := 5) (Nat.le_of_ble_eq_true rfl)
  rw [lg_entry_eq]
  generalize (lg_sl ([.ref q5, .int a0, .int a1, .int a2]) ++ List.replicate (5 - (lg_sl ([.ref q5, .int a0, .int a1, .int a2])).length) Slot.unset).toArray = ls at hl ⊢
  have hl : lv_has ls 5 [(0, .ref q5), (1, .int a0), (2, .int a1), (3, .int a2)] := hl
  refine mu_start (A := A) (fun H locs hP hS => ?_) hP
  refine lv_aload_n hx hb dL_point_0 rfl (lv_at hl 0 rfl) ?_
  refine lv_iload_n hx hb dL_point_1 rfl (lv_at hl 1 rfl) ?_
  refine lv_iload_n hx hb dL_point_2 rfl (lv_at hl 2 rfl) ?_
  refine lv_iload_n hx hb dL_point_3 rfl (lv_at hl 3 rfl) ?_
  refine xl_callv (wr := []) (vx_runV (As := [.int a0, .int a1, .int a2]) (rest := []) ⟨hx, hb, hml, hown, hts⟩ (c_X5_point l hl0 dC dI q5 q2 q1 q3 qs qo qh qw cyI cyJ w_o w_f w_r w_b w_a w_l t_S t_O t_H s_n t_W s_k v_s H.size a0 a1 a2   R hR) (cwV 3 hts gL_point_X5_point rfl rfl rfl (by decide +kernel) ⟨Nat.le_of_ble_eq_true rfl, Nat.le_of_ble_eq_true rfl⟩) ⟨xw_blind, va_recv hK hP (ci := 3) (q0 := 0) rfl rfl, fun U hU hW => ⟨rfl, by rw [hU], by rw [hU]; exact hP.sub [0, 1, 2, 3, 4, 5, 6, 7] rfl, va_K.moved hW.alike (hK.sub [0, 1] rfl), (hD.sub [0, 1, 2, 3, 4, 5, 6, 7] (by decide) rfl).weaken (fun _ _ _ _ => trivial), by rw [hU]; exact ((hZ.kept hS.2.1).narrow (fun q h => va_free hD hS hA [0, 1, 2, 3, 4, 5, 6, 7] rfl q h)).warm hW⟩⟩ rfl rfl hl.1 rfl (lv_room (Nat.le_of_ble_eq_true rfl)) dL_point_4 ⟨Nat.le_of_ble_eq_true rfl, Nat.le_of_ble_eq_true rfl⟩) hP hD hS hA [0, 1, 2, 3, 4, 5, 6, 7] [] rfl rfl (by decide) (by decide) (by decide) (fun _ => rfl) ?_ ?_
  · intro E ce q9 H locs he hP hS hce hv9 hcl
    have hEq := hRE E he
    subst hEq
    · refine ct_W1 (name := ex_A) hown htb (by decide) (by decide) (hts (.classLink RL 13 ex_A) (by decide +kernel)) (va_tabs rfl rfl (hZ.2.2.2.2.2.1 (.castable ex_A ex_A) (by decide +kernel))) hce hv9 hcl ?_
      refine lv_astore (lv' := [(4, .ref q9), (0, .ref q5), (1, .int a0), (2, .int a1), (3, .int a2)]) hx hb dL_point_10 hl (by decide) rfl (fun ls hl => ?_)
      refine lv_iconst (v := (1 : Int32)) hx hb dL_point_12 (by decide +kernel) ?_
      refine W.widen (k := 3) (n := 18) (by decide) (by decide) (vx_ret ?_)
      exact W.iret (v := (1 : Int32)) hx hb hr (fun t ht _ => ⟨⟨(1 : Int32), (), rfl, by rw [he]; rfl, show va_P (dC, dI) kcl (wl_L_point q5 q2 q1 q3 qs qo qh qw cyI cyJ w_o w_f w_r w_b w_a w_l t_S t_O t_H s_n t_W s_k v_s R) t.heap by rw [he, ht]; exact hP⟩, hS.F ht⟩) hS.2.2 dL_point_13
  · intro u H locs hok hP hD hS
    have hP : va_P (dC, dI) kcl (cl_W q5 q2 q1 q3 qs qo qh qw cyI cyJ w_o w_f w_r w_b w_a u.1 t_S t_O t_H s_n t_W s_k u.2) H := hP
    have hD : va_D A (cl_W q5 q2 q1 q3 qs qo qh qw cyI cyJ w_o w_f w_r w_b w_a u.1 t_S t_O t_H s_n t_W s_k u.2) := hD
    refine lv_goto (tgt := 14) hx hb dL_point_7 (by decide) ?_
    refine lv_iconst (v := (0 : Int32)) hx hb dL_point_14 (by decide +kernel) ?_
    refine W.widen (k := 3) (n := 18) (by decide) (by decide) (vx_ret ?_)
    exact W.iret (v := (0 : Int32)) hx hb hr (fun t ht _ => ⟨⟨(0 : Int32), (), rfl, by rw [hok]; rfl, show va_P (dC, dI) kcl (wl_L_point q5 q2 q1 q3 qs qo qh qw cyI cyJ w_o w_f w_r w_b w_a w_l t_S t_O t_H s_n t_W s_k v_s R) t.heap by rw [hok, ht]; exact hP⟩, hS.F ht⟩) hS.2.2 dL_point_15
def wl_L_root (q5 q2 q1 q3 qs qo qh qw : Nat) (cyI cyJ : ClassId) (w_o : Int32) (w_f : Int32) (w_r : Int32) (w_b : Int32) (w_a : Int32) (w_l : Int64) (t_S : Nat → Int64) (t_O : Nat → Int32) (t_H : Nat → Int32) (s_n : Int32) (t_W : Nat → Int32) (s_k : Int32) (v_s : Int64) : Except String (Int64 × Int64) → va_W
  | .ok u => (cl_W q5 q2 q1 q3 qs qo qh qw cyI cyJ w_o w_f w_r w_b w_a u.1 t_S t_O t_H s_n t_W s_k u.2)
  | .error _ => (cl_W q5 q2 q1 q3 qs qo qh qw cyI cyJ w_o w_f w_r w_b w_a w_l t_S t_O t_H s_n t_W s_k v_s)
set_option maxHeartbeats 4000000 in
set_option maxRecDepth 100000 in
theorem c_L_root (l : Launch) (hl0 : l.stackTraces = false) (dC : Nat → ClassId) (dI : Nat → Nat → Nat) (q5 q2 q1 q3 qs qo qh qw : Nat) (cyI cyJ : ClassId) (w_o : Int32) (w_f : Int32) (w_r : Int32) (w_b : Int32) (w_a : Int32) (w_l : Int64) (t_S : Nat → Int64) (t_O : Nat → Int32) (t_H : Nat → Int32) (s_n : Int32) (t_W : Nat → Int32) (s_k : Int32) (v_s : Int64) (sz : Nat) (a0 : Int32) (a1 : Int32)   (R : Except String (Int64 × Int64)) (hR : (cf_X5_root w_o w_f w_r w_b w_a w_l v_s a0 a1) = R) (hRE : ∀ E, R = .error E → E = ex_A) : vx_Met l yL_root wsL_root ({ frames := 8, cells := 2, slots := 12, locals := 126 }) (xw_P [.ref q5, .int a0, .int a1] sz (dC, dI) kcl (cl_W q5 q2 q1 q3 qs qo qh qw cyI cyJ w_o w_f w_r w_b w_a w_l t_S t_O t_H s_n t_W s_k v_s) [(cyI, .int), (cyJ, .long)]) (va_Qi (fun k (_ : Unit) => k = xl_k R) (fun _ t => va_P (dC, dI) kcl (wl_L_root q5 q2 q1 q3 qs qo qh qw cyI cyJ w_o w_f w_r w_b w_a w_l t_S t_O t_H s_n t_W s_k v_s R) t.heap) (va_A (cl_W q5 q2 q1 q3 qs qo qh qw cyI cyJ w_o w_f w_r w_b w_a w_l t_S t_O t_H s_n t_W s_k v_s) sz)) (fun _ _ _ => False) 2 12 (va_A (cl_W q5 q2 q1 q3 qs qo qh qw cyI cyJ w_o w_f w_r w_b w_a w_l t_S t_O t_H s_n t_W s_k v_s) sz) := by
  refine vx_ofWH (cc := cL_root) (maxL := 4) (ret := (some .int)) (hh := [(0, 6, 9, 13)]) (by decide) rfl ?_
  intro p e s m args below meth c s₁ B hml hv
  obtain ⟨rfl, hsz, hP, hK, hD0, hZ⟩ := hv
  have hx := B.exec
  have hb := B.bytes
  have hr := B.returns
  have hts := atoms_spec (ws := wsL_root) B.pre
  have hown : s.vm.findClass RL = some m.cls := findClass_of_methodNamed B.named
  have hlocks := B.notSynchronized
  have htb : c.exceptionTable.toList = tableOf [(0, 6, 9, 13)] := vx_table (x := yL_root) B (hts _ List.mem_cons_self)
  subst hsz
  have hD := hD0.self (sz := s.heap.size)
  generalize hAe : va_A (cl_W q5 q2 q1 q3 qs qo qh qw cyI cyJ w_o w_f w_r w_b w_a w_l t_S t_O t_H s_n t_W s_k v_s) s.heap.size = A at hD hZ ⊢
  have hA : ∀ q : Nat, s.heap.size ≤ q → A q := fun q h => by rw [← hAe]; exact Or.inr h
  have hP : va_P (dC, dI) kcl (cl_W q5 q2 q1 q3 qs qo qh qw cyI cyJ w_o w_f w_r w_b w_a w_l t_S t_O t_H s_n t_W s_k v_s) s.heap := hP
  have hl := lv_entry ([.ref q5, .int a0, .int a1]) (n := 4) (Nat.le_of_ble_eq_true rfl)
  rw [lg_entry_eq]
  generalize (lg_sl ([.ref q5, .int a0, .int a1]) ++ List.replicate (4 - (lg_sl ([.ref q5, .int a0, .int a1])).length) Slot.unset).toArray = ls at hl ⊢
  have hl : lv_has ls 4 [(0, .ref q5), (1, .int a0), (2, .int a1)] := hl
  refine mu_start (A := A) (fun H locs hP hS => ?_) hP
  refine lv_aload_n hx hb dL_root_0 rfl (lv_at hl 0 rfl) ?_
  refine lv_iload_n hx hb dL_root_1 rfl (lv_at hl 1 rfl) ?_
  refine lv_iload_n hx hb dL_root_2 rfl (lv_at hl 2 rfl) ?_
  refine xl_callv (wr := []) (vx_runV (As := [.int a0, .int a1]) (rest := []) ⟨hx, hb, hml, hown, hts⟩ (c_X5_root l hl0 dC dI q5 q2 q1 q3 qs qo qh qw cyI cyJ w_o w_f w_r w_b w_a w_l t_S t_O t_H s_n t_W s_k v_s H.size a0 a1   R hR) (cwV 2 hts gL_root_X5_root rfl rfl rfl (by decide +kernel) ⟨Nat.le_of_ble_eq_true rfl, Nat.le_of_ble_eq_true rfl⟩) ⟨xw_blind, va_recv hK hP (ci := 3) (q0 := 0) rfl rfl, fun U hU hW => ⟨rfl, by rw [hU], by rw [hU]; exact hP.sub [0, 1, 2, 3, 4, 5, 6, 7] rfl, va_K.moved hW.alike (hK.sub [0, 1] rfl), (hD.sub [0, 1, 2, 3, 4, 5, 6, 7] (by decide) rfl).weaken (fun _ _ _ _ => trivial), by rw [hU]; exact ((hZ.kept hS.2.1).narrow (fun q h => va_free hD hS hA [0, 1, 2, 3, 4, 5, 6, 7] rfl q h)).warm hW⟩⟩ rfl rfl hl.1 rfl (lv_room (Nat.le_of_ble_eq_true rfl)) dL_root_3 ⟨Nat.le_of_ble_eq_true rfl, Nat.le_of_ble_eq_true rfl⟩) hP hD hS hA [0, 1, 2, 3, 4, 5, 6, 7] [] rfl rfl (by decide) (by decide) (by decide) (fun _ => rfl) ?_ ?_
  · intro E ce q9 H locs he hP hS hce hv9 hcl
    have hEq := hRE E he
    subst hEq
    · refine ct_W1 (name := ex_A) hown htb (by decide) (by decide) (hts (.classLink RL 13 ex_A) (by decide +kernel)) (va_tabs rfl rfl (hZ.2.2.2.2.2.1 (.castable ex_A ex_A) (by decide +kernel))) hce hv9 hcl ?_
      refine lv_astore_n (lv' := [(3, .ref q9), (0, .ref q5), (1, .int a0), (2, .int a1)]) hx hb dL_root_9 rfl hl (by decide) rfl (fun ls hl => ?_)
      refine lv_iconst (v := (1 : Int32)) hx hb dL_root_10 (by decide +kernel) ?_
      refine W.widen (k := 2) (n := 12) (by decide) (by decide) (vx_ret ?_)
      exact W.iret (v := (1 : Int32)) hx hb hr (fun t ht _ => ⟨⟨(1 : Int32), (), rfl, by rw [he]; rfl, show va_P (dC, dI) kcl (wl_L_root q5 q2 q1 q3 qs qo qh qw cyI cyJ w_o w_f w_r w_b w_a w_l t_S t_O t_H s_n t_W s_k v_s R) t.heap by rw [he, ht]; exact hP⟩, hS.F ht⟩) hS.2.2 dL_root_11
  · intro u H locs hok hP hD hS
    have hP : va_P (dC, dI) kcl (cl_W q5 q2 q1 q3 qs qo qh qw cyI cyJ w_o w_f w_r w_b w_a u.1 t_S t_O t_H s_n t_W s_k u.2) H := hP
    have hD : va_D A (cl_W q5 q2 q1 q3 qs qo qh qw cyI cyJ w_o w_f w_r w_b w_a u.1 t_S t_O t_H s_n t_W s_k u.2) := hD
    refine lv_goto (tgt := 12) hx hb dL_root_6 (by decide) ?_
    refine lv_iconst (v := (0 : Int32)) hx hb dL_root_12 (by decide +kernel) ?_
    refine W.widen (k := 2) (n := 12) (by decide) (by decide) (vx_ret ?_)
    exact W.iret (v := (0 : Int32)) hx hb hr (fun t ht _ => ⟨⟨(0 : Int32), (), rfl, by rw [hok]; rfl, show va_P (dC, dI) kcl (wl_L_root q5 q2 q1 q3 qs qo qh qw cyI cyJ w_o w_f w_r w_b w_a w_l t_S t_O t_H s_n t_W s_k v_s R) t.heap by rw [hok, ht]; exact hP⟩, hS.F ht⟩) hS.2.2 dL_root_13
def wl_L_rules (q5 q2 q1 q3 qs qo qh qw : Nat) (cyI cyJ : ClassId) (w_o : Int32) (w_f : Int32) (w_r : Int32) (w_b : Int32) (w_a : Int32) (w_l : Int64) (t_S : Nat → Int64) (t_O : Nat → Int32) (t_H : Nat → Int32) (s_n : Int32) (t_W : Nat → Int32) (s_k : Int32) (v_s : Int64) : Except String (Int32 × Int32 × Int64) → va_W
  | .ok u => (cl_W q5 q2 q1 q3 qs qo qh qw cyI cyJ w_o w_f w_r u.1 u.2.1 w_l t_S t_O t_H s_n t_W s_k u.2.2)
  | .error _ => (cl_W q5 q2 q1 q3 qs qo qh qw cyI cyJ w_o w_f w_r w_b w_a w_l t_S t_O t_H s_n t_W s_k v_s)
set_option maxHeartbeats 4000000 in
set_option maxRecDepth 100000 in
theorem c_L_rules (l : Launch) (hl0 : l.stackTraces = false) (dC : Nat → ClassId) (dI : Nat → Nat → Nat) (q5 q2 q1 q3 qs qo qh qw : Nat) (cyI cyJ : ClassId) (w_o : Int32) (w_f : Int32) (w_r : Int32) (w_b : Int32) (w_a : Int32) (w_l : Int64) (t_S : Nat → Int64) (t_O : Nat → Int32) (t_H : Nat → Int32) (s_n : Int32) (t_W : Nat → Int32) (s_k : Int32) (v_s : Int64) (sz : Nat) (a0 : Int32) (a1 : Int32)   (R : Except String (Int32 × Int32 × Int64)) (hR : (cf_X5_rules w_o w_f w_r w_b w_a w_l v_s a0 a1) = R) (hRE : ∀ E, R = .error E → E = ex_A) : vx_Met l yL_rules wsL_rules ({ frames := 8, cells := 2, slots := 12, locals := 126 }) (xw_P [.ref q5, .int a0, .int a1] sz (dC, dI) kcl (cl_W q5 q2 q1 q3 qs qo qh qw cyI cyJ w_o w_f w_r w_b w_a w_l t_S t_O t_H s_n t_W s_k v_s) [(cyI, .int), (cyJ, .long)]) (va_Qi (fun k (_ : Unit) => k = xl_k R) (fun _ t => va_P (dC, dI) kcl (wl_L_rules q5 q2 q1 q3 qs qo qh qw cyI cyJ w_o w_f w_r w_b w_a w_l t_S t_O t_H s_n t_W s_k v_s R) t.heap) (va_A (cl_W q5 q2 q1 q3 qs qo qh qw cyI cyJ w_o w_f w_r w_b w_a w_l t_S t_O t_H s_n t_W s_k v_s) sz)) (fun _ _ _ => False) 2 12 (va_A (cl_W q5 q2 q1 q3 qs qo qh qw cyI cyJ w_o w_f w_r w_b w_a w_l t_S t_O t_H s_n t_W s_k v_s) sz) := by
  refine vx_ofWH (cc := cL_rules) (maxL := 4) (ret := (some .int)) (hh := [(0, 6, 9, 13)]) (by decide) rfl ?_
  intro p e s m args below meth c s₁ B hml hv
  obtain ⟨rfl, hsz, hP, hK, hD0, hZ⟩ := hv
  have hx := B.exec
  have hb := B.bytes
  have hr := B.returns
  have hts := atoms_spec (ws := wsL_rules) B.pre
  have hown : s.vm.findClass RL = some m.cls := findClass_of_methodNamed B.named
  have hlocks := B.notSynchronized
  have htb : c.exceptionTable.toList = tableOf [(0, 6, 9, 13)] := vx_table (x := yL_rules) B (hts _ List.mem_cons_self)
  subst hsz
  have hD := hD0.self (sz := s.heap.size)
  generalize hAe : va_A (cl_W q5 q2 q1 q3 qs qo qh qw cyI cyJ w_o w_f w_r w_b w_a w_l t_S t_O t_H s_n t_W s_k v_s) s.heap.size = A at hD hZ ⊢
  have hA : ∀ q : Nat, s.heap.size ≤ q → A q := fun q h => by rw [← hAe]; exact Or.inr h
  have hP : va_P (dC, dI) kcl (cl_W q5 q2 q1 q3 qs qo qh qw cyI cyJ w_o w_f w_r w_b w_a w_l t_S t_O t_H s_n t_W s_k v_s) s.heap := hP
  have hl := lv_entry ([.ref q5, .int a0, .int a1]) (n := 4) (Nat.le_of_ble_eq_true rfl)
  rw [lg_entry_eq]
  generalize (lg_sl ([.ref q5, .int a0, .int a1]) ++ List.replicate (4 - (lg_sl ([.ref q5, .int a0, .int a1])).length) Slot.unset).toArray = ls at hl ⊢
  have hl : lv_has ls 4 [(0, .ref q5), (1, .int a0), (2, .int a1)] := hl
  refine mu_start (A := A) (fun H locs hP hS => ?_) hP
  refine lv_aload_n hx hb dL_rules_0 rfl (lv_at hl 0 rfl) ?_
  refine lv_iload_n hx hb dL_rules_1 rfl (lv_at hl 1 rfl) ?_
  refine lv_iload_n hx hb dL_rules_2 rfl (lv_at hl 2 rfl) ?_
  refine xl_callv (wr := []) (vx_runV (As := [.int a0, .int a1]) (rest := []) ⟨hx, hb, hml, hown, hts⟩ (c_X5_rules l hl0 dC dI q5 q2 q1 q3 qs qo qh qw cyI cyJ w_o w_f w_r w_b w_a w_l t_S t_O t_H s_n t_W s_k v_s H.size a0 a1   R hR) (cwV 2 hts gL_rules_X5_rules rfl rfl rfl (by decide +kernel) ⟨Nat.le_of_ble_eq_true rfl, Nat.le_of_ble_eq_true rfl⟩) ⟨xw_blind, va_recv hK hP (ci := 3) (q0 := 0) rfl rfl, fun U hU hW => ⟨rfl, by rw [hU], by rw [hU]; exact hP.sub [0, 1, 2, 3, 4, 5, 6, 7] rfl, va_K.moved hW.alike (hK.sub [0, 1] rfl), (hD.sub [0, 1, 2, 3, 4, 5, 6, 7] (by decide) rfl).weaken (fun _ _ _ _ => trivial), by rw [hU]; exact ((hZ.kept hS.2.1).narrow (fun q h => va_free hD hS hA [0, 1, 2, 3, 4, 5, 6, 7] rfl q h)).warm hW⟩⟩ rfl rfl hl.1 rfl (lv_room (Nat.le_of_ble_eq_true rfl)) dL_rules_3 ⟨Nat.le_of_ble_eq_true rfl, Nat.le_of_ble_eq_true rfl⟩) hP hD hS hA [0, 1, 2, 3, 4, 5, 6, 7] [] rfl rfl (by decide) (by decide) (by decide) (fun _ => rfl) ?_ ?_
  · intro E ce q9 H locs he hP hS hce hv9 hcl
    have hEq := hRE E he
    subst hEq
    · refine ct_W1 (name := ex_A) hown htb (by decide) (by decide) (hts (.classLink RL 13 ex_A) (by decide +kernel)) (va_tabs rfl rfl (hZ.2.2.2.2.2.1 (.castable ex_A ex_A) (by decide +kernel))) hce hv9 hcl ?_
      refine lv_astore_n (lv' := [(3, .ref q9), (0, .ref q5), (1, .int a0), (2, .int a1)]) hx hb dL_rules_9 rfl hl (by decide) rfl (fun ls hl => ?_)
      refine lv_iconst (v := (1 : Int32)) hx hb dL_rules_10 (by decide +kernel) ?_
      refine W.widen (k := 2) (n := 12) (by decide) (by decide) (vx_ret ?_)
      exact W.iret (v := (1 : Int32)) hx hb hr (fun t ht _ => ⟨⟨(1 : Int32), (), rfl, by rw [he]; rfl, show va_P (dC, dI) kcl (wl_L_rules q5 q2 q1 q3 qs qo qh qw cyI cyJ w_o w_f w_r w_b w_a w_l t_S t_O t_H s_n t_W s_k v_s R) t.heap by rw [he, ht]; exact hP⟩, hS.F ht⟩) hS.2.2 dL_rules_11
  · intro u H locs hok hP hD hS
    have hP : va_P (dC, dI) kcl (cl_W q5 q2 q1 q3 qs qo qh qw cyI cyJ w_o w_f w_r u.1 u.2.1 w_l t_S t_O t_H s_n t_W s_k u.2.2) H := hP
    have hD : va_D A (cl_W q5 q2 q1 q3 qs qo qh qw cyI cyJ w_o w_f w_r u.1 u.2.1 w_l t_S t_O t_H s_n t_W s_k u.2.2) := hD
    refine lv_goto (tgt := 12) hx hb dL_rules_6 (by decide) ?_
    refine lv_iconst (v := (0 : Int32)) hx hb dL_rules_12 (by decide +kernel) ?_
    refine W.widen (k := 2) (n := 12) (by decide) (by decide) (vx_ret ?_)
    exact W.iret (v := (0 : Int32)) hx hb hr (fun t ht _ => ⟨⟨(0 : Int32), (), rfl, by rw [hok]; rfl, show va_P (dC, dI) kcl (wl_L_rules q5 q2 q1 q3 qs qo qh qw cyI cyJ w_o w_f w_r w_b w_a w_l t_S t_O t_H s_n t_W s_k v_s R) t.heap by rw [hok, ht]; exact hP⟩, hS.F ht⟩) hS.2.2 dL_rules_13
def wl_L_find (qx q5 q2 q1 q3 qs qo qh qw : Nat) (cyI cyJ : ClassId) (g_X : Nat → Int64) (w_o : Int32) (w_f : Int32) (w_r : Int32) (w_b : Int32) (w_a : Int32) (w_l : Int64) (t_S : Nat → Int64) (t_O : Nat → Int32) (t_H : Nat → Int32) (s_n : Int32) (t_W : Nat → Int32) (s_k : Int32) (v_s : Int64) : Except String (((Nat → Int64) × (Nat → Int32) × (Nat → Int32) × Int32 × (Nat → Int32) × Int32) × Int32) → va_W
  | .ok (u, r) => (lw_W qx q5 q2 q1 q3 qs qo qh qw cyI cyJ (vp_updL g_X ((0 : Int32)).toNatClampNeg (r.toInt64)) w_o w_f w_r w_b w_a w_l u.1 u.2.1 u.2.2.1 u.2.2.2.1 u.2.2.2.2.1 u.2.2.2.2.2 v_s)
  | .error _ => (lw_W qx q5 q2 q1 q3 qs qo qh qw cyI cyJ g_X w_o w_f w_r w_b w_a w_l t_S t_O t_H s_n t_W s_k v_s)
set_option maxHeartbeats 4000000 in
set_option maxRecDepth 100000 in
theorem c_L_find (l : Launch) (hl0 : l.stackTraces = false) (dC : Nat → ClassId) (dI : Nat → Nat → Nat) (qx q5 q2 q1 q3 qs qo qh qw : Nat) (cyI cyJ : ClassId) (g_X : Nat → Int64) (w_o : Int32) (w_f : Int32) (w_r : Int32) (w_b : Int32) (w_a : Int32) (w_l : Int64) (t_S : Nat → Int64) (t_O : Nat → Int32) (t_H : Nat → Int32) (s_n : Int32) (t_W : Nat → Int32) (s_k : Int32) (v_s : Int64) (sz : Nat) (fu : Nat) (a0 : Int32) (hw_r : w_r ≤ 3) (hV : (vc_X5_find fu w_o w_f w_r w_b w_a w_l t_S t_O t_H s_n t_W s_k a0)) (R : Except String (((Nat → Int64) × (Nat → Int32) × (Nat → Int32) × Int32 × (Nat → Int32) × Int32) × Int32)) (hR : (cf_X5_find fu w_o w_f w_r w_b w_a w_l t_S t_O t_H s_n t_W s_k a0) = R) (hRE : ∀ E, R = .error E → E = ex_A) : vx_Met l yL_find wsL_find ({ frames := 8, cells := 1, slots := 6, locals := 198 }) (xw_P [.ref q5, .int a0, .ref qx] sz (dC, dI) kcl (lw_W qx q5 q2 q1 q3 qs qo qh qw cyI cyJ g_X w_o w_f w_r w_b w_a w_l t_S t_O t_H s_n t_W s_k v_s) [(cyI, .int), (cyJ, .long)]) (va_Qi (fun k (_ : Unit) => k = xl_k R) (fun _ t => va_P (dC, dI) kcl (wl_L_find qx q5 q2 q1 q3 qs qo qh qw cyI cyJ g_X w_o w_f w_r w_b w_a w_l t_S t_O t_H s_n t_W s_k v_s R) t.heap) (va_A (lw_W qx q5 q2 q1 q3 qs qo qh qw cyI cyJ g_X w_o w_f w_r w_b w_a w_l t_S t_O t_H s_n t_W s_k v_s) sz)) (fun _ _ _ => False) 1 6 (va_A (lw_W qx q5 q2 q1 q3 qs qo qh qw cyI cyJ g_X w_o w_f w_r w_b w_a w_l t_S t_O t_H s_n t_W s_k v_s) sz) := by
  refine vx_ofWH (cc := cL_find) (maxL := 4) (ret := (some .int)) (hh := [(0, 9, 12, 13)]) (by decide) rfl ?_
  intro p e s m args below meth c s₁ B hml hv
  obtain ⟨rfl, hsz, hP, hK, hD0, hZ⟩ := hv
  have hx := B.exec
  have hb := B.bytes
  have hr := B.returns
  have hts := atoms_spec (ws := wsL_find) B.pre
  have hown : s.vm.findClass RL = some m.cls := findClass_of_methodNamed B.named
  have hlocks := B.notSynchronized
  have htb : c.exceptionTable.toList = tableOf [(0, 9, 12, 13)] := vx_table (x := yL_find) B (hts _ List.mem_cons_self)
  subst hsz
  have hD := hD0.self (sz := s.heap.size)
  generalize hAe : va_A (lw_W qx q5 q2 q1 q3 qs qo qh qw cyI cyJ g_X w_o w_f w_r w_b w_a w_l t_S t_O t_H s_n t_W s_k v_s) s.heap.size = A at hD hZ ⊢
  have hA : ∀ q : Nat, s.heap.size ≤ q → A q := fun q h => by rw [← hAe]; exact Or.inr h
  have hP : va_P (dC, dI) kcl (lw_W qx q5 q2 q1 q3 qs qo qh qw cyI cyJ g_X w_o w_f w_r w_b w_a w_l t_S t_O t_H s_n t_W s_k v_s) s.heap := hP
  have hl := lv_entry ([.ref q5, .int a0, .ref qx]) (n := 4) (Nat.le_of_ble_eq_true rfl)
  rw [lg_entry_eq]
  generalize (lg_sl ([.ref q5, .int a0, .ref qx]) ++ List.replicate (4 - (lg_sl ([.ref q5, .int a0, .ref qx])).length) Slot.unset).toArray = ls at hl ⊢
  have hl : lv_has ls 4 [(0, .ref q5), (1, .int a0), (2, .ref qx)] := hl
  refine mu_start (A := A) (fun H locs hP hS => ?_) hP
  refine lv_aload_n hx hb dL_find_0 rfl (lv_at hl 2 rfl) ?_
  refine lv_iconst (v := (0 : Int32)) hx hb dL_find_1 (by decide +kernel) ?_
  refine lv_aload_n hx hb dL_find_2 rfl (lv_at hl 0 rfl) ?_
  refine lv_iload_n hx hb dL_find_3 rfl (lv_at hl 1 rfl) ?_
  refine xl_calli (wr := [(qx, .inl (cyJ, 1, .inr (.inl g_X)))]) (vx_runV (As := [.int a0]) (rest := [.int (0 : Int32), .ref qx]) ⟨hx, hb, hml, hown, hts⟩ (c_X5_find l hl0 dC dI q5 q2 q1 q3 qs qo qh qw cyI cyJ w_o w_f w_r w_b w_a w_l t_S t_O t_H s_n t_W s_k v_s H.size fu a0 hw_r hV R hR) (cwV 1 hts gL_find_X5_find rfl rfl rfl (by decide +kernel) ⟨Nat.le_of_ble_eq_true rfl, Nat.le_of_ble_eq_true rfl⟩) ⟨xw_blind, va_recv hK hP (ci := 3) (q0 := 1) rfl rfl, fun U hU hW => ⟨rfl, by rw [hU], by rw [hU]; exact hP.sub [1, 2, 3, 4, 5, 6, 7, 8] rfl, va_K.moved hW.alike (hK.sub [0, 1] rfl), (hD.sub [1, 2, 3, 4, 5, 6, 7, 8] (by decide) rfl).weaken (fun _ _ _ _ => trivial), by rw [hU]; exact ((hZ.kept hS.2.1).narrow (fun q h => va_free hD hS hA [1, 2, 3, 4, 5, 6, 7, 8] rfl q h)).warm hW⟩⟩ rfl rfl hl.1 rfl (lv_room (Nat.le_of_ble_eq_true rfl)) dL_find_4 ⟨Nat.le_of_ble_eq_true rfl, Nat.le_of_ble_eq_true rfl⟩) hP hD hS hA [1, 2, 3, 4, 5, 6, 7, 8] [0] rfl rfl (by decide) (by decide) (by decide) (fun _ => rfl) ?_ ?_
  · intro E ce q9 H locs he hP hS hce hv9 hcl
    have hEq := hRE E he
    subst hEq
    · refine ct_W1 (name := ex_A) hown htb (by decide) (by decide) (hts (.classLink RL 13 ex_A) (by decide +kernel)) (va_tabs rfl rfl (hZ.2.2.2.2.2.1 (.castable ex_A ex_A) (by decide +kernel))) hce hv9 hcl ?_
      refine lv_astore_n (lv' := [(3, .ref q9), (0, .ref q5), (1, .int a0), (2, .ref qx)]) hx hb dL_find_12 rfl hl (by decide) rfl (fun ls hl => ?_)
      refine lv_iconst (v := (1 : Int32)) hx hb dL_find_13 (by decide +kernel) ?_
      refine W.widen (k := 1) (n := 6) (by decide) (by decide) (vx_ret ?_)
      exact W.iret (v := (1 : Int32)) hx hb hr (fun t ht _ => ⟨⟨(1 : Int32), (), rfl, by rw [he]; rfl, show va_P (dC, dI) kcl (wl_L_find qx q5 q2 q1 q3 qs qo qh qw cyI cyJ g_X w_o w_f w_r w_b w_a w_l t_S t_O t_H s_n t_W s_k v_s R) t.heap by rw [he, ht]; exact hP⟩, hS.F ht⟩) hS.2.2 dL_find_14
  · intro u r H locs hok hP hD hS
    have hP : va_P (dC, dI) kcl (lw_W qx q5 q2 q1 q3 qs qo qh qw cyI cyJ g_X w_o w_f w_r w_b w_a w_l u.1 u.2.1 u.2.2.1 u.2.2.2.1 u.2.2.2.2.1 u.2.2.2.2.2 v_s) H := hP
    have hD : va_D A (lw_W qx q5 q2 q1 q3 qs qo qh qw cyI cyJ g_X w_o w_f w_r w_b w_a w_l u.1 u.2.1 u.2.2.1 u.2.2.2.1 u.2.2.2.2.1 u.2.2.2.2.2 v_s) := hD
    refine lv_i2l (v := (r.toInt64)) hx hb dL_find_7 rfl ?_
    refine va_last hx hb hK hP hD hS 0 1 rfl rfl (by unfold vp_in; decide +kernel) dL_find_8 (fun H locs hP hD hS => ?_)
    have hP : va_P (dC, dI) kcl (lw_W qx q5 q2 q1 q3 qs qo qh qw cyI cyJ (vp_updL g_X ((0 : Int32)).toNatClampNeg (r.toInt64)) w_o w_f w_r w_b w_a w_l u.1 u.2.1 u.2.2.1 u.2.2.2.1 u.2.2.2.2.1 u.2.2.2.2.2 v_s) H := hP
    have hD : va_D A (lw_W qx q5 q2 q1 q3 qs qo qh qw cyI cyJ (vp_updL g_X ((0 : Int32)).toNatClampNeg (r.toInt64)) w_o w_f w_r w_b w_a w_l u.1 u.2.1 u.2.2.1 u.2.2.2.1 u.2.2.2.2.1 u.2.2.2.2.2 v_s) := hD
    refine lv_goto (tgt := 15) hx hb dL_find_9 (by decide) ?_
    refine lv_iconst (v := (0 : Int32)) hx hb dL_find_15 (by decide +kernel) ?_
    refine W.widen (k := 1) (n := 6) (by decide) (by decide) (vx_ret ?_)
    exact W.iret (v := (0 : Int32)) hx hb hr (fun t ht _ => ⟨⟨(0 : Int32), (), rfl, by rw [hok]; rfl, show va_P (dC, dI) kcl (wl_L_find qx q5 q2 q1 q3 qs qo qh qw cyI cyJ g_X w_o w_f w_r w_b w_a w_l t_S t_O t_H s_n t_W s_k v_s R) t.heap by rw [hok, ht]; exact hP⟩, hS.F ht⟩) hS.2.2 dL_find_16
def wl_L_act (qx q5 q2 q1 q3 qs qo qh qw : Nat) (cyI cyJ : ClassId) (g_X : Nat → Int64) (w_o : Int32) (w_f : Int32) (w_r : Int32) (w_b : Int32) (w_a : Int32) (w_l : Int64) (t_S : Nat → Int64) (t_O : Nat → Int32) (t_H : Nat → Int32) (s_n : Int32) (t_W : Nat → Int32) (s_k : Int32) (v_s : Int64) : Except String ((Unit) × Int32) → va_W
  | .ok (u, r) => (lw_W qx q5 q2 q1 q3 qs qo qh qw cyI cyJ (vp_updL g_X ((0 : Int32)).toNatClampNeg (r.toInt64)) w_o w_f w_r w_b w_a w_l t_S t_O t_H s_n t_W s_k v_s)
  | .error _ => (lw_W qx q5 q2 q1 q3 qs qo qh qw cyI cyJ g_X w_o w_f w_r w_b w_a w_l t_S t_O t_H s_n t_W s_k v_s)
set_option maxHeartbeats 4000000 in
set_option maxRecDepth 100000 in
theorem c_L_act (l : Launch) (hl0 : l.stackTraces = false) (dC : Nat → ClassId) (dI : Nat → Nat → Nat) (qx q5 q2 q1 q3 qs qo qh qw : Nat) (cyI cyJ : ClassId) (g_X : Nat → Int64) (w_o : Int32) (w_f : Int32) (w_r : Int32) (w_b : Int32) (w_a : Int32) (w_l : Int64) (t_S : Nat → Int64) (t_O : Nat → Int32) (t_H : Nat → Int32) (s_n : Int32) (t_W : Nat → Int32) (s_k : Int32) (v_s : Int64) (sz : Nat) (a0 : Int32)  (hV : (vc_X5_act t_W s_k a0)) (R : Except String ((Unit) × Int32)) (hR : (cf_X5_act t_W s_k a0) = R) (hRE : ∀ E, R = .error E → E = ex_I) : vx_Met l yL_act wsL_act ({ frames := 7, cells := 1, slots := 6, locals := 103 }) (xw_P [.ref q5, .int a0, .ref qx] sz (dC, dI) kcl (lw_W qx q5 q2 q1 q3 qs qo qh qw cyI cyJ g_X w_o w_f w_r w_b w_a w_l t_S t_O t_H s_n t_W s_k v_s) [(cyI, .int), (cyJ, .long)]) (va_Qi (fun k (_ : Unit) => k = xl_k R) (fun _ t => va_P (dC, dI) kcl (wl_L_act qx q5 q2 q1 q3 qs qo qh qw cyI cyJ g_X w_o w_f w_r w_b w_a w_l t_S t_O t_H s_n t_W s_k v_s R) t.heap) (va_A (lw_W qx q5 q2 q1 q3 qs qo qh qw cyI cyJ g_X w_o w_f w_r w_b w_a w_l t_S t_O t_H s_n t_W s_k v_s) sz)) (fun _ _ _ => False) 1 6 (va_A (lw_W qx q5 q2 q1 q3 qs qo qh qw cyI cyJ g_X w_o w_f w_r w_b w_a w_l t_S t_O t_H s_n t_W s_k v_s) sz) := by
  refine vx_ofWH (cc := cL_act) (maxL := 4) (ret := (some .int)) (hh := [(0, 9, 12, 32)]) (by decide) rfl ?_
  intro p e s m args below meth c s₁ B hml hv
  obtain ⟨rfl, hsz, hP, hK, hD0, hZ⟩ := hv
  have hx := B.exec
  have hb := B.bytes
  have hr := B.returns
  have hts := atoms_spec (ws := wsL_act) B.pre
  have hown : s.vm.findClass RL = some m.cls := findClass_of_methodNamed B.named
  have hlocks := B.notSynchronized
  have htb : c.exceptionTable.toList = tableOf [(0, 9, 12, 32)] := vx_table (x := yL_act) B (hts _ List.mem_cons_self)
  subst hsz
  have hD := hD0.self (sz := s.heap.size)
  generalize hAe : va_A (lw_W qx q5 q2 q1 q3 qs qo qh qw cyI cyJ g_X w_o w_f w_r w_b w_a w_l t_S t_O t_H s_n t_W s_k v_s) s.heap.size = A at hD hZ ⊢
  have hA : ∀ q : Nat, s.heap.size ≤ q → A q := fun q h => by rw [← hAe]; exact Or.inr h
  have hP : va_P (dC, dI) kcl (lw_W qx q5 q2 q1 q3 qs qo qh qw cyI cyJ g_X w_o w_f w_r w_b w_a w_l t_S t_O t_H s_n t_W s_k v_s) s.heap := hP
  have hl := lv_entry ([.ref q5, .int a0, .ref qx]) (n := 4) (Nat.le_of_ble_eq_true rfl)
  rw [lg_entry_eq]
  generalize (lg_sl ([.ref q5, .int a0, .ref qx]) ++ List.replicate (4 - (lg_sl ([.ref q5, .int a0, .ref qx])).length) Slot.unset).toArray = ls at hl ⊢
  have hl : lv_has ls 4 [(0, .ref q5), (1, .int a0), (2, .ref qx)] := hl
  refine mu_start (A := A) (fun H locs hP hS => ?_) hP
  refine lv_aload_n hx hb dL_act_0 rfl (lv_at hl 2 rfl) ?_
  refine lv_iconst (v := (0 : Int32)) hx hb dL_act_1 (by decide +kernel) ?_
  refine lv_aload_n hx hb dL_act_2 rfl (lv_at hl 0 rfl) ?_
  refine lv_iload_n hx hb dL_act_3 rfl (lv_at hl 1 rfl) ?_
  refine xl_calli (wr := [(qx, .inl (cyJ, 1, .inr (.inl g_X)))]) (vx_runV (As := [.int a0]) (rest := [.int (0 : Int32), .ref qx]) ⟨hx, hb, hml, hown, hts⟩ (c_X5_act l hl0 dC dI q5 q2 q1 q3 qs qo qh qw cyI cyJ w_o w_f w_r w_b w_a w_l t_S t_O t_H s_n t_W s_k v_s H.size a0  hV R hR) (cwV 1 hts gL_act_X5_act rfl rfl rfl (by decide +kernel) ⟨Nat.le_of_ble_eq_true rfl, Nat.le_of_ble_eq_true rfl⟩) ⟨xw_blind, va_recv hK hP (ci := 3) (q0 := 1) rfl rfl, fun U hU hW => ⟨rfl, by rw [hU], by rw [hU]; exact hP.sub [1, 2, 3, 4, 5, 6, 7, 8] rfl, va_K.moved hW.alike (hK.sub [0, 1] rfl), (hD.sub [1, 2, 3, 4, 5, 6, 7, 8] (by decide) rfl).weaken (fun _ _ _ _ => trivial), by rw [hU]; exact ((hZ.kept hS.2.1).narrow (fun q h => va_free hD hS hA [1, 2, 3, 4, 5, 6, 7, 8] rfl q h)).warm hW⟩⟩ rfl rfl hl.1 rfl (lv_room (Nat.le_of_ble_eq_true rfl)) dL_act_4 ⟨Nat.le_of_ble_eq_true rfl, Nat.le_of_ble_eq_true rfl⟩) hP hD hS hA [1, 2, 3, 4, 5, 6, 7, 8] [0] rfl rfl (by decide) (by decide) (by decide) (fun _ => rfl) ?_ ?_
  · intro E ce q9 H locs he hP hS hce hv9 hcl
    have hEq := hRE E he
    subst hEq
    · refine ct_W1 (name := ex_I) hown htb (by decide) (by decide) (hts (.classLink RL 32 ex_I) (by decide +kernel)) (va_tabs rfl rfl (hZ.2.2.2.2.2.2.1 (.castable ex_I ex_I) (by decide +kernel))) hce hv9 hcl ?_
      refine lv_astore_n (lv' := [(3, .ref q9), (0, .ref q5), (1, .int a0), (2, .ref qx)]) hx hb dL_act_12 rfl hl (by decide) rfl (fun ls hl => ?_)
      refine lv_iconst (v := (1 : Int32)) hx hb dL_act_13 (by decide +kernel) ?_
      refine W.widen (k := 1) (n := 6) (by decide) (by decide) (vx_ret ?_)
      exact W.iret (v := (1 : Int32)) hx hb hr (fun t ht _ => ⟨⟨(1 : Int32), (), rfl, by rw [he]; rfl, show va_P (dC, dI) kcl (wl_L_act qx q5 q2 q1 q3 qs qo qh qw cyI cyJ g_X w_o w_f w_r w_b w_a w_l t_S t_O t_H s_n t_W s_k v_s R) t.heap by rw [he, ht]; exact hP⟩, hS.F ht⟩) hS.2.2 dL_act_14
  · intro u r H locs hok hP hD hS
    have hP : va_P (dC, dI) kcl (lw_W qx q5 q2 q1 q3 qs qo qh qw cyI cyJ g_X w_o w_f w_r w_b w_a w_l t_S t_O t_H s_n t_W s_k v_s) H := hP
    have hD : va_D A (lw_W qx q5 q2 q1 q3 qs qo qh qw cyI cyJ g_X w_o w_f w_r w_b w_a w_l t_S t_O t_H s_n t_W s_k v_s) := hD
    refine lv_i2l (v := (r.toInt64)) hx hb dL_act_7 rfl ?_
    refine va_last hx hb hK hP hD hS 0 1 rfl rfl (by unfold vp_in; decide +kernel) dL_act_8 (fun H locs hP hD hS => ?_)
    have hP : va_P (dC, dI) kcl (lw_W qx q5 q2 q1 q3 qs qo qh qw cyI cyJ (vp_updL g_X ((0 : Int32)).toNatClampNeg (r.toInt64)) w_o w_f w_r w_b w_a w_l t_S t_O t_H s_n t_W s_k v_s) H := hP
    have hD : va_D A (lw_W qx q5 q2 q1 q3 qs qo qh qw cyI cyJ (vp_updL g_X ((0 : Int32)).toNatClampNeg (r.toInt64)) w_o w_f w_r w_b w_a w_l t_S t_O t_H s_n t_W s_k v_s) := hD
    refine lv_goto (tgt := 15) hx hb dL_act_9 (by decide) ?_
    refine lv_iconst (v := (0 : Int32)) hx hb dL_act_15 (by decide +kernel) ?_
    refine W.widen (k := 1) (n := 6) (by decide) (by decide) (vx_ret ?_)
    exact W.iret (v := (0 : Int32)) hx hb hr (fun t ht _ => ⟨⟨(0 : Int32), (), rfl, by rw [hok]; rfl, show va_P (dC, dI) kcl (wl_L_act qx q5 q2 q1 q3 qs qo qh qw cyI cyJ g_X w_o w_f w_r w_b w_a w_l t_S t_O t_H s_n t_W s_k v_s R) t.heap by rw [hok, ht]; exact hP⟩, hS.F ht⟩) hS.2.2 dL_act_16
def wl_L_play (qx q5 q2 q1 q3 qs qo qh qw : Nat) (cyI cyJ : ClassId) (g_X : Nat → Int64) (w_o : Int32) (w_f : Int32) (w_r : Int32) (w_b : Int32) (w_a : Int32) (w_l : Int64) (t_S : Nat → Int64) (t_O : Nat → Int32) (t_H : Nat → Int32) (s_n : Int32) (t_W : Nat → Int32) (s_k : Int32) (v_s : Int64) : Except String ((Int64) × Int32) → va_W
  | .ok (u, r) => (lw_W qx q5 q2 q1 q3 qs qo qh qw cyI cyJ (vp_updL g_X ((0 : Int32)).toNatClampNeg (r.toInt64)) w_o w_f w_r w_b w_a w_l t_S t_O t_H s_n t_W s_k u)
  | .error _ => (lw_W qx q5 q2 q1 q3 qs qo qh qw cyI cyJ g_X w_o w_f w_r w_b w_a w_l t_S t_O t_H s_n t_W s_k v_s)
set_option maxHeartbeats 4000000 in
set_option maxRecDepth 100000 in
theorem c_L_play (l : Launch) (hl0 : l.stackTraces = false) (dC : Nat → ClassId) (dI : Nat → Nat → Nat) (qx q5 q2 q1 q3 qs qo qh qw : Nat) (cyI cyJ : ClassId) (g_X : Nat → Int64) (w_o : Int32) (w_f : Int32) (w_r : Int32) (w_b : Int32) (w_a : Int32) (w_l : Int64) (t_S : Nat → Int64) (t_O : Nat → Int32) (t_H : Nat → Int32) (s_n : Int32) (t_W : Nat → Int32) (s_k : Int32) (v_s : Int64) (sz : Nat) (fu : Nat) (a0 : Int32) (hw_r : w_r ≤ 3) (hV : (vc_X5_play fu w_o w_f w_r w_b w_a w_l v_s a0)) (R : Except String ((Int64) × Int32)) (hR : (cf_X5_play fu w_o w_f w_r w_b w_a w_l v_s a0) = R) (hRE : ∀ E, R = .error E → E = ex_A ∨ E = ex_S) : vx_Met l yL_play wsL_play ({ frames := 8, cells := 2, slots := 12, locals := 171 }) (xw_P [.ref q5, .int a0, .ref qx] sz (dC, dI) kcl (lw_W qx q5 q2 q1 q3 qs qo qh qw cyI cyJ g_X w_o w_f w_r w_b w_a w_l t_S t_O t_H s_n t_W s_k v_s) [(cyI, .int), (cyJ, .long)]) (va_Qi (fun k (_ : Unit) => k = xl_k R) (fun _ t => va_P (dC, dI) kcl (wl_L_play qx q5 q2 q1 q3 qs qo qh qw cyI cyJ g_X w_o w_f w_r w_b w_a w_l t_S t_O t_H s_n t_W s_k v_s R) t.heap) (va_A (lw_W qx q5 q2 q1 q3 qs qo qh qw cyI cyJ g_X w_o w_f w_r w_b w_a w_l t_S t_O t_H s_n t_W s_k v_s) sz)) (fun _ _ _ => False) 2 12 (va_A (lw_W qx q5 q2 q1 q3 qs qo qh qw cyI cyJ g_X w_o w_f w_r w_b w_a w_l t_S t_O t_H s_n t_W s_k v_s) sz) := by
  refine vx_ofWH (cc := cL_play) (maxL := 4) (ret := (some .int)) (hh := [(0, 9, 12, 13), (0, 9, 15, 37)]) (by decide) rfl ?_
  intro p e s m args below meth c s₁ B hml hv
  obtain ⟨rfl, hsz, hP, hK, hD0, hZ⟩ := hv
  have hx := B.exec
  have hb := B.bytes
  have hr := B.returns
  have hts := atoms_spec (ws := wsL_play) B.pre
  have hown : s.vm.findClass RL = some m.cls := findClass_of_methodNamed B.named
  have hlocks := B.notSynchronized
  have htb : c.exceptionTable.toList = tableOf [(0, 9, 12, 13), (0, 9, 15, 37)] := vx_table (x := yL_play) B (hts _ List.mem_cons_self)
  subst hsz
  have hD := hD0.self (sz := s.heap.size)
  generalize hAe : va_A (lw_W qx q5 q2 q1 q3 qs qo qh qw cyI cyJ g_X w_o w_f w_r w_b w_a w_l t_S t_O t_H s_n t_W s_k v_s) s.heap.size = A at hD hZ ⊢
  have hA : ∀ q : Nat, s.heap.size ≤ q → A q := fun q h => by rw [← hAe]; exact Or.inr h
  have hP : va_P (dC, dI) kcl (lw_W qx q5 q2 q1 q3 qs qo qh qw cyI cyJ g_X w_o w_f w_r w_b w_a w_l t_S t_O t_H s_n t_W s_k v_s) s.heap := hP
  have hl := lv_entry ([.ref q5, .int a0, .ref qx]) (n := 4) (Nat.le_of_ble_eq_true rfl)
  rw [lg_entry_eq]
  generalize (lg_sl ([.ref q5, .int a0, .ref qx]) ++ List.replicate (4 - (lg_sl ([.ref q5, .int a0, .ref qx])).length) Slot.unset).toArray = ls at hl ⊢
  have hl : lv_has ls 4 [(0, .ref q5), (1, .int a0), (2, .ref qx)] := hl
  refine mu_start (A := A) (fun H locs hP hS => ?_) hP
  refine lv_aload_n hx hb dL_play_0 rfl (lv_at hl 2 rfl) ?_
  refine lv_iconst (v := (0 : Int32)) hx hb dL_play_1 (by decide +kernel) ?_
  refine lv_aload_n hx hb dL_play_2 rfl (lv_at hl 0 rfl) ?_
  refine lv_iload_n hx hb dL_play_3 rfl (lv_at hl 1 rfl) ?_
  refine xl_calli (wr := [(qx, .inl (cyJ, 1, .inr (.inl g_X)))]) (vx_runV (As := [.int a0]) (rest := [.int (0 : Int32), .ref qx]) ⟨hx, hb, hml, hown, hts⟩ (c_X5_play l hl0 dC dI q5 q2 q1 q3 qs qo qh qw cyI cyJ w_o w_f w_r w_b w_a w_l t_S t_O t_H s_n t_W s_k v_s H.size fu a0 hw_r hV R hR) (cwV 1 hts gL_play_X5_play rfl rfl rfl (by decide +kernel) ⟨Nat.le_of_ble_eq_true rfl, Nat.le_of_ble_eq_true rfl⟩) ⟨xw_blind, va_recv hK hP (ci := 3) (q0 := 1) rfl rfl, fun U hU hW => ⟨rfl, by rw [hU], by rw [hU]; exact hP.sub [1, 2, 3, 4, 5, 6, 7, 8] rfl, va_K.moved hW.alike (hK.sub [0, 1] rfl), (hD.sub [1, 2, 3, 4, 5, 6, 7, 8] (by decide) rfl).weaken (fun _ _ _ _ => trivial), by rw [hU]; exact ((hZ.kept hS.2.1).narrow (fun q h => va_free hD hS hA [1, 2, 3, 4, 5, 6, 7, 8] rfl q h)).warm hW⟩⟩ rfl rfl hl.1 rfl (lv_room (Nat.le_of_ble_eq_true rfl)) dL_play_4 ⟨Nat.le_of_ble_eq_true rfl, Nat.le_of_ble_eq_true rfl⟩) hP hD hS hA [1, 2, 3, 4, 5, 6, 7, 8] [0] rfl rfl (by decide) (by decide) (by decide) (fun _ => rfl) ?_ ?_
  · intro E ce q9 H locs he hP hS hce hv9 hcl
    rcases hRE E he with hEq | hEq
    · subst hEq
      refine ct_W1 (name := ex_A) hown htb (by decide) (by decide) (hts (.classLink RL 13 ex_A) (by decide +kernel)) (va_tabs rfl rfl (hZ.2.2.2.2.2.1 (.castable ex_A ex_A) (by decide +kernel))) hce hv9 hcl ?_
      refine lv_astore_n (lv' := [(3, .ref q9), (0, .ref q5), (1, .int a0), (2, .ref qx)]) hx hb dL_play_12 rfl hl (by decide) rfl (fun ls hl => ?_)
      refine lv_iconst (v := (1 : Int32)) hx hb dL_play_13 (by decide +kernel) ?_
      refine W.widen (k := 2) (n := 12) (by decide) (by decide) (vx_ret ?_)
      exact W.iret (v := (1 : Int32)) hx hb hr (fun t ht _ => ⟨⟨(1 : Int32), (), rfl, by rw [he]; rfl, show va_P (dC, dI) kcl (wl_L_play qx q5 q2 q1 q3 qs qo qh qw cyI cyJ g_X w_o w_f w_r w_b w_a w_l t_S t_O t_H s_n t_W s_k v_s R) t.heap by rw [he, ht]; exact hP⟩, hS.F ht⟩) hS.2.2 dL_play_14
    · subst hEq
      refine ct_W2 (nm := ex_A) (name := ex_S) hown htb (by decide) (by decide) (by decide) (by decide) (hts (.classLink RL 13 ex_A) (by decide +kernel)) hZ.2.2.2.2.2.2.2.2 (hts (.classLink RL 37 ex_S) (by decide +kernel)) (va_tabs rfl rfl (hZ.2.2.2.2.2.2.2.1 (.castable ex_S ex_S) (by decide +kernel))) hce hv9 hcl ?_
      refine lv_astore_n (lv' := [(3, .ref q9), (0, .ref q5), (1, .int a0), (2, .ref qx)]) hx hb dL_play_15 rfl hl (by decide) rfl (fun ls hl => ?_)
      refine lv_iconst (v := (2 : Int32)) hx hb dL_play_16 (by decide +kernel) ?_
      refine W.widen (k := 2) (n := 12) (by decide) (by decide) (vx_ret ?_)
      exact W.iret (v := (2 : Int32)) hx hb hr (fun t ht _ => ⟨⟨(2 : Int32), (), rfl, by rw [he]; rfl, show va_P (dC, dI) kcl (wl_L_play qx q5 q2 q1 q3 qs qo qh qw cyI cyJ g_X w_o w_f w_r w_b w_a w_l t_S t_O t_H s_n t_W s_k v_s R) t.heap by rw [he, ht]; exact hP⟩, hS.F ht⟩) hS.2.2 dL_play_17
  · intro u r H locs hok hP hD hS
    have hP : va_P (dC, dI) kcl (lw_W qx q5 q2 q1 q3 qs qo qh qw cyI cyJ g_X w_o w_f w_r w_b w_a w_l t_S t_O t_H s_n t_W s_k u) H := hP
    have hD : va_D A (lw_W qx q5 q2 q1 q3 qs qo qh qw cyI cyJ g_X w_o w_f w_r w_b w_a w_l t_S t_O t_H s_n t_W s_k u) := hD
    refine lv_i2l (v := (r.toInt64)) hx hb dL_play_7 rfl ?_
    refine va_last hx hb hK hP hD hS 0 1 rfl rfl (by unfold vp_in; decide +kernel) dL_play_8 (fun H locs hP hD hS => ?_)
    have hP : va_P (dC, dI) kcl (lw_W qx q5 q2 q1 q3 qs qo qh qw cyI cyJ (vp_updL g_X ((0 : Int32)).toNatClampNeg (r.toInt64)) w_o w_f w_r w_b w_a w_l t_S t_O t_H s_n t_W s_k u) H := hP
    have hD : va_D A (lw_W qx q5 q2 q1 q3 qs qo qh qw cyI cyJ (vp_updL g_X ((0 : Int32)).toNatClampNeg (r.toInt64)) w_o w_f w_r w_b w_a w_l t_S t_O t_H s_n t_W s_k u) := hD
    refine lv_goto (tgt := 18) hx hb dL_play_9 (by decide) ?_
    refine lv_iconst (v := (0 : Int32)) hx hb dL_play_18 (by decide +kernel) ?_
    refine W.widen (k := 2) (n := 12) (by decide) (by decide) (vx_ret ?_)
    exact W.iret (v := (0 : Int32)) hx hb hr (fun t ht _ => ⟨⟨(0 : Int32), (), rfl, by rw [hok]; rfl, show va_P (dC, dI) kcl (wl_L_play qx q5 q2 q1 q3 qs qo qh qw cyI cyJ g_X w_o w_f w_r w_b w_a w_l t_S t_O t_H s_n t_W s_k v_s R) t.heap by rw [hok, ht]; exact hP⟩, hS.F ht⟩) hS.2.2 dL_play_19
def wl_L_broken (qx q5 q2 q1 q3 qs qo qh qw : Nat) (cyI cyJ : ClassId) (g_X : Nat → Int64) (w_o : Int32) (w_f : Int32) (w_r : Int32) (w_b : Int32) (w_a : Int32) (w_l : Int64) (t_S : Nat → Int64) (t_O : Nat → Int32) (t_H : Nat → Int32) (s_n : Int32) (t_W : Nat → Int32) (s_k : Int32) (v_s : Int64) : Except String ((Unit) × Int32) → va_W
  | .ok (u, r) => (lw_W qx q5 q2 q1 q3 qs qo qh qw cyI cyJ (vp_updL g_X ((0 : Int32)).toNatClampNeg (if r = 0 then (0 : Int64) else (1 : Int64))) w_o w_f w_r w_b w_a w_l t_S t_O t_H s_n t_W s_k v_s)
  | .error _ => (lw_W qx q5 q2 q1 q3 qs qo qh qw cyI cyJ g_X w_o w_f w_r w_b w_a w_l t_S t_O t_H s_n t_W s_k v_s)
set_option maxHeartbeats 4000000 in
set_option maxRecDepth 100000 in
theorem c_L_broken (l : Launch) (hl0 : l.stackTraces = false) (dC : Nat → ClassId) (dI : Nat → Nat → Nat) (qx q5 q2 q1 q3 qs qo qh qw : Nat) (cyI cyJ : ClassId) (g_X : Nat → Int64) (w_o : Int32) (w_f : Int32) (w_r : Int32) (w_b : Int32) (w_a : Int32) (w_l : Int64) (t_S : Nat → Int64) (t_O : Nat → Int32) (t_H : Nat → Int32) (s_n : Int32) (t_W : Nat → Int32) (s_k : Int32) (v_s : Int64) (sz : Nat) (a0 : Int32)   (R : Except String ((Unit) × Int32)) (hR : (cf_X5_broken v_s a0) = R) (hRE : ∀ E, R = .error E → E = ex_A) : vx_Met l yL_broken wsL_broken ({ frames := 8, cells := 1, slots := 6, locals := 128 }) (xw_P [.ref q5, .int a0, .ref qx] sz (dC, dI) kcl (lw_W qx q5 q2 q1 q3 qs qo qh qw cyI cyJ g_X w_o w_f w_r w_b w_a w_l t_S t_O t_H s_n t_W s_k v_s) [(cyI, .int), (cyJ, .long)]) (va_Qi (fun k (_ : Unit) => k = xl_k R) (fun _ t => va_P (dC, dI) kcl (wl_L_broken qx q5 q2 q1 q3 qs qo qh qw cyI cyJ g_X w_o w_f w_r w_b w_a w_l t_S t_O t_H s_n t_W s_k v_s R) t.heap) (va_A (lw_W qx q5 q2 q1 q3 qs qo qh qw cyI cyJ g_X w_o w_f w_r w_b w_a w_l t_S t_O t_H s_n t_W s_k v_s) sz)) (fun _ _ _ => False) 1 6 (va_A (lw_W qx q5 q2 q1 q3 qs qo qh qw cyI cyJ g_X w_o w_f w_r w_b w_a w_l t_S t_O t_H s_n t_W s_k v_s) sz) := by
  refine vx_ofWH (cc := cL_broken) (maxL := 4) (ret := (some .int)) (hh := [(0, 16, 19, 13)]) (by decide) rfl ?_
  intro p e s m args below meth c s₁ B hml hv
  obtain ⟨rfl, hsz, hP, hK, hD0, hZ⟩ := hv
  have hx := B.exec
  have hb := B.bytes
  have hr := B.returns
  have hts := atoms_spec (ws := wsL_broken) B.pre
  have hown : s.vm.findClass RL = some m.cls := findClass_of_methodNamed B.named
  have hlocks := B.notSynchronized
  have htb : c.exceptionTable.toList = tableOf [(0, 16, 19, 13)] := vx_table (x := yL_broken) B (hts _ List.mem_cons_self)
  subst hsz
  have hD := hD0.self (sz := s.heap.size)
  generalize hAe : va_A (lw_W qx q5 q2 q1 q3 qs qo qh qw cyI cyJ g_X w_o w_f w_r w_b w_a w_l t_S t_O t_H s_n t_W s_k v_s) s.heap.size = A at hD hZ ⊢
  have hA : ∀ q : Nat, s.heap.size ≤ q → A q := fun q h => by rw [← hAe]; exact Or.inr h
  have hP : va_P (dC, dI) kcl (lw_W qx q5 q2 q1 q3 qs qo qh qw cyI cyJ g_X w_o w_f w_r w_b w_a w_l t_S t_O t_H s_n t_W s_k v_s) s.heap := hP
  have hl := lv_entry ([.ref q5, .int a0, .ref qx]) (n := 4) (Nat.le_of_ble_eq_true rfl)
  rw [lg_entry_eq]
  generalize (lg_sl ([.ref q5, .int a0, .ref qx]) ++ List.replicate (4 - (lg_sl ([.ref q5, .int a0, .ref qx])).length) Slot.unset).toArray = ls at hl ⊢
  have hl : lv_has ls 4 [(0, .ref q5), (1, .int a0), (2, .ref qx)] := hl
  refine mu_start (A := A) (fun H locs hP hS => ?_) hP
  refine lv_aload_n hx hb dL_broken_0 rfl (lv_at hl 2 rfl) ?_
  refine lv_iconst (v := (0 : Int32)) hx hb dL_broken_1 (by decide +kernel) ?_
  refine lv_aload_n hx hb dL_broken_2 rfl (lv_at hl 0 rfl) ?_
  refine lv_iload_n hx hb dL_broken_3 rfl (lv_at hl 1 rfl) ?_
  refine xl_calli (wr := [(qx, .inl (cyJ, 1, .inr (.inl g_X)))]) (vx_runV (As := [.int a0]) (rest := [.int (0 : Int32), .ref qx]) ⟨hx, hb, hml, hown, hts⟩ (c_X5_broken l hl0 dC dI q5 q2 q1 q3 qs qo qh qw cyI cyJ w_o w_f w_r w_b w_a w_l t_S t_O t_H s_n t_W s_k v_s H.size a0   R hR) (cwV 1 hts gL_broken_X5_broken rfl rfl rfl (by decide +kernel) ⟨Nat.le_of_ble_eq_true rfl, Nat.le_of_ble_eq_true rfl⟩) ⟨xw_blind, va_recv hK hP (ci := 3) (q0 := 1) rfl rfl, fun U hU hW => ⟨rfl, by rw [hU], by rw [hU]; exact hP.sub [1, 2, 3, 4, 5, 6, 7, 8] rfl, va_K.moved hW.alike (hK.sub [0, 1] rfl), (hD.sub [1, 2, 3, 4, 5, 6, 7, 8] (by decide) rfl).weaken (fun _ _ _ _ => trivial), by rw [hU]; exact ((hZ.kept hS.2.1).narrow (fun q h => va_free hD hS hA [1, 2, 3, 4, 5, 6, 7, 8] rfl q h)).warm hW⟩⟩ rfl rfl hl.1 rfl (lv_room (Nat.le_of_ble_eq_true rfl)) dL_broken_4 ⟨Nat.le_of_ble_eq_true rfl, Nat.le_of_ble_eq_true rfl⟩) hP hD hS hA [1, 2, 3, 4, 5, 6, 7, 8] [0] rfl rfl (by decide) (by decide) (by decide) (fun _ => rfl) ?_ ?_
  · intro E ce q9 H locs he hP hS hce hv9 hcl
    have hEq := hRE E he
    subst hEq
    · refine ct_W1 (name := ex_A) hown htb (by decide) (by decide) (hts (.classLink RL 13 ex_A) (by decide +kernel)) (va_tabs rfl rfl (hZ.2.2.2.2.2.1 (.castable ex_A ex_A) (by decide +kernel))) hce hv9 hcl ?_
      refine lv_astore_n (lv' := [(3, .ref q9), (0, .ref q5), (1, .int a0), (2, .ref qx)]) hx hb dL_broken_19 rfl hl (by decide) rfl (fun ls hl => ?_)
      refine lv_iconst (v := (1 : Int32)) hx hb dL_broken_20 (by decide +kernel) ?_
      refine W.widen (k := 1) (n := 6) (by decide) (by decide) (vx_ret ?_)
      exact W.iret (v := (1 : Int32)) hx hb hr (fun t ht _ => ⟨⟨(1 : Int32), (), rfl, by rw [he]; rfl, show va_P (dC, dI) kcl (wl_L_broken qx q5 q2 q1 q3 qs qo qh qw cyI cyJ g_X w_o w_f w_r w_b w_a w_l t_S t_O t_H s_n t_W s_k v_s R) t.heap by rw [he, ht]; exact hP⟩, hS.F ht⟩) hS.2.2 dL_broken_21
  · intro u r H locs hok hP hD hS
    have hP : va_P (dC, dI) kcl (lw_W qx q5 q2 q1 q3 qs qo qh qw cyI cyJ g_X w_o w_f w_r w_b w_a w_l t_S t_O t_H s_n t_W s_k v_s) H := hP
    have hD : va_D A (lw_W qx q5 q2 q1 q3 qs qo qh qw cyI cyJ g_X w_o w_f w_r w_b w_a w_l t_S t_O t_H s_n t_W s_k v_s) := hD
    refine lv_if_eq (tgt := 14) hx hb dL_broken_7 (by decide) (fun c_1 => ?_) (fun c_1 => ?_)
    · skip
      refine lv_lconst (v := (0 : Int64)) hx hb dL_broken_14 (by decide +kernel) ?_
      refine va_last hx hb hK hP hD hS 0 1 rfl rfl (by unfold vp_in; decide +kernel) dL_broken_15 (fun H locs hP hD hS => ?_)
      have hP : va_P (dC, dI) kcl (lw_W qx q5 q2 q1 q3 qs qo qh qw cyI cyJ (vp_updL g_X ((0 : Int32)).toNatClampNeg (0 : Int64)) w_o w_f w_r w_b w_a w_l t_S t_O t_H s_n t_W s_k v_s) H := hP
      have hD : va_D A (lw_W qx q5 q2 q1 q3 qs qo qh qw cyI cyJ (vp_updL g_X ((0 : Int32)).toNatClampNeg (0 : Int64)) w_o w_f w_r w_b w_a w_l t_S t_O t_H s_n t_W s_k v_s) := hD
      refine lv_goto (tgt := 22) hx hb dL_broken_16 (by decide) ?_
      refine lv_iconst (v := (0 : Int32)) hx hb dL_broken_22 (by decide +kernel) ?_
      refine W.widen (k := 1) (n := 6) (by decide) (by decide) (vx_ret ?_)
      exact W.iret (v := (0 : Int32)) hx hb hr (fun t ht _ => ⟨⟨(0 : Int32), (), rfl, by rw [hok]; rfl, show va_P (dC, dI) kcl (wl_L_broken qx q5 q2 q1 q3 qs qo qh qw cyI cyJ g_X w_o w_f w_r w_b w_a w_l t_S t_O t_H s_n t_W s_k v_s R) t.heap by rw [hok, ht]; show va_P (dC, dI) kcl (lw_W qx q5 q2 q1 q3 qs qo qh qw cyI cyJ (vp_updL g_X ((0 : Int32)).toNatClampNeg (if r = 0 then (0 : Int64) else (1 : Int64))) w_o w_f w_r w_b w_a w_l t_S t_O t_H s_n t_W s_k v_s) H; rw [if_pos c_1]; exact hP⟩, hS.F ht⟩) hS.2.2 dL_broken_23
    · skip
      refine lv_lconst (v := (1 : Int64)) hx hb dL_broken_10 (by decide +kernel) ?_
      refine lv_goto (tgt := 15) hx hb dL_broken_11 (by decide) ?_
      refine va_last hx hb hK hP hD hS 0 1 rfl rfl (by unfold vp_in; decide +kernel) dL_broken_15 (fun H locs hP hD hS => ?_)
      have hP : va_P (dC, dI) kcl (lw_W qx q5 q2 q1 q3 qs qo qh qw cyI cyJ (vp_updL g_X ((0 : Int32)).toNatClampNeg (1 : Int64)) w_o w_f w_r w_b w_a w_l t_S t_O t_H s_n t_W s_k v_s) H := hP
      have hD : va_D A (lw_W qx q5 q2 q1 q3 qs qo qh qw cyI cyJ (vp_updL g_X ((0 : Int32)).toNatClampNeg (1 : Int64)) w_o w_f w_r w_b w_a w_l t_S t_O t_H s_n t_W s_k v_s) := hD
      refine lv_goto (tgt := 22) hx hb dL_broken_16 (by decide) ?_
      refine lv_iconst (v := (0 : Int32)) hx hb dL_broken_22 (by decide +kernel) ?_
      refine W.widen (k := 1) (n := 6) (by decide) (by decide) (vx_ret ?_)
      exact W.iret (v := (0 : Int32)) hx hb hr (fun t ht _ => ⟨⟨(0 : Int32), (), rfl, by rw [hok]; rfl, show va_P (dC, dI) kcl (wl_L_broken qx q5 q2 q1 q3 qs qo qh qw cyI cyJ g_X w_o w_f w_r w_b w_a w_l t_S t_O t_H s_n t_W s_k v_s R) t.heap by rw [hok, ht]; show va_P (dC, dI) kcl (lw_W qx q5 q2 q1 q3 qs qo qh qw cyI cyJ (vp_updL g_X ((0 : Int32)).toNatClampNeg (if r = 0 then (0 : Int64) else (1 : Int64))) w_o w_f w_r w_b w_a w_l t_S t_O t_H s_n t_W s_k v_s) H; rw [if_neg c_1]; exact hP⟩, hS.F ht⟩) hS.2.2 dL_broken_23
def wl_L_colour (qx q5 q2 q1 q3 qs qo qh qw : Nat) (cyI cyJ : ClassId) (g_X : Nat → Int64) (w_o : Int32) (w_f : Int32) (w_r : Int32) (w_b : Int32) (w_a : Int32) (w_l : Int64) (t_S : Nat → Int64) (t_O : Nat → Int32) (t_H : Nat → Int32) (s_n : Int32) (t_W : Nat → Int32) (s_k : Int32) (v_s : Int64) : Except String ((Unit) × Int32) → va_W
  | .ok (u, r) => (lw_W qx q5 q2 q1 q3 qs qo qh qw cyI cyJ (vp_updL g_X ((0 : Int32)).toNatClampNeg (r.toInt64)) w_o w_f w_r w_b w_a w_l t_S t_O t_H s_n t_W s_k v_s)
  | .error _ => (lw_W qx q5 q2 q1 q3 qs qo qh qw cyI cyJ g_X w_o w_f w_r w_b w_a w_l t_S t_O t_H s_n t_W s_k v_s)
set_option maxHeartbeats 4000000 in
set_option maxRecDepth 100000 in
theorem c_L_colour (l : Launch) (hl0 : l.stackTraces = false) (dC : Nat → ClassId) (dI : Nat → Nat → Nat) (qx q5 q2 q1 q3 qs qo qh qw : Nat) (cyI cyJ : ClassId) (g_X : Nat → Int64) (w_o : Int32) (w_f : Int32) (w_r : Int32) (w_b : Int32) (w_a : Int32) (w_l : Int64) (t_S : Nat → Int64) (t_O : Nat → Int32) (t_H : Nat → Int32) (s_n : Int32) (t_W : Nat → Int32) (s_k : Int32) (v_s : Int64) (sz : Nat) (a0 : Int32)   (R : Except String ((Unit) × Int32)) (hR : (cf_X5_colour w_o v_s a0) = R) (hRE : ∀ E, R = .error E → E = ex_A) : vx_Met l yL_colour wsL_colour ({ frames := 8, cells := 1, slots := 6, locals := 125 }) (xw_P [.ref q5, .int a0, .ref qx] sz (dC, dI) kcl (lw_W qx q5 q2 q1 q3 qs qo qh qw cyI cyJ g_X w_o w_f w_r w_b w_a w_l t_S t_O t_H s_n t_W s_k v_s) [(cyI, .int), (cyJ, .long)]) (va_Qi (fun k (_ : Unit) => k = xl_k R) (fun _ t => va_P (dC, dI) kcl (wl_L_colour qx q5 q2 q1 q3 qs qo qh qw cyI cyJ g_X w_o w_f w_r w_b w_a w_l t_S t_O t_H s_n t_W s_k v_s R) t.heap) (va_A (lw_W qx q5 q2 q1 q3 qs qo qh qw cyI cyJ g_X w_o w_f w_r w_b w_a w_l t_S t_O t_H s_n t_W s_k v_s) sz)) (fun _ _ _ => False) 1 6 (va_A (lw_W qx q5 q2 q1 q3 qs qo qh qw cyI cyJ g_X w_o w_f w_r w_b w_a w_l t_S t_O t_H s_n t_W s_k v_s) sz) := by
  refine vx_ofWH (cc := cL_colour) (maxL := 4) (ret := (some .int)) (hh := [(0, 9, 12, 13)]) (by decide) rfl ?_
  intro p e s m args below meth c s₁ B hml hv
  obtain ⟨rfl, hsz, hP, hK, hD0, hZ⟩ := hv
  have hx := B.exec
  have hb := B.bytes
  have hr := B.returns
  have hts := atoms_spec (ws := wsL_colour) B.pre
  have hown : s.vm.findClass RL = some m.cls := findClass_of_methodNamed B.named
  have hlocks := B.notSynchronized
  have htb : c.exceptionTable.toList = tableOf [(0, 9, 12, 13)] := vx_table (x := yL_colour) B (hts _ List.mem_cons_self)
  subst hsz
  have hD := hD0.self (sz := s.heap.size)
  generalize hAe : va_A (lw_W qx q5 q2 q1 q3 qs qo qh qw cyI cyJ g_X w_o w_f w_r w_b w_a w_l t_S t_O t_H s_n t_W s_k v_s) s.heap.size = A at hD hZ ⊢
  have hA : ∀ q : Nat, s.heap.size ≤ q → A q := fun q h => by rw [← hAe]; exact Or.inr h
  have hP : va_P (dC, dI) kcl (lw_W qx q5 q2 q1 q3 qs qo qh qw cyI cyJ g_X w_o w_f w_r w_b w_a w_l t_S t_O t_H s_n t_W s_k v_s) s.heap := hP
  have hl := lv_entry ([.ref q5, .int a0, .ref qx]) (n := 4) (Nat.le_of_ble_eq_true rfl)
  rw [lg_entry_eq]
  generalize (lg_sl ([.ref q5, .int a0, .ref qx]) ++ List.replicate (4 - (lg_sl ([.ref q5, .int a0, .ref qx])).length) Slot.unset).toArray = ls at hl ⊢
  have hl : lv_has ls 4 [(0, .ref q5), (1, .int a0), (2, .ref qx)] := hl
  refine mu_start (A := A) (fun H locs hP hS => ?_) hP
  refine lv_aload_n hx hb dL_colour_0 rfl (lv_at hl 2 rfl) ?_
  refine lv_iconst (v := (0 : Int32)) hx hb dL_colour_1 (by decide +kernel) ?_
  refine lv_aload_n hx hb dL_colour_2 rfl (lv_at hl 0 rfl) ?_
  refine lv_iload_n hx hb dL_colour_3 rfl (lv_at hl 1 rfl) ?_
  refine xl_calli (wr := [(qx, .inl (cyJ, 1, .inr (.inl g_X)))]) (vx_runV (As := [.int a0]) (rest := [.int (0 : Int32), .ref qx]) ⟨hx, hb, hml, hown, hts⟩ (c_X5_colour l hl0 dC dI q5 q2 q1 q3 qs qo qh qw cyI cyJ w_o w_f w_r w_b w_a w_l t_S t_O t_H s_n t_W s_k v_s H.size a0   R hR) (cwV 1 hts gL_colour_X5_colour rfl rfl rfl (by decide +kernel) ⟨Nat.le_of_ble_eq_true rfl, Nat.le_of_ble_eq_true rfl⟩) ⟨xw_blind, va_recv hK hP (ci := 3) (q0 := 1) rfl rfl, fun U hU hW => ⟨rfl, by rw [hU], by rw [hU]; exact hP.sub [1, 2, 3, 4, 5, 6, 7, 8] rfl, va_K.moved hW.alike (hK.sub [0, 1] rfl), (hD.sub [1, 2, 3, 4, 5, 6, 7, 8] (by decide) rfl).weaken (fun _ _ _ _ => trivial), by rw [hU]; exact ((hZ.kept hS.2.1).narrow (fun q h => va_free hD hS hA [1, 2, 3, 4, 5, 6, 7, 8] rfl q h)).warm hW⟩⟩ rfl rfl hl.1 rfl (lv_room (Nat.le_of_ble_eq_true rfl)) dL_colour_4 ⟨Nat.le_of_ble_eq_true rfl, Nat.le_of_ble_eq_true rfl⟩) hP hD hS hA [1, 2, 3, 4, 5, 6, 7, 8] [0] rfl rfl (by decide) (by decide) (by decide) (fun _ => rfl) ?_ ?_
  · intro E ce q9 H locs he hP hS hce hv9 hcl
    have hEq := hRE E he
    subst hEq
    · refine ct_W1 (name := ex_A) hown htb (by decide) (by decide) (hts (.classLink RL 13 ex_A) (by decide +kernel)) (va_tabs rfl rfl (hZ.2.2.2.2.2.1 (.castable ex_A ex_A) (by decide +kernel))) hce hv9 hcl ?_
      refine lv_astore_n (lv' := [(3, .ref q9), (0, .ref q5), (1, .int a0), (2, .ref qx)]) hx hb dL_colour_12 rfl hl (by decide) rfl (fun ls hl => ?_)
      refine lv_iconst (v := (1 : Int32)) hx hb dL_colour_13 (by decide +kernel) ?_
      refine W.widen (k := 1) (n := 6) (by decide) (by decide) (vx_ret ?_)
      exact W.iret (v := (1 : Int32)) hx hb hr (fun t ht _ => ⟨⟨(1 : Int32), (), rfl, by rw [he]; rfl, show va_P (dC, dI) kcl (wl_L_colour qx q5 q2 q1 q3 qs qo qh qw cyI cyJ g_X w_o w_f w_r w_b w_a w_l t_S t_O t_H s_n t_W s_k v_s R) t.heap by rw [he, ht]; exact hP⟩, hS.F ht⟩) hS.2.2 dL_colour_14
  · intro u r H locs hok hP hD hS
    have hP : va_P (dC, dI) kcl (lw_W qx q5 q2 q1 q3 qs qo qh qw cyI cyJ g_X w_o w_f w_r w_b w_a w_l t_S t_O t_H s_n t_W s_k v_s) H := hP
    have hD : va_D A (lw_W qx q5 q2 q1 q3 qs qo qh qw cyI cyJ g_X w_o w_f w_r w_b w_a w_l t_S t_O t_H s_n t_W s_k v_s) := hD
    refine lv_i2l (v := (r.toInt64)) hx hb dL_colour_7 rfl ?_
    refine va_last hx hb hK hP hD hS 0 1 rfl rfl (by unfold vp_in; decide +kernel) dL_colour_8 (fun H locs hP hD hS => ?_)
    have hP : va_P (dC, dI) kcl (lw_W qx q5 q2 q1 q3 qs qo qh qw cyI cyJ (vp_updL g_X ((0 : Int32)).toNatClampNeg (r.toInt64)) w_o w_f w_r w_b w_a w_l t_S t_O t_H s_n t_W s_k v_s) H := hP
    have hD : va_D A (lw_W qx q5 q2 q1 q3 qs qo qh qw cyI cyJ (vp_updL g_X ((0 : Int32)).toNatClampNeg (r.toInt64)) w_o w_f w_r w_b w_a w_l t_S t_O t_H s_n t_W s_k v_s) := hD
    refine lv_goto (tgt := 15) hx hb dL_colour_9 (by decide) ?_
    refine lv_iconst (v := (0 : Int32)) hx hb dL_colour_15 (by decide +kernel) ?_
    refine W.widen (k := 1) (n := 6) (by decide) (by decide) (vx_ret ?_)
    exact W.iret (v := (0 : Int32)) hx hb hr (fun t ht _ => ⟨⟨(0 : Int32), (), rfl, by rw [hok]; rfl, show va_P (dC, dI) kcl (wl_L_colour qx q5 q2 q1 q3 qs qo qh qw cyI cyJ g_X w_o w_f w_r w_b w_a w_l t_S t_O t_H s_n t_W s_k v_s R) t.heap by rw [hok, ht]; exact hP⟩, hS.F ht⟩) hS.2.2 dL_colour_16
def wl_L_field (qx q5 q2 q1 q3 qs qo qh qw : Nat) (cyI cyJ : ClassId) (g_X : Nat → Int64) (w_o : Int32) (w_f : Int32) (w_r : Int32) (w_b : Int32) (w_a : Int32) (w_l : Int64) (t_S : Nat → Int64) (t_O : Nat → Int32) (t_H : Nat → Int32) (s_n : Int32) (t_W : Nat → Int32) (s_k : Int32) (v_s : Int64) : Except String ((Unit) × Int32) → va_W
  | .ok (u, r) => (lw_W qx q5 q2 q1 q3 qs qo qh qw cyI cyJ (vp_updL g_X ((0 : Int32)).toNatClampNeg (r.toInt64)) w_o w_f w_r w_b w_a w_l t_S t_O t_H s_n t_W s_k v_s)
  | .error _ => (lw_W qx q5 q2 q1 q3 qs qo qh qw cyI cyJ g_X w_o w_f w_r w_b w_a w_l t_S t_O t_H s_n t_W s_k v_s)
set_option maxHeartbeats 4000000 in
set_option maxRecDepth 100000 in
theorem c_L_field (l : Launch) (hl0 : l.stackTraces = false) (dC : Nat → ClassId) (dI : Nat → Nat → Nat) (qx q5 q2 q1 q3 qs qo qh qw : Nat) (cyI cyJ : ClassId) (g_X : Nat → Int64) (w_o : Int32) (w_f : Int32) (w_r : Int32) (w_b : Int32) (w_a : Int32) (w_l : Int64) (t_S : Nat → Int64) (t_O : Nat → Int32) (t_H : Nat → Int32) (s_n : Int32) (t_W : Nat → Int32) (s_k : Int32) (v_s : Int64) (sz : Nat) (a0 : Int32) (a1 : Int32)   (R : Except String ((Unit) × Int32)) (hR : (cf_X5_field w_o w_f v_s a0 a1) = R) (hRE : ∀ E, R = .error E → E = ex_A) : vx_Met l yL_field wsL_field ({ frames := 8, cells := 2, slots := 12, locals := 126 }) (xw_P [.ref q5, .int a0, .int a1, .ref qx] sz (dC, dI) kcl (lw_W qx q5 q2 q1 q3 qs qo qh qw cyI cyJ g_X w_o w_f w_r w_b w_a w_l t_S t_O t_H s_n t_W s_k v_s) [(cyI, .int), (cyJ, .long)]) (va_Qi (fun k (_ : Unit) => k = xl_k R) (fun _ t => va_P (dC, dI) kcl (wl_L_field qx q5 q2 q1 q3 qs qo qh qw cyI cyJ g_X w_o w_f w_r w_b w_a w_l t_S t_O t_H s_n t_W s_k v_s R) t.heap) (va_A (lw_W qx q5 q2 q1 q3 qs qo qh qw cyI cyJ g_X w_o w_f w_r w_b w_a w_l t_S t_O t_H s_n t_W s_k v_s) sz)) (fun _ _ _ => False) 2 12 (va_A (lw_W qx q5 q2 q1 q3 qs qo qh qw cyI cyJ g_X w_o w_f w_r w_b w_a w_l t_S t_O t_H s_n t_W s_k v_s) sz) := by
  refine vx_ofWH (cc := cL_field) (maxL := 5) (ret := (some .int)) (hh := [(0, 10, 13, 13)]) (by decide) rfl ?_
  intro p e s m args below meth c s₁ B hml hv
  obtain ⟨rfl, hsz, hP, hK, hD0, hZ⟩ := hv
  have hx := B.exec
  have hb := B.bytes
  have hr := B.returns
  have hts := atoms_spec (ws := wsL_field) B.pre
  have hown : s.vm.findClass RL = some m.cls := findClass_of_methodNamed B.named
  have hlocks := B.notSynchronized
  have htb : c.exceptionTable.toList = tableOf [(0, 10, 13, 13)] := vx_table (x := yL_field) B (hts _ List.mem_cons_self)
  subst hsz
  have hD := hD0.self (sz := s.heap.size)
  generalize hAe : va_A (lw_W qx q5 q2 q1 q3 qs qo qh qw cyI cyJ g_X w_o w_f w_r w_b w_a w_l t_S t_O t_H s_n t_W s_k v_s) s.heap.size = A at hD hZ ⊢
  have hA : ∀ q : Nat, s.heap.size ≤ q → A q := fun q h => by rw [← hAe]; exact Or.inr h
  have hP : va_P (dC, dI) kcl (lw_W qx q5 q2 q1 q3 qs qo qh qw cyI cyJ g_X w_o w_f w_r w_b w_a w_l t_S t_O t_H s_n t_W s_k v_s) s.heap := hP
  have hl := lv_entry ([.ref q5, .int a0, .int a1, .ref qx]) (n := 5) (Nat.le_of_ble_eq_true rfl)
  rw [lg_entry_eq]
  generalize (lg_sl ([.ref q5, .int a0, .int a1, .ref qx]) ++ List.replicate (5 - (lg_sl ([.ref q5, .int a0, .int a1, .ref qx])).length) Slot.unset).toArray = ls at hl ⊢
  have hl : lv_has ls 5 [(0, .ref q5), (1, .int a0), (2, .int a1), (3, .ref qx)] := hl
  refine mu_start (A := A) (fun H locs hP hS => ?_) hP
  refine lv_aload_n hx hb dL_field_0 rfl (lv_at hl 3 rfl) ?_
  refine lv_iconst (v := (0 : Int32)) hx hb dL_field_1 (by decide +kernel) ?_
  refine lv_aload_n hx hb dL_field_2 rfl (lv_at hl 0 rfl) ?_
  refine lv_iload_n hx hb dL_field_3 rfl (lv_at hl 1 rfl) ?_
  refine lv_iload_n hx hb dL_field_4 rfl (lv_at hl 2 rfl) ?_
  refine xl_calli (wr := [(qx, .inl (cyJ, 1, .inr (.inl g_X)))]) (vx_runV (As := [.int a0, .int a1]) (rest := [.int (0 : Int32), .ref qx]) ⟨hx, hb, hml, hown, hts⟩ (c_X5_field l hl0 dC dI q5 q2 q1 q3 qs qo qh qw cyI cyJ w_o w_f w_r w_b w_a w_l t_S t_O t_H s_n t_W s_k v_s H.size a0 a1   R hR) (cwV 2 hts gL_field_X5_field rfl rfl rfl (by decide +kernel) ⟨Nat.le_of_ble_eq_true rfl, Nat.le_of_ble_eq_true rfl⟩) ⟨xw_blind, va_recv hK hP (ci := 3) (q0 := 1) rfl rfl, fun U hU hW => ⟨rfl, by rw [hU], by rw [hU]; exact hP.sub [1, 2, 3, 4, 5, 6, 7, 8] rfl, va_K.moved hW.alike (hK.sub [0, 1] rfl), (hD.sub [1, 2, 3, 4, 5, 6, 7, 8] (by decide) rfl).weaken (fun _ _ _ _ => trivial), by rw [hU]; exact ((hZ.kept hS.2.1).narrow (fun q h => va_free hD hS hA [1, 2, 3, 4, 5, 6, 7, 8] rfl q h)).warm hW⟩⟩ rfl rfl hl.1 rfl (lv_room (Nat.le_of_ble_eq_true rfl)) dL_field_5 ⟨Nat.le_of_ble_eq_true rfl, Nat.le_of_ble_eq_true rfl⟩) hP hD hS hA [1, 2, 3, 4, 5, 6, 7, 8] [0] rfl rfl (by decide) (by decide) (by decide) (fun _ => rfl) ?_ ?_
  · intro E ce q9 H locs he hP hS hce hv9 hcl
    have hEq := hRE E he
    subst hEq
    · refine ct_W1 (name := ex_A) hown htb (by decide) (by decide) (hts (.classLink RL 13 ex_A) (by decide +kernel)) (va_tabs rfl rfl (hZ.2.2.2.2.2.1 (.castable ex_A ex_A) (by decide +kernel))) hce hv9 hcl ?_
      refine lv_astore (lv' := [(4, .ref q9), (0, .ref q5), (1, .int a0), (2, .int a1), (3, .ref qx)]) hx hb dL_field_13 hl (by decide) rfl (fun ls hl => ?_)
      refine lv_iconst (v := (1 : Int32)) hx hb dL_field_15 (by decide +kernel) ?_
      refine W.widen (k := 2) (n := 12) (by decide) (by decide) (vx_ret ?_)
      exact W.iret (v := (1 : Int32)) hx hb hr (fun t ht _ => ⟨⟨(1 : Int32), (), rfl, by rw [he]; rfl, show va_P (dC, dI) kcl (wl_L_field qx q5 q2 q1 q3 qs qo qh qw cyI cyJ g_X w_o w_f w_r w_b w_a w_l t_S t_O t_H s_n t_W s_k v_s R) t.heap by rw [he, ht]; exact hP⟩, hS.F ht⟩) hS.2.2 dL_field_16
  · intro u r H locs hok hP hD hS
    have hP : va_P (dC, dI) kcl (lw_W qx q5 q2 q1 q3 qs qo qh qw cyI cyJ g_X w_o w_f w_r w_b w_a w_l t_S t_O t_H s_n t_W s_k v_s) H := hP
    have hD : va_D A (lw_W qx q5 q2 q1 q3 qs qo qh qw cyI cyJ g_X w_o w_f w_r w_b w_a w_l t_S t_O t_H s_n t_W s_k v_s) := hD
    refine lv_i2l (v := (r.toInt64)) hx hb dL_field_8 rfl ?_
    refine va_last hx hb hK hP hD hS 0 1 rfl rfl (by unfold vp_in; decide +kernel) dL_field_9 (fun H locs hP hD hS => ?_)
    have hP : va_P (dC, dI) kcl (lw_W qx q5 q2 q1 q3 qs qo qh qw cyI cyJ (vp_updL g_X ((0 : Int32)).toNatClampNeg (r.toInt64)) w_o w_f w_r w_b w_a w_l t_S t_O t_H s_n t_W s_k v_s) H := hP
    have hD : va_D A (lw_W qx q5 q2 q1 q3 qs qo qh qw cyI cyJ (vp_updL g_X ((0 : Int32)).toNatClampNeg (r.toInt64)) w_o w_f w_r w_b w_a w_l t_S t_O t_H s_n t_W s_k v_s) := hD
    refine lv_goto (tgt := 17) hx hb dL_field_10 (by decide) ?_
    refine lv_iconst (v := (0 : Int32)) hx hb dL_field_17 (by decide +kernel) ?_
    refine W.widen (k := 2) (n := 12) (by decide) (by decide) (vx_ret ?_)
    exact W.iret (v := (0 : Int32)) hx hb hr (fun t ht _ => ⟨⟨(0 : Int32), (), rfl, by rw [hok]; rfl, show va_P (dC, dI) kcl (wl_L_field qx q5 q2 q1 q3 qs qo qh qw cyI cyJ g_X w_o w_f w_r w_b w_a w_l t_S t_O t_H s_n t_W s_k v_s R) t.heap by rw [hok, ht]; exact hP⟩, hS.F ht⟩) hS.2.2 dL_field_18
def wl_L_has (qx q5 q2 q1 q3 qs qo qh qw : Nat) (cyI cyJ : ClassId) (g_X : Nat → Int64) (w_o : Int32) (w_f : Int32) (w_r : Int32) (w_b : Int32) (w_a : Int32) (w_l : Int64) (t_S : Nat → Int64) (t_O : Nat → Int32) (t_H : Nat → Int32) (s_n : Int32) (t_W : Nat → Int32) (s_k : Int32) (v_s : Int64) : Except String ((Unit) × Int32) → va_W
  | .ok (u, r) => (lw_W qx q5 q2 q1 q3 qs qo qh qw cyI cyJ (vp_updL g_X ((0 : Int32)).toNatClampNeg (r.toInt64)) w_o w_f w_r w_b w_a w_l t_S t_O t_H s_n t_W s_k v_s)
  | .error _ => (lw_W qx q5 q2 q1 q3 qs qo qh qw cyI cyJ g_X w_o w_f w_r w_b w_a w_l t_S t_O t_H s_n t_W s_k v_s)
set_option maxHeartbeats 4000000 in
set_option maxRecDepth 100000 in
theorem c_L_has (l : Launch) (hl0 : l.stackTraces = false) (dC : Nat → ClassId) (dI : Nat → Nat → Nat) (qx q5 q2 q1 q3 qs qo qh qw : Nat) (cyI cyJ : ClassId) (g_X : Nat → Int64) (w_o : Int32) (w_f : Int32) (w_r : Int32) (w_b : Int32) (w_a : Int32) (w_l : Int64) (t_S : Nat → Int64) (t_O : Nat → Int32) (t_H : Nat → Int32) (s_n : Int32) (t_W : Nat → Int32) (s_k : Int32) (v_s : Int64) (sz : Nat) (a0 : Int32)   (R : Except String ((Unit) × Int32)) (hR : (cf_X5_has w_r v_s a0) = R) (hRE : ∀ E, R = .error E → E = ex_A) : vx_Met l yL_has wsL_has ({ frames := 8, cells := 1, slots := 6, locals := 125 }) (xw_P [.ref q5, .int a0, .ref qx] sz (dC, dI) kcl (lw_W qx q5 q2 q1 q3 qs qo qh qw cyI cyJ g_X w_o w_f w_r w_b w_a w_l t_S t_O t_H s_n t_W s_k v_s) [(cyI, .int), (cyJ, .long)]) (va_Qi (fun k (_ : Unit) => k = xl_k R) (fun _ t => va_P (dC, dI) kcl (wl_L_has qx q5 q2 q1 q3 qs qo qh qw cyI cyJ g_X w_o w_f w_r w_b w_a w_l t_S t_O t_H s_n t_W s_k v_s R) t.heap) (va_A (lw_W qx q5 q2 q1 q3 qs qo qh qw cyI cyJ g_X w_o w_f w_r w_b w_a w_l t_S t_O t_H s_n t_W s_k v_s) sz)) (fun _ _ _ => False) 1 6 (va_A (lw_W qx q5 q2 q1 q3 qs qo qh qw cyI cyJ g_X w_o w_f w_r w_b w_a w_l t_S t_O t_H s_n t_W s_k v_s) sz) := by
  refine vx_ofWH (cc := cL_has) (maxL := 4) (ret := (some .int)) (hh := [(0, 9, 12, 13)]) (by decide) rfl ?_
  intro p e s m args below meth c s₁ B hml hv
  obtain ⟨rfl, hsz, hP, hK, hD0, hZ⟩ := hv
  have hx := B.exec
  have hb := B.bytes
  have hr := B.returns
  have hts := atoms_spec (ws := wsL_has) B.pre
  have hown : s.vm.findClass RL = some m.cls := findClass_of_methodNamed B.named
  have hlocks := B.notSynchronized
  have htb : c.exceptionTable.toList = tableOf [(0, 9, 12, 13)] := vx_table (x := yL_has) B (hts _ List.mem_cons_self)
  subst hsz
  have hD := hD0.self (sz := s.heap.size)
  generalize hAe : va_A (lw_W qx q5 q2 q1 q3 qs qo qh qw cyI cyJ g_X w_o w_f w_r w_b w_a w_l t_S t_O t_H s_n t_W s_k v_s) s.heap.size = A at hD hZ ⊢
  have hA : ∀ q : Nat, s.heap.size ≤ q → A q := fun q h => by rw [← hAe]; exact Or.inr h
  have hP : va_P (dC, dI) kcl (lw_W qx q5 q2 q1 q3 qs qo qh qw cyI cyJ g_X w_o w_f w_r w_b w_a w_l t_S t_O t_H s_n t_W s_k v_s) s.heap := hP
  have hl := lv_entry ([.ref q5, .int a0, .ref qx]) (n := 4) (Nat.le_of_ble_eq_true rfl)
  rw [lg_entry_eq]
  generalize (lg_sl ([.ref q5, .int a0, .ref qx]) ++ List.replicate (4 - (lg_sl ([.ref q5, .int a0, .ref qx])).length) Slot.unset).toArray = ls at hl ⊢
  have hl : lv_has ls 4 [(0, .ref q5), (1, .int a0), (2, .ref qx)] := hl
  refine mu_start (A := A) (fun H locs hP hS => ?_) hP
  refine lv_aload_n hx hb dL_has_0 rfl (lv_at hl 2 rfl) ?_
  refine lv_iconst (v := (0 : Int32)) hx hb dL_has_1 (by decide +kernel) ?_
  refine lv_aload_n hx hb dL_has_2 rfl (lv_at hl 0 rfl) ?_
  refine lv_iload_n hx hb dL_has_3 rfl (lv_at hl 1 rfl) ?_
  refine xl_calli (wr := [(qx, .inl (cyJ, 1, .inr (.inl g_X)))]) (vx_runV (As := [.int a0]) (rest := [.int (0 : Int32), .ref qx]) ⟨hx, hb, hml, hown, hts⟩ (c_X5_has l hl0 dC dI q5 q2 q1 q3 qs qo qh qw cyI cyJ w_o w_f w_r w_b w_a w_l t_S t_O t_H s_n t_W s_k v_s H.size a0   R hR) (cwV 1 hts gL_has_X5_has rfl rfl rfl (by decide +kernel) ⟨Nat.le_of_ble_eq_true rfl, Nat.le_of_ble_eq_true rfl⟩) ⟨xw_blind, va_recv hK hP (ci := 3) (q0 := 1) rfl rfl, fun U hU hW => ⟨rfl, by rw [hU], by rw [hU]; exact hP.sub [1, 2, 3, 4, 5, 6, 7, 8] rfl, va_K.moved hW.alike (hK.sub [0, 1] rfl), (hD.sub [1, 2, 3, 4, 5, 6, 7, 8] (by decide) rfl).weaken (fun _ _ _ _ => trivial), by rw [hU]; exact ((hZ.kept hS.2.1).narrow (fun q h => va_free hD hS hA [1, 2, 3, 4, 5, 6, 7, 8] rfl q h)).warm hW⟩⟩ rfl rfl hl.1 rfl (lv_room (Nat.le_of_ble_eq_true rfl)) dL_has_4 ⟨Nat.le_of_ble_eq_true rfl, Nat.le_of_ble_eq_true rfl⟩) hP hD hS hA [1, 2, 3, 4, 5, 6, 7, 8] [0] rfl rfl (by decide) (by decide) (by decide) (fun _ => rfl) ?_ ?_
  · intro E ce q9 H locs he hP hS hce hv9 hcl
    have hEq := hRE E he
    subst hEq
    · refine ct_W1 (name := ex_A) hown htb (by decide) (by decide) (hts (.classLink RL 13 ex_A) (by decide +kernel)) (va_tabs rfl rfl (hZ.2.2.2.2.2.1 (.castable ex_A ex_A) (by decide +kernel))) hce hv9 hcl ?_
      refine lv_astore_n (lv' := [(3, .ref q9), (0, .ref q5), (1, .int a0), (2, .ref qx)]) hx hb dL_has_12 rfl hl (by decide) rfl (fun ls hl => ?_)
      refine lv_iconst (v := (1 : Int32)) hx hb dL_has_13 (by decide +kernel) ?_
      refine W.widen (k := 1) (n := 6) (by decide) (by decide) (vx_ret ?_)
      exact W.iret (v := (1 : Int32)) hx hb hr (fun t ht _ => ⟨⟨(1 : Int32), (), rfl, by rw [he]; rfl, show va_P (dC, dI) kcl (wl_L_has qx q5 q2 q1 q3 qs qo qh qw cyI cyJ g_X w_o w_f w_r w_b w_a w_l t_S t_O t_H s_n t_W s_k v_s R) t.heap by rw [he, ht]; exact hP⟩, hS.F ht⟩) hS.2.2 dL_has_14
  · intro u r H locs hok hP hD hS
    have hP : va_P (dC, dI) kcl (lw_W qx q5 q2 q1 q3 qs qo qh qw cyI cyJ g_X w_o w_f w_r w_b w_a w_l t_S t_O t_H s_n t_W s_k v_s) H := hP
    have hD : va_D A (lw_W qx q5 q2 q1 q3 qs qo qh qw cyI cyJ g_X w_o w_f w_r w_b w_a w_l t_S t_O t_H s_n t_W s_k v_s) := hD
    refine lv_i2l (v := (r.toInt64)) hx hb dL_has_7 rfl ?_
    refine va_last hx hb hK hP hD hS 0 1 rfl rfl (by unfold vp_in; decide +kernel) dL_has_8 (fun H locs hP hD hS => ?_)
    have hP : va_P (dC, dI) kcl (lw_W qx q5 q2 q1 q3 qs qo qh qw cyI cyJ (vp_updL g_X ((0 : Int32)).toNatClampNeg (r.toInt64)) w_o w_f w_r w_b w_a w_l t_S t_O t_H s_n t_W s_k v_s) H := hP
    have hD : va_D A (lw_W qx q5 q2 q1 q3 qs qo qh qw cyI cyJ (vp_updL g_X ((0 : Int32)).toNatClampNeg (r.toInt64)) w_o w_f w_r w_b w_a w_l t_S t_O t_H s_n t_W s_k v_s) := hD
    refine lv_goto (tgt := 15) hx hb dL_has_9 (by decide) ?_
    refine lv_iconst (v := (0 : Int32)) hx hb dL_has_15 (by decide +kernel) ?_
    refine W.widen (k := 1) (n := 6) (by decide) (by decide) (vx_ret ?_)
    exact W.iret (v := (0 : Int32)) hx hb hr (fun t ht _ => ⟨⟨(0 : Int32), (), rfl, by rw [hok]; rfl, show va_P (dC, dI) kcl (wl_L_has qx q5 q2 q1 q3 qs qo qh qw cyI cyJ g_X w_o w_f w_r w_b w_a w_l t_S t_O t_H s_n t_W s_k v_s R) t.heap by rw [hok, ht]; exact hP⟩, hS.F ht⟩) hS.2.2 dL_has_16
def wl_L_count (qx q5 q2 q1 q3 qs qo qh qw : Nat) (cyI cyJ : ClassId) (g_X : Nat → Int64) (w_o : Int32) (w_f : Int32) (w_r : Int32) (w_b : Int32) (w_a : Int32) (w_l : Int64) (t_S : Nat → Int64) (t_O : Nat → Int32) (t_H : Nat → Int32) (s_n : Int32) (t_W : Nat → Int32) (s_k : Int32) (v_s : Int64) : Except String ((Unit) × Int32) → va_W
  | .ok (u, r) => (lw_W qx q5 q2 q1 q3 qs qo qh qw cyI cyJ (vp_updL g_X ((0 : Int32)).toNatClampNeg (r.toInt64)) w_o w_f w_r w_b w_a w_l t_S t_O t_H s_n t_W s_k v_s)
  | .error _ => (lw_W qx q5 q2 q1 q3 qs qo qh qw cyI cyJ g_X w_o w_f w_r w_b w_a w_l t_S t_O t_H s_n t_W s_k v_s)
set_option maxHeartbeats 4000000 in
set_option maxRecDepth 100000 in
theorem c_L_count (l : Launch) (hl0 : l.stackTraces = false) (dC : Nat → ClassId) (dI : Nat → Nat → Nat) (qx q5 q2 q1 q3 qs qo qh qw : Nat) (cyI cyJ : ClassId) (g_X : Nat → Int64) (w_o : Int32) (w_f : Int32) (w_r : Int32) (w_b : Int32) (w_a : Int32) (w_l : Int64) (t_S : Nat → Int64) (t_O : Nat → Int32) (t_H : Nat → Int32) (s_n : Int32) (t_W : Nat → Int32) (s_k : Int32) (v_s : Int64) (sz : Nat) (a0 : Int32)   (R : Except String ((Unit) × Int32)) (hR : (cf_X5_count w_o w_f w_r w_b w_a s_n s_k v_s a0) = R) (hRE : ∀ E, R = .error E → E = ex_A) : vx_Met l yL_count wsL_count ({ frames := 8, cells := 1, slots := 6, locals := 125 }) (xw_P [.ref q5, .int a0, .ref qx] sz (dC, dI) kcl (lw_W qx q5 q2 q1 q3 qs qo qh qw cyI cyJ g_X w_o w_f w_r w_b w_a w_l t_S t_O t_H s_n t_W s_k v_s) [(cyI, .int), (cyJ, .long)]) (va_Qi (fun k (_ : Unit) => k = xl_k R) (fun _ t => va_P (dC, dI) kcl (wl_L_count qx q5 q2 q1 q3 qs qo qh qw cyI cyJ g_X w_o w_f w_r w_b w_a w_l t_S t_O t_H s_n t_W s_k v_s R) t.heap) (va_A (lw_W qx q5 q2 q1 q3 qs qo qh qw cyI cyJ g_X w_o w_f w_r w_b w_a w_l t_S t_O t_H s_n t_W s_k v_s) sz)) (fun _ _ _ => False) 1 6 (va_A (lw_W qx q5 q2 q1 q3 qs qo qh qw cyI cyJ g_X w_o w_f w_r w_b w_a w_l t_S t_O t_H s_n t_W s_k v_s) sz) := by
  refine vx_ofWH (cc := cL_count) (maxL := 4) (ret := (some .int)) (hh := [(0, 9, 12, 13)]) (by decide) rfl ?_
  intro p e s m args below meth c s₁ B hml hv
  obtain ⟨rfl, hsz, hP, hK, hD0, hZ⟩ := hv
  have hx := B.exec
  have hb := B.bytes
  have hr := B.returns
  have hts := atoms_spec (ws := wsL_count) B.pre
  have hown : s.vm.findClass RL = some m.cls := findClass_of_methodNamed B.named
  have hlocks := B.notSynchronized
  have htb : c.exceptionTable.toList = tableOf [(0, 9, 12, 13)] := vx_table (x := yL_count) B (hts _ List.mem_cons_self)
  subst hsz
  have hD := hD0.self (sz := s.heap.size)
  generalize hAe : va_A (lw_W qx q5 q2 q1 q3 qs qo qh qw cyI cyJ g_X w_o w_f w_r w_b w_a w_l t_S t_O t_H s_n t_W s_k v_s) s.heap.size = A at hD hZ ⊢
  have hA : ∀ q : Nat, s.heap.size ≤ q → A q := fun q h => by rw [← hAe]; exact Or.inr h
  have hP : va_P (dC, dI) kcl (lw_W qx q5 q2 q1 q3 qs qo qh qw cyI cyJ g_X w_o w_f w_r w_b w_a w_l t_S t_O t_H s_n t_W s_k v_s) s.heap := hP
  have hl := lv_entry ([.ref q5, .int a0, .ref qx]) (n := 4) (Nat.le_of_ble_eq_true rfl)
  rw [lg_entry_eq]
  generalize (lg_sl ([.ref q5, .int a0, .ref qx]) ++ List.replicate (4 - (lg_sl ([.ref q5, .int a0, .ref qx])).length) Slot.unset).toArray = ls at hl ⊢
  have hl : lv_has ls 4 [(0, .ref q5), (1, .int a0), (2, .ref qx)] := hl
  refine mu_start (A := A) (fun H locs hP hS => ?_) hP
  refine lv_aload_n hx hb dL_count_0 rfl (lv_at hl 2 rfl) ?_
  refine lv_iconst (v := (0 : Int32)) hx hb dL_count_1 (by decide +kernel) ?_
  refine lv_aload_n hx hb dL_count_2 rfl (lv_at hl 0 rfl) ?_
  refine lv_iload_n hx hb dL_count_3 rfl (lv_at hl 1 rfl) ?_
  refine xl_calli (wr := [(qx, .inl (cyJ, 1, .inr (.inl g_X)))]) (vx_runV (As := [.int a0]) (rest := [.int (0 : Int32), .ref qx]) ⟨hx, hb, hml, hown, hts⟩ (c_X5_count l hl0 dC dI q5 q2 q1 q3 qs qo qh qw cyI cyJ w_o w_f w_r w_b w_a w_l t_S t_O t_H s_n t_W s_k v_s H.size a0   R hR) (cwV 1 hts gL_count_X5_count rfl rfl rfl (by decide +kernel) ⟨Nat.le_of_ble_eq_true rfl, Nat.le_of_ble_eq_true rfl⟩) ⟨xw_blind, va_recv hK hP (ci := 3) (q0 := 1) rfl rfl, fun U hU hW => ⟨rfl, by rw [hU], by rw [hU]; exact hP.sub [1, 2, 3, 4, 5, 6, 7, 8] rfl, va_K.moved hW.alike (hK.sub [0, 1] rfl), (hD.sub [1, 2, 3, 4, 5, 6, 7, 8] (by decide) rfl).weaken (fun _ _ _ _ => trivial), by rw [hU]; exact ((hZ.kept hS.2.1).narrow (fun q h => va_free hD hS hA [1, 2, 3, 4, 5, 6, 7, 8] rfl q h)).warm hW⟩⟩ rfl rfl hl.1 rfl (lv_room (Nat.le_of_ble_eq_true rfl)) dL_count_4 ⟨Nat.le_of_ble_eq_true rfl, Nat.le_of_ble_eq_true rfl⟩) hP hD hS hA [1, 2, 3, 4, 5, 6, 7, 8] [0] rfl rfl (by decide) (by decide) (by decide) (fun _ => rfl) ?_ ?_
  · intro E ce q9 H locs he hP hS hce hv9 hcl
    have hEq := hRE E he
    subst hEq
    · refine ct_W1 (name := ex_A) hown htb (by decide) (by decide) (hts (.classLink RL 13 ex_A) (by decide +kernel)) (va_tabs rfl rfl (hZ.2.2.2.2.2.1 (.castable ex_A ex_A) (by decide +kernel))) hce hv9 hcl ?_
      refine lv_astore_n (lv' := [(3, .ref q9), (0, .ref q5), (1, .int a0), (2, .ref qx)]) hx hb dL_count_12 rfl hl (by decide) rfl (fun ls hl => ?_)
      refine lv_iconst (v := (1 : Int32)) hx hb dL_count_13 (by decide +kernel) ?_
      refine W.widen (k := 1) (n := 6) (by decide) (by decide) (vx_ret ?_)
      exact W.iret (v := (1 : Int32)) hx hb hr (fun t ht _ => ⟨⟨(1 : Int32), (), rfl, by rw [he]; rfl, show va_P (dC, dI) kcl (wl_L_count qx q5 q2 q1 q3 qs qo qh qw cyI cyJ g_X w_o w_f w_r w_b w_a w_l t_S t_O t_H s_n t_W s_k v_s R) t.heap by rw [he, ht]; exact hP⟩, hS.F ht⟩) hS.2.2 dL_count_14
  · intro u r H locs hok hP hD hS
    have hP : va_P (dC, dI) kcl (lw_W qx q5 q2 q1 q3 qs qo qh qw cyI cyJ g_X w_o w_f w_r w_b w_a w_l t_S t_O t_H s_n t_W s_k v_s) H := hP
    have hD : va_D A (lw_W qx q5 q2 q1 q3 qs qo qh qw cyI cyJ g_X w_o w_f w_r w_b w_a w_l t_S t_O t_H s_n t_W s_k v_s) := hD
    refine lv_i2l (v := (r.toInt64)) hx hb dL_count_7 rfl ?_
    refine va_last hx hb hK hP hD hS 0 1 rfl rfl (by unfold vp_in; decide +kernel) dL_count_8 (fun H locs hP hD hS => ?_)
    have hP : va_P (dC, dI) kcl (lw_W qx q5 q2 q1 q3 qs qo qh qw cyI cyJ (vp_updL g_X ((0 : Int32)).toNatClampNeg (r.toInt64)) w_o w_f w_r w_b w_a w_l t_S t_O t_H s_n t_W s_k v_s) H := hP
    have hD : va_D A (lw_W qx q5 q2 q1 q3 qs qo qh qw cyI cyJ (vp_updL g_X ((0 : Int32)).toNatClampNeg (r.toInt64)) w_o w_f w_r w_b w_a w_l t_S t_O t_H s_n t_W s_k v_s) := hD
    refine lv_goto (tgt := 15) hx hb dL_count_9 (by decide) ?_
    refine lv_iconst (v := (0 : Int32)) hx hb dL_count_15 (by decide +kernel) ?_
    refine W.widen (k := 1) (n := 6) (by decide) (by decide) (vx_ret ?_)
    exact W.iret (v := (0 : Int32)) hx hb hr (fun t ht _ => ⟨⟨(0 : Int32), (), rfl, by rw [hok]; rfl, show va_P (dC, dI) kcl (wl_L_count qx q5 q2 q1 q3 qs qo qh qw cyI cyJ g_X w_o w_f w_r w_b w_a w_l t_S t_O t_H s_n t_W s_k v_s R) t.heap by rw [hok, ht]; exact hP⟩, hS.F ht⟩) hS.2.2 dL_count_16

/-! what a throw of the class needs of the machine, and carries along -/
abbrev ex_A : String := "java/lang/IllegalArgumentException"
abbrev ex_I : String := "java/lang/IndexOutOfBoundsException"
abbrev ex_S : String := "java/lang/IllegalStateException"
abbrev ex_N : List String := ["java/lang/RuntimeException", "java/lang/Exception"]
def ex_L (ic : Nat) (X : String) : List Cond := (vx_atS RX5 ic X ex_N).filter (fun w => !goodWord w)
def ex_w (L : List Cond) (U : State) : Prop := ∀ w ∈ L, w.before #[] U = true
theorem ex_w.moved {L : List Cond} (hL : L.all (fun w => w.faceAtom && w.onTables) = true) {u U : State} (hvm : u.vm.Alike U.vm) (h : ex_w L u) : ex_w L U := by
  intro w hw
  have h1 := List.all_eq_true.mp hL w hw
  rw [Bool.and_eq_true] at h1
  exact va_tabs h1.2 (rfl : (u.setVm U.vm).vm = U.vm) (Cond.faceAtom_setVm (args := #[]) hvm w h1.1 (h w hw))
theorem ex_fA : (ex_L 144 ex_A).all (fun w => w.faceAtom && w.onTables) = true := by decide +kernel
theorem ex_fI : (ex_L 89 ex_I).all (fun w => w.faceAtom && w.onTables) = true := by decide +kernel
theorem ex_fS : (ex_L 106 ex_S).all (fun w => w.faceAtom && w.onTables) = true := by decide +kernel
def ex_Z (A : Nat → Prop) (U : State) (H : Heap) : Prop :=
  vx_Zq Bundle.tN "UNASSIGNED_STACK" Bundle.steD A U H ∧ vx_Zq Bundle.tN "SUPPRESSED_SENTINEL" Bundle.listD A U H ∧
  (∃ a, vk_R RX5 142 "a number is out of range" a U) ∧ (∃ a, vk_R RX5 87 "the row has no such act" a U) ∧ (∃ a, vk_R RX5 104 "the act can not be done" a U) ∧
  ex_w (ex_L 144 ex_A) U ∧ ex_w (ex_L 89 ex_I) U ∧ ex_w (ex_L 106 ex_S) U ∧ va_Nc ex_S ex_A U
theorem ex_Z.warm {A : Nat → Prop} {u U : State} {H : Heap} (hW : u.WarmedH U.vm) (h : ex_Z A u H) : ex_Z A U H := by
  obtain ⟨h1, h2, ⟨a, h3⟩, ⟨b, h4⟩, ⟨c, h5⟩, h6, h7, h8, h9⟩ := h
  exact ⟨vx_Zq.moved hW.alike h1, vx_Zq.moved hW.alike h2, ⟨a, vk_R.warm hW h3⟩, ⟨b, vk_R.warm hW h4⟩, ⟨c, vk_R.warm hW h5⟩, ex_w.moved ex_fA hW.alike h6, ex_w.moved ex_fI hW.alike h7, ex_w.moved ex_fS hW.alike h8, h9.moved hW.alike⟩
theorem ex_Z.same {A : Nat → Prop} {u U : State} {H : Heap} (hv : U.vm = u.vm) (h : ex_Z A u H) : ex_Z A U H := ex_Z.warm (by rw [hv]; exact State.WarmedH.refl u) h
theorem ex_Z.kept {A : Nat → Prop} {U : State} {H H1 : Heap} (h : ex_Z A U H) (hq : ∀ a : Nat, a < H.size → ¬ A a → H1[a]? = H[a]?) : ex_Z A U H1 := ⟨h.1.kept hq, h.2.1.kept hq, h.2.2⟩
theorem ex_Z.narrow {A B : Nat → Prop} {U : State} {H : Heap} (h : ex_Z A U H) (hAB : ∀ q, B q → A q) : ex_Z B U H := ⟨h.1.narrow hAB, h.2.1.narrow hAB, h.2.2⟩
/-! numbers that must lie within -/
def xm_P (sz : Nat) (a b c : Int32) : Array Value → State → Prop := fun v U => v = ([.int a, .int b, .int c] : List Value).toArray ∧ U.heap.size = sz ∧ ex_Z (fun q => sz ≤ q) U U.heap
theorem xm_blind {sz : Nat} {a b c : Int32} : FrameBlind (xm_P sz a b c) := fun _ U g mk q => ⟨q.1, q.2.1, ex_Z.same (u := U) rfl q.2.2⟩
abbrev xm_Q (sz : Nat) (a b c : Int32) : Array Value → State → Outcome → State → Prop := va_Qv (fun _ : Unit => ¬ a < b ∧ a ≤ c) (fun _ _ => True) (fun q => sz ≤ q)
abbrev xm_X (sz : Nat) (a b c : Int32) : String → State → State → Prop := vx_X (fun _ : Unit => a < b ∨ ¬ a ≤ c) (fun E _ _ => E = ex_A) (fun q => sz ≤ q)
theorem ex_g {L : List Cond} (h : L.all vx_ot = true) : ∀ w ∈ L, vx_ot w = true := List.all_eq_true.mp h
set_option maxHeartbeats 4000000 in
set_option maxRecDepth 100000 in
theorem c_X5_mustLieWithin (l : Launch) (hl0 : l.stackTraces = false) (sz : Nat) (a b c : Int32) : vx_Met l yX5_mustLieWithin wsX5_mustLieWithin ({ frames := 6, cells := 1, slots := 6, locals := 82 }) (xm_P sz a b c) (xm_Q sz a b c) (xm_X sz a b c) 1 6 (fun q => sz ≤ q) := by
  refine vx_ofW (cc := cX5_mustLieWithin) (maxL := 3) (ret := none) (by decide) rfl ?_
  intro p e s m args below meth cd s₁ B hml hnt hv
  obtain ⟨rfl, rfl, hZ⟩ := hv
  have hx := B.exec
  have hb := B.bytes
  have hr := B.returns
  have hts := atoms_spec (ws := wsX5_mustLieWithin) B.pre
  have hown : s.vm.findClass RX5 = some m.cls := findClass_of_methodNamed B.named
  have hlocks := B.notSynchronized
  have hl := lv_entry ([.int a, .int b, .int c]) (n := 3) (Nat.le_of_ble_eq_true rfl)
  rw [lg_entry_eq]
  generalize (lg_sl ([.int a, .int b, .int c]) ++ List.replicate (3 - (lg_sl ([.int a, .int b, .int c])).length) Slot.unset).toArray = ls at hl ⊢
  have hl : lv_has ls 3 [(0, .int a), (1, .int b), (2, .int c)] := hl
  have thr : (a < b ∨ ¬ a ≤ c) → W p l e (headSpec wsX5_mustLieWithin ({ frames := 6, cells := 1, slots := 6, locals := 82 })).room s m ([.int a, .int b, .int c] : List Value).toArray below meth cd s.heap [] 0 0 (vx_MQ below (xm_Q s.heap.size a b c) (xm_X s.heap.size a b c) ([.int a, .int b, .int c] : List Value).toArray s 1 6 (fun q => s.heap.size ≤ q)) (F0 m 10 ls []) := by
    intro hc
    obtain ⟨h1, h2, ⟨sa, h3⟩, h4, h5, h6, h7, h8, h9⟩ := hZ
    refine vx_throwS (A := fun q => s.heap.size ≤ q) (sa := sa) (names := ex_N) (cls := ex_A) (own := RX5) (ik := 140) (is := 142) (ic := 144) (text := "a number is out of range") hx hb hl0 hown (by decide +kernel) (fun n hn => by
        have := List.all_eq_true.mp (show ex_N.all Bundle.fit = true by decide +kernel) n hn; exact this) (hts _ (List.mem_of_getElem? (i := 1) (by decide +kernel))) (hts _ (List.mem_of_getElem? (i := 2) (by decide +kernel))) h3
      (vx_hat (B := ex_L 144 ex_A) (fun w hw => hts w (List.mem_cons_of_mem _ (List.mem_append_right _ hw))) (fun w hw => hw) (fun w hw => va_tabs (by have := List.all_eq_true.mp ex_fA w hw; rw [Bool.and_eq_true] at this; exact this.2) rfl (h6 w hw)))
      (ex_g (by decide +kernel)) h1 h2 va_S.rf (hl.1.trans hml.symm) dX5_mustLieWithin_10 dX5_mustLieWithin_13 dX5_mustLieWithin_14 dX5_mustLieWithin_16 dX5_mustLieWithin_19 (fun x hx => absurd (hnt x hx) id) (by decide) (by decide) (by decide) (by decide) hlocks ?_ (fun z hz => nomatch hz) (Nat.le_refl _) (Nat.le_refl _)
    exact fun t _ hs hq => ⟨(), hc, rfl, hs, fun q hq1 _ => hq q hq1⟩
  refine lv_iload_n hx hb dX5_mustLieWithin_0 rfl (lv_at hl 0 rfl) ?_
  refine lv_iload_n hx hb dX5_mustLieWithin_1 rfl (lv_at hl 1 rfl) ?_
  refine lv_icmp_lt (tgt := 10) hx hb dX5_mustLieWithin_2 (by decide) (fun c_1 => ?_) (fun c_1 => ?_)
  · exact thr (Or.inl c_1)
  · refine lv_iload_n hx hb dX5_mustLieWithin_5 rfl (lv_at hl 0 rfl) ?_
    refine lv_iload_n hx hb dX5_mustLieWithin_6 rfl (lv_at hl 2 rfl) ?_
    refine lv_icmp_le (tgt := 20) hx hb dX5_mustLieWithin_7 (by decide) (fun c_2 => ?_) (fun c_2 => ?_)
    · refine W.widen (k := 1) (n := 6) (by decide) (by decide) (vx_ret ?_)
      exact W.vret hx hb hr (fun t ht _ => ⟨⟨(), rfl, ⟨c_1, c_2⟩, trivial⟩, va_S.rf.F ht⟩) (fun z hz => nomatch hz) dX5_mustLieWithin_20
    · exact thr (Or.inr c_2)
/-! worlds of methods that may throw -/
def xw_P (av : List Value) (sz : Nat) (D : va_G) (cl : List vw_C) (ws : va_W) (tys : List (ClassId × FieldType)) : Array Value → State → Prop := fun v U => v = av.toArray ∧ U.heap.size = sz ∧ va_P D cl ws U.heap ∧ va_K D cl tys U ∧ va_D (fun _ => True) ws ∧ ex_Z (va_A ws sz) U U.heap
theorem xw_blind {av : List Value} {sz : Nat} {D : va_G} {cl : List vw_C} {ws : va_W} {tys : List (ClassId × FieldType)} : FrameBlind (xw_P av sz D cl ws tys) := fun a U g mk q => ⟨q.1, q.2.1, q.2.2.1, va_K.moved (u := U) (U := U.calling g mk a) (Vm.Alike.refl U.vm) q.2.2.2.1, q.2.2.2.2.1, ex_Z.same (u := U) rfl q.2.2.2.2.2⟩
/-- R: what it throws, or what it leaves and answers -/
abbrev xr_i {T : Type} (R : Except String (T × Int32)) (w : T → va_W) (D : va_G) (cl : List vw_C) (A : Nat → Prop) : Array Value → State → Outcome → State → Prop := va_Qi (fun r u => R = .ok (u, r)) (fun u t => va_P D cl (w u) t.heap) A
abbrev xr_v {T : Type} (R : Except String T) (w : T → va_W) (D : va_G) (cl : List vw_C) (A : Nat → Prop) : Array Value → State → Outcome → State → Prop := va_Qv (fun u => R = .ok u) (fun u t => va_P D cl (w u) t.heap) A
abbrev xr_X {T : Type} (R : Except String T) (w0 : va_W) (D : va_G) (cl : List vw_C) (A : Nat → Prop) : String → State → State → Prop := vx_X (fun _ : Unit => True) (fun E _ t => R = .error E ∧ va_P D cl w0 t.heap) A
section XM
variable {p : Program} {l : Launch} {e : Env} {R : Room} {s : State} {m : MethodId} {args : Array Value} {below : List Frame} {meth : Method} {c : Code} {H : Heap} {locs : List Loc} {cells slots : Nat} {Q : State → Prop}
theorem xm_call {pc nL : Nat} {ls : Array Slot} {rest : List Value} {cc : ByteArray} {Ts : List Cond} {D : va_G} {cl : List vw_C} {w : va_W} {A : Nat → Prop} {x lo hi : Int32} (hl0 : l.stackTraces = false) (S : CallFix p m c cc nL s args Ts RX5) (hg : GoodIn Ts (va_wsS RX5 42 yX5_mustLieWithin wsX5_mustLieWithin)) (hrm : 7 ≤ R.frames ∧ 104 ≤ R.locals) (hcs : cells + 1 ≤ R.cells ∧ slots + 6 ≤ R.slots)
    (hZ : ex_Z A s s.heap) (hP : va_P D cl w H) (hS : va_S A s.heap H locs) (hA : ∀ q : Nat, s.heap.size ≤ q → A q) (hsize : ls.size = nL) (hW : (rest.map fun v => v.category).sum ≤ 8) (hdg : decode cc pc = .ok (.invokestatic 42, 3))
    (kx : (x < lo ∨ ¬ x ≤ hi) → ∀ (H1 : Heap) (locs1 : List Loc) (ce : Cell) (q9 : Addr), va_P D cl w H1 → va_S A s.heap H1 locs1 → H1[q9]? = some ce → ce.vm = .none → s.vm.findClass ex_A = some ce.cls → vx_W p l e R s m args below meth c H1 locs1 (cells + 1) (slots + 6) Q (F0 m pc ls rest) q9)
    (kk : ¬ x < lo → x ≤ hi → ∀ (H1 : Heap) (locs1 : List Loc), va_P D cl w H1 → va_S A s.heap H1 locs1 → W p l e R s m args below meth c H1 locs1 (cells + 1) (slots + 6) Q (F0 m (pc + 3) ls rest)) :
    W p l e R s m args below meth c H locs cells slots Q (F0 m pc ls (.int hi :: .int lo :: .int x :: rest)) := by
  have hts := S.2.2.2.2
  have hn : ∀ q : Nat, q < H.size → H.size ≤ q → A q := fun q h1 h2 => absurd h1 (by omega)
  have hAH : ∀ q : Nat, H.size ≤ q → A q := fun q h => hA q (Nat.le_trans hS.1 h)
  refine vx_callv (A0 := A) (H0 := s.heap) (A1 := fun q => H.size ≤ q) (AX := fun q => H.size ≤ q) (free := fun q => H.size ≤ q) (rest := rest)
    (vx_runS (As := [.int x, .int lo, .int hi]) (rest := rest) (g := F0 m pc ls (.int hi :: .int lo :: .int x :: rest)) S (c_X5_mustLieWithin l hl0 H.size x lo hi) (va_cwS 3 hts hg rfl rfl rfl (by decide +kernel) ⟨hrm.1, hrm.2⟩)
      ⟨xm_blind, fun U hU hW => ⟨rfl, by rw [hU], by rw [hU]; exact ((hZ.kept hS.2.1).narrow hAH).warm hW⟩⟩ rfl rfl hsize rfl (by show 2 * 0 + _ ≤ 8; omega) hdg hcs) hS hn (fun q h => hAH q h) hn ?_ ?_
  · intro E ce q9 u t H1 locs1 ht hal px bx hsz hk hS1 hce hv hcl
    have bx : E = ex_A := bx
    subst bx
    exact kx px H1 locs1 ce q9 (hP.kept (fun k q hq => hk q.1 (vx_lt hP hq) (by have := vx_lt hP hq; omega))) hS1 hce hv hcl
  · intro u t H1 locs1 ht hal po _ hsz hk hS1
    exact kk po.1 po.2 H1 locs1 (hP.kept (fun k q hq => hk q.1 (vx_lt hP hq) (by have := vx_lt hP hq; omega))) hS1
end XM

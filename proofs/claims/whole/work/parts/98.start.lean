def R_law : String := "ColourTrierLaw"
def lw_P (b : Addr) (xs : List Int32) (args : Array Value) (s : State) : Prop := args = #[.ref b] ∧ s.IntsAt b xs ∧ xs.length ≤ 2048 ∧ (Jvm.Cond.and given_1 narrow_1).before args s = true
def lw_Q (_ : Array Value) (s : State) (o : Outcome) (t : State) : Prop := o = .returned (some (.int 1)) ∧ Framed s o t [] 601024 7293034
def lw_Z (below : List Frame) (a : Array Value) (s : State) : State → Prop := fun t => ∃ o, t.status = .running ∧ Ended t below o ∧ lw_Q a s o t
/-- the law's own end, with 1 on the stack, nothing written that was there before, its room as the claim has it -/
theorem lw_ret {p : Program} {l : Launch} {e : Env} {s : State} {m : MethodId} {below : List Frame} {meth : Method} {c : Code} {b : Nat} (hx : p.tables.exec = Jvm.exec) (hb : c.code = code) (hr : meth.sig.returnType = ret) (hlocks : meth.locks = false) {pc : Nat} {H : Heap} {ls : Array Slot} (hdg : decode code pc = .ok (.ireturn, 1)) : W p l e room_1 s m #[Value.ref b] below meth c H [] 601024 7293034 (lw_Z below #[Value.ref b] s) (F0 m pc ls [.int 1]) := by
  intro T hT X
  obtain ⟨fs, hret, hrun, hended, hW, hframe⟩ := X.leave (v := some (.int 1)) (hlocks := hlocks) (fun h => by rw [hr] at h; cases h)
  have hmeth' : T.vm.method? m = some meth := X.method'
  refine ⟨T.setFrames fs, ?_, .returned (some (.int 1)), hrun, hended, rfl, ⟨_, rfl⟩, hW, hframe⟩
  jvm_step X.here [X.here.top, hx, hb, hdg, hmeth', hr, ret, narrow_b1]
  (try refine ⟨rfl, ?_⟩); (try refine ⟨rfl, ?_⟩)
  first | (intro acts; rw [hret _ acts rfl rfl rfl]) | rw [hret _ _ rfl rfl rfl]
  exact Steps.refl _
/-- what holds at the law's entry: the machine, the code, the tables' words (any of lw_tbl by 'hts w (by decide +kernel)'), the script of L ints xs at the cell b, what the Statement gives of the start (any of its parts by flat_of_before) -/
def lw_At (p : Program) (s : State) (m : MethodId) (meth : Method) (c : Code) (b L : Nat) (xs : Nat → Int32) : Prop :=
  p.tables.exec = Jvm.exec ∧ c.code = code ∧ meth.sig.returnType = ret ∧ c.maxLocals = 7 ∧ s.vm.findClass R_law = some m.cls ∧ (∀ w ∈ lw_tbl, w.before #[Value.ref b] s = true) ∧ va_X b L xs s s.heap ∧ b < s.heap.size ∧ meth.locks = false ∧ (Jvm.Cond.and given_1 narrow_1).before #[Value.ref b] s = true
theorem st_arr {args : Array Value} {s : State} {ty : FieldType} (h : (Cond.arrayClass ty).before args s = true) : ∃ cA : ClassId, ArrOfT s cA ty ∧ s.vm.findClass ("[" ++ ty.toString) = some cA := by
  obtain ⟨cA, kA, comp, h1, h2, h3⟩ := Cond.arrayClass_spec h
  exact ⟨cA, fun n z => ⟨fun k h => (by cases h), kA, h2, comp, h3⟩, h1⟩
theorem st_N {b : Nat} {s : State} (htb : ∀ w ∈ lw_tbl, w.before #[Value.ref b] s = true) : va_Nw (.methodLinkNest RX5 9 yX3_init RX5) s := va_Nw.of rfl (htb _ (by decide +kernel))
theorem st_str {args : Array Value} {s : State} {own tx : String} {k : Nat} (h1 : (Cond.stringRef own k tx).before args s = true) (h2 : (Cond.exactly (.string own k) "java/lang/String").before args s = true) : ∃ a, vk_R own k tx a s := by
  obtain ⟨a, c, cA, kA, q1, -⟩ := Cond.exactly_spec (args := args) (first := s) (o := none) (s := s) (idx := []) h2
  exact ⟨a, vk_R.of (A := args) h1 q1⟩
theorem st_w {b : Nat} {s : State} {L : List Cond} (htb : ∀ w ∈ lw_tbl, w.before #[Value.ref b] s = true) (hL : L.all (fun w => w.faceAtom && w.onTables) = true) (hm : ∀ w ∈ L, w ∈ lw_tbl) : ex_w L s := fun w hw => va_tabs (by have := List.all_eq_true.mp hL w hw; rw [Bool.and_eq_true] at this; exact this.2) rfl (htb w (hm w hw))
set_option maxRecDepth 20000 in
theorem st_wA : ∀ w ∈ ex_L 144 ex_A, w ∈ lw_tbl := by decide +kernel
set_option maxRecDepth 20000 in
theorem st_wI : ∀ w ∈ ex_L 89 ex_I, w ∈ lw_tbl := by decide +kernel
set_option maxRecDepth 20000 in
theorem st_wS : ∀ w ∈ ex_L 106 ex_S, w ∈ lw_tbl := by decide +kernel
set_option maxRecDepth 20000 in
theorem st_Z {b : Nat} {s : State} (htb : ∀ w ∈ lw_tbl, w.before #[Value.ref b] s = true) (hgv : (Jvm.Cond.and given_1 narrow_1).before #[Value.ref b] s = true) : ex_Z (fun q : Nat => s.heap.size ≤ q) s s.heap := by
  have hq := flat_of_before _ hgv
  have hA : ∀ a : Nat, a < s.heap.size → ¬ (fun q : Nat => s.heap.size ≤ q) a := fun a h => Nat.not_le.mpr h
  refine ⟨vx_Zqof (htb _ (by decide +kernel)) (htb _ (by decide +kernel)) (hq _ (by decide +kernel)) hA, vx_Zqof (htb _ (by decide +kernel)) (htb _ (by decide +kernel)) (hq _ (by decide +kernel)) hA, ?_, ?_, ?_, st_w htb ex_fA st_wA, st_w htb ex_fI st_wI, st_w htb ex_fS st_wS, va_Nc.of (hq (.not (.castable ex_S ex_A)) (by decide +kernel))⟩
  · exact st_str (htb (.stringRef RX5 142 "a number is out of range") (by decide +kernel)) (hq (.exactly (.string RX5 142) "java/lang/String") (by decide +kernel))
  · exact st_str (htb (.stringRef RX5 87 "the row has no such act") (by decide +kernel)) (hq (.exactly (.string RX5 87) "java/lang/String") (by decide +kernel))
  · exact st_str (htb (.stringRef RX5 104 "the act can not be done") (by decide +kernel)) (hq (.exactly (.string RX5 104) "java/lang/String") (by decide +kernel))
set_option maxHeartbeats 4000000 in
set_option maxRecDepth 100000 in
theorem whole_start {p : Program} {e : Env} {s : State} {m : MethodId} {below : List Frame} {meth : Method} {c : Code} (l : Launch) (hl0 : l.stackTraces = false) {b L : Nat} {xs : Nat → Int32} (hL : L ≤ 2048) (C0 : lw_At p s m meth c b L xs) : W p l e room_1 s m #[Value.ref b] below meth c s.heap [] 0 0 (lw_Z below #[Value.ref b] s) (entryFrame m ([Value.ref b] : List Value).toArray 7) := by
  obtain ⟨hx, hb0, hr, hml, hown0, htb, hX, hbl, hlocks, hgv⟩ := id C0
  have hb : c.code = cL_law := hb0
  have hown : s.vm.findClass RL = some m.cls := hown0
  have hts : ∀ w ∈ wsL_law, w.before #[Value.ref b] s = true := fun w h => htb w (wsL_law_in w h)
  have h1 : ∀ w ∈ wsL_law0_r1, w.before #[Value.ref b] s = true := fun w h => htb w (lt_r1 w h)
  have h2 : ∀ w ∈ wsL_law0_r2, w.before #[Value.ref b] s = true := fun w h => htb w (lt_r2 w h)
  have h3 : ∀ w ∈ wsL_law0_r3, w.before #[Value.ref b] s = true := fun w h => htb w (lt_r3 w h)
  have h4 : ∀ w ∈ wsL_law0_r4, w.before #[Value.ref b] s = true := fun w h => htb w (lt_r4 w h)
  have hA : ∀ q : Nat, s.heap.size ≤ q → (fun q : Nat => s.heap.size ≤ q) q := fun _ h => h
  have hbA : ¬ (fun q : Nat => s.heap.size ≤ q) b := Nat.not_le.mpr hbl
  obtain ⟨c0, i0, k0⟩ := u_known (C := RX1) (T := TX1) (N := 1) (n := 1) hts inlX1 (h1 (.instantiable RX1 1) (by decide +kernel))
  obtain ⟨c1, i1, k1⟩ := u_known (C := RX2) (T := TX2) (N := 7) (n := 7) hts inlX2 (h1 (.instantiable RX2 7) (by decide +kernel))
  obtain ⟨c2, i2, k2⟩ := u_known (C := RX3) (T := TX3) (N := 6) (n := 6) hts inlX3 (h1 (.instantiable RX3 6) (by decide +kernel))
  obtain ⟨c3, i3, k3⟩ := u_known (C := RX5) (T := TX5) (N := 4) (n := 4) hts inlX5 (h1 (.instantiable RX5 4) (by decide +kernel))
  obtain ⟨c4, i4, k4⟩ := u_known (C := RX6) (T := TX6) (N := 25) (n := 25) hts inlX6 (h1 (.instantiable RX6 25) (by decide +kernel))
  obtain ⟨dC, dI, hKc⟩ : ∃ (dC : Nat → ClassId) (dI : Nat → Nat → Nat), ∀ (k : Nat) (q : vw_C), kcl[k]? = some q → u_Kn s q.1 q.2.1 q.2.2 (dC k) (dI k) := by
    refine ⟨fun k => if k = 0 then c0 else if k = 1 then c1 else if k = 2 then c2 else if k = 3 then c3 else c4, fun k => if k = 0 then i0 else if k = 1 then i1 else if k = 2 then i2 else if k = 3 then i3 else i4, ?_⟩
    intro k q hq
    match k, hq with
    | 0, hq => cases hq; exact k0
    | 1, hq => cases hq; exact k1
    | 2, hq => cases hq; exact k2
    | 3, hq => cases hq; exact k3
    | 4, hq => cases hq; exact k4
    | k + 5, hq => simp [kcl] at hq
  obtain ⟨cyI, aI, fI⟩ := st_arr (h2 (.arrayClass .int) (by decide +kernel))
  obtain ⟨cyJ, aJ, fJ⟩ := st_arr (h1 (.arrayClass .long) (by decide +kernel))
  obtain ⟨cyZ, aZ, fZ⟩ := st_arr (h4 (.arrayClass .boolean) (by decide +kernel))
  have hK : va_K (dC, dI) kcl [(cyI, .int), (cyJ, .long), (cyZ, .boolean)] s := by
    refine ⟨hKc, fun k q h => ?_⟩
    match k, h with
    | 0, h => cases h; exact ⟨aI, fI⟩
    | 1, h => cases h; exact ⟨aJ, fJ⟩
    | 2, h => cases h; exact ⟨aZ, fZ⟩
    | k + 3, h => simp at h
  have hZ : ex_Z (fun q : Nat => s.heap.size ≤ q) s s.heap := st_Z htb hgv
  have hF : ar_c cyI cyJ cyZ s := ⟨fI, fJ, fZ, st_N htb⟩
  have hS : va_S (fun q : Nat => s.heap.size ≤ q) s.heap s.heap [] := va_S.rf
  have hP : va_P (dC, dI) kcl [] s.heap := fun k q h => by simp at h
  have hD : va_D (fun q : Nat => s.heap.size ≤ q) [] := ⟨fun i j p q h => by simp at h, fun k q h => by simp at h⟩
  have hl := lv_entry ([.ref b]) (n := 7) (Nat.le_of_ble_eq_true rfl)
  rw [lg_entry_eq]
  generalize (lg_sl ([.ref b]) ++ List.replicate (7 - (lg_sl ([.ref b])).length) Slot.unset).toArray = ls at hl ⊢
  have hl : lv_has ls 7 [(0, .ref b)] := hl
  refine va_new (ci := 3) (fs := [.null, .null, .null, .long 0]) (C := RX5) (T := TX5) (N := 4) hx hb hts inlX5 tyX5 tyX5_ok hown (h1 (.classLink RL 8 RX5) (by decide +kernel)) (h1 (.instantiable RX5 4) (by decide +kernel)) (h1 (.initialized RX5) (by decide +kernel)) hK hP hD hS hA rfl (fun j hj => by rcases (show j = 0 ∨ j = 1 ∨ j = 2 ∨ j = 3 by omega) with rfl | rfl | rfl | rfl <;> rfl) (Nat.le_of_ble_eq_true rfl) (Nat.le_of_ble_eq_true rfl) dL_law_0 (fun q5 H hP hD hS => ?_)
  have hP : va_P (dC, dI) kcl [(q5, .inr (3, [.null, .null, .null, .long 0]))] H := hP
  have hD : va_D (fun q : Nat => s.heap.size ≤ q) [(q5, .inr (3, [.null, .null, .null, .long 0]))] := hD
  refine W.widen (k := 1) (n := 4) (by omega) (by omega) ?_
  refine lv_dup hx hb dL_law_3 rfl ?_
  have hFc := va_free (wc := [(q5, .inr (3, [.null, .null, .null, .long 0]))]) hD hS hA [0] rfl
  refine va_callv (va_runI (As := []) (rest := [.ref q5]) ⟨hx, hb, hml, hown, hts⟩ (c_X5_init l dC dI q5 cyI cyJ cyZ H.size) (cwI 0 hts gL_law_X5_init rfl rfl rfl (h1 (.initialized RX5) (by decide +kernel)) (h1 (.methodLink RL 56 yX5_init) (by decide +kernel)) (h1 (.instanceMethod yX5_init) (by decide +kernel)) rfl (by decide +kernel) ⟨Nat.le_of_ble_eq_true rfl, Nat.le_of_ble_eq_true rfl⟩) ⟨cn_blind, fun U hU hW => ⟨rfl, by rw [hU], by rw [hU]; exact hP, va_K.moved hW.alike (hK.sub [] rfl), hD.weaken (fun _ _ _ _ => trivial), hF.warm hW⟩⟩ rfl rfl hl.1 rfl (lv_room (Nat.le_of_ble_eq_true rfl)) dL_law_4 ⟨Nat.le_of_ble_eq_true rfl, Nat.le_of_ble_eq_true rfl⟩) hS (fun q _ h => hFc q h) hFc (fun u t H1 locs ht hvm _ hB hz1 hk1 hS => ?_)
  obtain ⟨q3, q1, q2, qs, qo, qh, qw⟩ := u
  obtain ⟨hP1, hD1⟩ := hB
  rw [ht] at hP1
  obtain ⟨hP, hD⟩ := va_join (wr := []) (w1 := [(q5, .inr (3, [.ref q3, .ref q1, .ref q2, .long (cf_X3_firstState (1 : Int32) (1 : Int32) (1 : Int32) (0 : Int32) (0 : Int32) (0 : Int64))])), (q3, .inr (2, [.int (1 : Int32), .int (1 : Int32), .int (1 : Int32), .int (0 : Int32), .int (0 : Int32), .long (0 : Int64)])), (q1, .inr (0, [.ref q3])), (q2, .inr (1, [.ref q1, .ref qs, .ref qo, .ref qh, .int (0 : Int32), .ref qw, .int (0 : Int32)])), (qs, .inl (cyJ, 20000, .inr (.inl zL))), (qo, .inl (cyI, 20000, .inl z0)), (qh, .inl (cyI, 32768, .inl z0)), (qw, .inl (cyI, 40, .inl z0))]) hP hD [0] [] rfl rfl (by decide) (by decide) hk1 hFc hP1 hD1
  generalize H1 = H at hP hS ⊢
  have hP : va_P (dC, dI) kcl [(q5, .inr (3, [.ref q3, .ref q1, .ref q2, .long (cf_X3_firstState (1 : Int32) (1 : Int32) (1 : Int32) (0 : Int32) (0 : Int32) (0 : Int64))])), (q3, .inr (2, [.int (1 : Int32), .int (1 : Int32), .int (1 : Int32), .int (0 : Int32), .int (0 : Int32), .long (0 : Int64)])), (q1, .inr (0, [.ref q3])), (q2, .inr (1, [.ref q1, .ref qs, .ref qo, .ref qh, .int (0 : Int32), .ref qw, .int (0 : Int32)])), (qs, .inl (cyJ, 20000, .inr (.inl zL))), (qo, .inl (cyI, 20000, .inl z0)), (qh, .inl (cyI, 32768, .inl z0)), (qw, .inl (cyI, 40, .inl z0))] H := hP
  have hD : va_D (fun q : Nat => s.heap.size ≤ q) [(q5, .inr (3, [.ref q3, .ref q1, .ref q2, .long (cf_X3_firstState (1 : Int32) (1 : Int32) (1 : Int32) (0 : Int32) (0 : Int32) (0 : Int64))])), (q3, .inr (2, [.int (1 : Int32), .int (1 : Int32), .int (1 : Int32), .int (0 : Int32), .int (0 : Int32), .long (0 : Int64)])), (q1, .inr (0, [.ref q3])), (q2, .inr (1, [.ref q1, .ref qs, .ref qo, .ref qh, .int (0 : Int32), .ref qw, .int (0 : Int32)])), (qs, .inl (cyJ, 20000, .inr (.inl zL))), (qo, .inl (cyI, 20000, .inl z0)), (qh, .inl (cyI, 32768, .inl z0)), (qw, .inl (cyI, 40, .inl z0))] := hD
  refine W.widen (k := 8) (n := 72826) (by omega) (by omega) ?_
  refine lv_astore_n (lv' := [(1, .ref q5), (0, .ref b)]) hx hb dL_law_7 rfl hl (by decide) rfl (fun ls hl => ?_)
  refine va_new (ci := 4) (fs := [.int 0, .int 0, .int 0, .int 0, .int 0, .int 0, .null, .null, .null, .null, .null, .null, .int 0, .int 0, .int 0, .long 0, .null, .null, .null, .null, .int 0, .null, .int 0, .int 0, .null]) (C := RX6) (T := TX6) (N := 25) hx hb hts inlX6 tyX6 tyX6_ok hown (h1 (.classLink RL 57 RX6) (by decide +kernel)) (h1 (.instantiable RX6 25) (by decide +kernel)) (h1 (.initialized RX6) (by decide +kernel)) hK hP hD hS hA rfl (fun j hj => by rcases (show j = 0 ∨ j = 1 ∨ j = 2 ∨ j = 3 ∨ j = 4 ∨ j = 5 ∨ j = 6 ∨ j = 7 ∨ j = 8 ∨ j = 9 ∨ j = 10 ∨ j = 11 ∨ j = 12 ∨ j = 13 ∨ j = 14 ∨ j = 15 ∨ j = 16 ∨ j = 17 ∨ j = 18 ∨ j = 19 ∨ j = 20 ∨ j = 21 ∨ j = 22 ∨ j = 23 ∨ j = 24 by omega) with rfl | rfl | rfl | rfl | rfl | rfl | rfl | rfl | rfl | rfl | rfl | rfl | rfl | rfl | rfl | rfl | rfl | rfl | rfl | rfl | rfl | rfl | rfl | rfl | rfl <;> rfl) (Nat.le_of_ble_eq_true rfl) (Nat.le_of_ble_eq_true rfl) dL_law_8 (fun q6 H hP hD hS => ?_)
  have hP : va_P (dC, dI) kcl ([(q5, .inr (3, [.ref q3, .ref q1, .ref q2, .long (cf_X3_firstState (1 : Int32) (1 : Int32) (1 : Int32) (0 : Int32) (0 : Int32) (0 : Int64))])), (q3, .inr (2, [.int (1 : Int32), .int (1 : Int32), .int (1 : Int32), .int (0 : Int32), .int (0 : Int32), .long (0 : Int64)])), (q1, .inr (0, [.ref q3])), (q2, .inr (1, [.ref q1, .ref qs, .ref qo, .ref qh, .int (0 : Int32), .ref qw, .int (0 : Int32)])), (qs, .inl (cyJ, 20000, .inr (.inl zL))), (qo, .inl (cyI, 20000, .inl z0)), (qh, .inl (cyI, 32768, .inl z0)), (qw, .inl (cyI, 40, .inl z0))] ++ [(q6, .inr (4, [.int 0, .int 0, .int 0, .int 0, .int 0, .int 0, .null, .null, .null, .null, .null, .null, .int 0, .int 0, .int 0, .long 0, .null, .null, .null, .null, .int 0, .null, .int 0, .int 0, .null]))]) H := hP
  have hD : va_D (fun q : Nat => s.heap.size ≤ q) ([(q5, .inr (3, [.ref q3, .ref q1, .ref q2, .long (cf_X3_firstState (1 : Int32) (1 : Int32) (1 : Int32) (0 : Int32) (0 : Int32) (0 : Int64))])), (q3, .inr (2, [.int (1 : Int32), .int (1 : Int32), .int (1 : Int32), .int (0 : Int32), .int (0 : Int32), .long (0 : Int64)])), (q1, .inr (0, [.ref q3])), (q2, .inr (1, [.ref q1, .ref qs, .ref qo, .ref qh, .int (0 : Int32), .ref qw, .int (0 : Int32)])), (qs, .inl (cyJ, 20000, .inr (.inl zL))), (qo, .inl (cyI, 20000, .inl z0)), (qh, .inl (cyI, 32768, .inl z0)), (qw, .inl (cyI, 40, .inl z0))] ++ [(q6, .inr (4, [.int 0, .int 0, .int 0, .int 0, .int 0, .int 0, .null, .null, .null, .null, .null, .null, .int 0, .int 0, .int 0, .long 0, .null, .null, .null, .null, .int 0, .null, .int 0, .int 0, .null]))]) := hD
  refine W.widen (k := 9) (n := 72851) (by omega) (by omega) ?_
  refine lv_dup hx hb dL_law_11 rfl ?_
  have hPc := hP.sub (ws' := [(q6, .inr (4, [.int 0, .int 0, .int 0, .int 0, .int 0, .int 0, .null, .null, .null, .null, .null, .null, .int 0, .int 0, .int 0, .long 0, .null, .null, .null, .null, .int 0, .null, .int 0, .int 0, .null]))]) [8] rfl
  have hDc := hD.sub (ws' := [(q6, .inr (4, [.int 0, .int 0, .int 0, .int 0, .int 0, .int 0, .null, .null, .null, .null, .null, .null, .int 0, .int 0, .int 0, .long 0, .null, .null, .null, .null, .int 0, .null, .int 0, .int 0, .null]))]) [8] (by decide) rfl
  have hFc := va_free (wc := [(q6, .inr (4, [.int 0, .int 0, .int 0, .int 0, .int 0, .int 0, .null, .null, .null, .null, .null, .null, .int 0, .int 0, .int 0, .long 0, .null, .null, .null, .null, .int 0, .null, .int 0, .int 0, .null]))]) hD hS hA [8] rfl
  refine va_callv (va_runI (As := []) (rest := [.ref q6]) ⟨hx, hb, hml, hown, hts⟩ (c_X6_init l dC dI q6 cyI cyJ cyZ H.size) (cwI 0 hts gL_law_X6_init rfl rfl rfl (h1 (.initialized RX6) (by decide +kernel)) (h3 (.methodLink RL 59 yX6_init) (by decide +kernel)) (h3 (.instanceMethod yX6_init) (by decide +kernel)) rfl (by decide +kernel) ⟨Nat.le_of_ble_eq_true rfl, Nat.le_of_ble_eq_true rfl⟩) ⟨cn_blind, fun U hU hW => ⟨rfl, by rw [hU], by rw [hU]; exact hPc, va_K.moved hW.alike hK, hDc.weaken (fun _ _ _ _ => trivial), hF.warm hW⟩⟩ rfl rfl hl.1 rfl (lv_room (Nat.le_of_ble_eq_true rfl)) dL_law_12 ⟨Nat.le_of_ble_eq_true rfl, Nat.le_of_ble_eq_true rfl⟩) hS (fun q _ h => hFc q h) hFc (fun u t H1 locs ht hvm _ hB hz1 hk1 hS => ?_)
  obtain ⟨qA, qB, qF, qR, qC, qL, qS, qO, qY, qH, qW, qM⟩ := u
  obtain ⟨hP1, hD1⟩ := hB
  rw [ht] at hP1
  obtain ⟨hP, hD⟩ := va_join (wr := [(q5, .inr (3, [.ref q3, .ref q1, .ref q2, .long (cf_X3_firstState (1 : Int32) (1 : Int32) (1 : Int32) (0 : Int32) (0 : Int32) (0 : Int64))])), (q3, .inr (2, [.int (1 : Int32), .int (1 : Int32), .int (1 : Int32), .int (0 : Int32), .int (0 : Int32), .long (0 : Int64)])), (q1, .inr (0, [.ref q3])), (q2, .inr (1, [.ref q1, .ref qs, .ref qo, .ref qh, .int (0 : Int32), .ref qw, .int (0 : Int32)])), (qs, .inl (cyJ, 20000, .inr (.inl zL))), (qo, .inl (cyI, 20000, .inl z0)), (qh, .inl (cyI, 32768, .inl z0)), (qw, .inl (cyI, 40, .inl z0))]) (w1 := cw_X6_init q6 cyI cyJ cyZ (qA, qB, qF, qR, qC, qL, qS, qO, qY, qH, qW, qM)) hP hD [8] [0, 1, 2, 3, 4, 5, 6, 7] rfl rfl (by decide) (by decide) hk1 hFc hP1 hD1
  generalize H1 = H at hP hS ⊢
  refine W.widen (k := 21) (n := 218421) (by omega) (by omega) ?_
  refine lv_astore_n (lv' := [(2, .ref q6), (1, .ref q5), (0, .ref b)]) hx hb dL_law_15 rfl hl (by decide) rfl (fun ls hl => ?_)
  refine lv_iconst (v := (1 : Int32)) hx hb dL_law_16 (by decide +kernel) ?_
  refine ca_newa (atype := .long) (ty := .long) (cA := cyJ) (N' := 1) (a0 := (1, .inr (.inl zL))) hx hb (h1 (.arrayClass .long) (by decide +kernel)) rfl fJ hP hD hS hA (ca_J (fun _ _ => rfl)) (by decide +kernel) (by decide +kernel) (by decide +kernel) (Nat.le_of_ble_eq_true rfl) (Nat.le_of_ble_eq_true rfl) dL_law_17 (fun qx H hP hD hS => ?_)
  refine W.widen (k := 22) (n := 218422) (by omega) (by omega) ?_
  refine lv_astore_n (lv' := [(3, .ref qx), (2, .ref q6), (1, .ref q5), (0, .ref b)]) hx hb dL_law_19 rfl hl (by decide) rfl (fun ls hl => ?_)
  refine lv_iconst (v := (0 : Int32)) hx hb dL_law_20 (by decide +kernel) ?_
  refine lv_istore (lv' := [(4, .int (0 : Int32)), (3, .ref qx), (2, .ref q6), (1, .ref q5), (0, .ref b)]) hx hb dL_law_21 hl (by decide) rfl (fun ls hl => ?_)
  have hLP := st_LP (hP.sub [21, 0, 3, 2, 1, 4, 5, 6, 7, 8, 9, 10, 11, 12, 13, 14, 15, 16, 17, 18, 19, 20] rfl) (hD.sub [21, 0, 3, 2, 1, 4, 5, 6, 7, 8, 9, 10, 11, 12, 13, 14, 15, 16, 17, 18, 19, 20] (by decide) rfl) hS
  refine ll_loop (fu := 66001) (N := L) (b0 := b) (xs := xs) (by omega) hL ⟨hx, hb, hml, hown, hts, hX, hbl, hbA, hA, hK, hZ, hl0, Nat.le_of_ble_eq_true rfl, Nat.le_of_ble_eq_true rfl, Nat.le_of_ble_eq_true rfl, Nat.le_of_ble_eq_true rfl⟩ (fun H locs ls cells slots hc1 hc2 hS => ?_) 512 0 H locs ls 22 218422 (by omega) (by omega) (by omega) (by omega) hLP (lv_sub hl [4, 3, 2, 1, 0] rfl)
  refine lv_iconst (v := (1 : Int32)) hx hb dL_law_806 (by decide +kernel) ?_
  refine va_forget (fun q hq => hS.2.2 q hq) ?_
  refine W.widen (k := 601024) (n := 7293034) hc1 hc2 ?_
  exact lw_ret hx hb0 hr hlocks dL_law_807

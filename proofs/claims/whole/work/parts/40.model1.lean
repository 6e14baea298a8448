def cf_X6_thrown (m_th : Int32)  : Int32 :=
  m_th
set_option maxHeartbeats 4000000 in
set_option maxRecDepth 100000 in
theorem c_X6_thrown (l : Launch) (dC : Nat → ClassId) (dI : Nat → Nat → Nat) (q6 qA qB qF qR qC qL qS qO qY qH qW qM : Nat) (cyI cyJ cyZ : ClassId) (m_th : Int32) (m_o : Int32) (m_f : Int32) (m_r : Int32) (m_b : Int32) (m_a : Int32) (u_F : Nat → Int32) (u_R : Nat → Int32) (g_F : Nat → Int32) (g_R : Nat → Int32) (g_C : Nat → Int32) (g_L : Nat → Int32) (m_rl : Int32) (m_lf : Int32) (m_ov : Int32) (m_pl : Int64) (g_S : Nat → Int64) (g_O : Nat → Int32) (g_Y : Nat → Int32) (g_H : Nat → Int32) (m_st : Int32) (g_W : Nat → Int32) (m_rm : Int32) (m_fs : Int32) (g_M : Nat → Int32)    : Met l yX6_thrown wsX6_thrown ({ frames := 0, cells := 0, slots := 0, locals := 0 }) (rd_P [.ref q6] (dC, dI) kcl (mo_W q6 qA qB qF qR qC qL qS qO qY qH qW qM cyI cyJ cyZ m_th m_o m_f m_r m_b m_a u_F u_R g_F g_R g_C g_L m_rl m_lf m_ov m_pl g_S g_O g_Y g_H m_st g_W m_rm m_fs g_M) [(cyI, .int), (cyJ, .long), (cyZ, .boolean)]) (rd_Q (some (.int (cf_X6_thrown m_th )))) 0 0 (fun _ => False) := by
  refine Met.ofW (cc := cX6_thrown) (maxL := 1) (ret := (some .int)) (by decide) rfl ?_
  intro p e s m args below meth c s₁ B hml hv
  obtain ⟨rfl, hP, hK⟩ := hv
  have hx := B.exec
  have hb := B.bytes
  have hr := B.returns
  have hts := atoms_spec (ws := wsX6_thrown) B.pre
  have hown : s.vm.findClass RX6 = some m.cls := findClass_of_methodNamed B.named
  have hlocks := B.notSynchronized
  have hP : va_P (dC, dI) kcl (mo_W q6 qA qB qF qR qC qL qS qO qY qH qW qM cyI cyJ cyZ m_th m_o m_f m_r m_b m_a u_F u_R g_F g_R g_C g_L m_rl m_lf m_ov m_pl g_S g_O g_Y g_H m_st g_W m_rm m_fs g_M) s.heap := hP
  have h0_ : (Cond.fieldLink RX6 1 "ColourTrierModel" "thrown" "I").before _ s = true := hts _ (by decide +kernel)
  have h1_ : ∀ w ∈ u_ws RX6 TX6 25, w ∈ wsX6_thrown := fun w h => List.mem_cons_of_mem _ (List.mem_append_right _ h)
  generalize hR : (cf_X6_thrown m_th ) = R
  have hl := lv_entry ([.ref q6]) (n := 1) (Nat.le_of_ble_eq_true rfl)
  rw [lg_entry_eq]
  generalize (lg_sl ([.ref q6]) ++ List.replicate (1 - (lg_sl ([.ref q6])).length) Slot.unset).toArray = ls at hl ⊢
  have hl : lv_has ls 1 [(0, .ref q6)] := hl
  unfold cf_X6_thrown at hR
  refine lv_aload_n hx hb dX6_thrown_0 rfl (lv_at hl 0 rfl) ?_
  refine va_get (D := (dC, dI)) (ci := 4) (v := .int m_th) (C := RX6) (T := TX6) (N := 25) hx hb hts h1_ hown hK hP 0 rfl rfl 0 (by decide) h0_ (fun _ h9 => h9) rfl dX6_thrown_1 ?_
  exact W.iret (v := m_th) hx hb hr (fun t ht _ => ⟨congrArg (fun z => Outcome.returned (some (Value.int z))) hR, ht⟩) t_nil dX6_thrown_4
def cf_X6_fails (m_th : Int32) (a0 : Int32) : Int32 × Int32 :=
  (if a0 = 0 then (a0, (0 : Int32)) else (a0, (1 : Int32)))
set_option maxHeartbeats 4000000 in
set_option maxRecDepth 100000 in
theorem c_X6_fails (l : Launch) (dC : Nat → ClassId) (dI : Nat → Nat → Nat) (q6 qA qB qF qR qC qL qS qO qY qH qW qM : Nat) (cyI cyJ cyZ : ClassId) (m_th : Int32) (m_o : Int32) (m_f : Int32) (m_r : Int32) (m_b : Int32) (m_a : Int32) (u_F : Nat → Int32) (u_R : Nat → Int32) (g_F : Nat → Int32) (g_R : Nat → Int32) (g_C : Nat → Int32) (g_L : Nat → Int32) (m_rl : Int32) (m_lf : Int32) (m_ov : Int32) (m_pl : Int64) (g_S : Nat → Int64) (g_O : Nat → Int32) (g_Y : Nat → Int32) (g_H : Nat → Int32) (m_st : Int32) (g_W : Nat → Int32) (m_rm : Int32) (m_fs : Int32) (g_M : Nat → Int32) (sz : Nat) (a0 : Int32)   : Met l yX6_fails wsX6_fails ({ frames := 0, cells := 0, slots := 0, locals := 0 }) (mu_P [.ref q6, .int a0] sz (dC, dI) kcl (mo_W q6 qA qB qF qR qC qL qS qO qY qH qW qM cyI cyJ cyZ m_th m_o m_f m_r m_b m_a u_F u_R g_F g_R g_C g_L m_rl m_lf m_ov m_pl g_S g_O g_Y g_H m_st g_W m_rm m_fs g_M) [(cyI, .int), (cyJ, .long), (cyZ, .boolean)]) (mu_Q (some (.int ((cf_X6_fails m_th a0).2))) (dC, dI) kcl (mo_W q6 qA qB qF qR qC qL qS qO qY qH qW qM cyI cyJ cyZ ((cf_X6_fails m_th a0).1) m_o m_f m_r m_b m_a u_F u_R g_F g_R g_C g_L m_rl m_lf m_ov m_pl g_S g_O g_Y g_H m_st g_W m_rm m_fs g_M) (va_A (mo_W q6 qA qB qF qR qC qL qS qO qY qH qW qM cyI cyJ cyZ m_th m_o m_f m_r m_b m_a u_F u_R g_F g_R g_C g_L m_rl m_lf m_ov m_pl g_S g_O g_Y g_H m_st g_W m_rm m_fs g_M) sz)) 0 0 (va_A (mo_W q6 qA qB qF qR qC qL qS qO qY qH qW qM cyI cyJ cyZ m_th m_o m_f m_r m_b m_a u_F u_R g_F g_R g_C g_L m_rl m_lf m_ov m_pl g_S g_O g_Y g_H m_st g_W m_rm m_fs g_M) sz) := by
  refine Met.ofW (cc := cX6_fails) (maxL := 2) (ret := (some .boolean)) (by decide) rfl ?_
  intro p e s m args below meth c s₁ B hml hv
  obtain ⟨rfl, hsz, hP, hK, hD0⟩ := hv
  have hx := B.exec
  have hb := B.bytes
  have hr := B.returns
  have hts := atoms_spec (ws := wsX6_fails) B.pre
  have hown : s.vm.findClass RX6 = some m.cls := findClass_of_methodNamed B.named
  have hlocks := B.notSynchronized
  subst hsz
  have hD := hD0.self (sz := s.heap.size)
  generalize hAe : va_A (mo_W q6 qA qB qF qR qC qL qS qO qY qH qW qM cyI cyJ cyZ m_th m_o m_f m_r m_b m_a u_F u_R g_F g_R g_C g_L m_rl m_lf m_ov m_pl g_S g_O g_Y g_H m_st g_W m_rm m_fs g_M) s.heap.size = A at hD ⊢
  have hA : ∀ q : Nat, s.heap.size ≤ q → A q := fun q h => by rw [← hAe]; exact Or.inr h
  have hP : va_P (dC, dI) kcl (mo_W q6 qA qB qF qR qC qL qS qO qY qH qW qM cyI cyJ cyZ m_th m_o m_f m_r m_b m_a u_F u_R g_F g_R g_C g_L m_rl m_lf m_ov m_pl g_S g_O g_Y g_H m_st g_W m_rm m_fs g_M) s.heap := hP
  have h0_ : (Cond.fieldLink RX6 1 "ColourTrierModel" "thrown" "I").before _ s = true := hts _ (by decide +kernel)
  have h1_ : ∀ w ∈ u_ws RX6 TX6 25, w ∈ wsX6_fails := fun w h => List.mem_cons_of_mem _ (List.mem_append_right _ h)
  generalize hR : (cf_X6_fails m_th a0) = R
  have hl := lv_entry ([.ref q6, .int a0]) (n := 2) (Nat.le_of_ble_eq_true rfl)
  rw [lg_entry_eq]
  generalize (lg_sl ([.ref q6, .int a0]) ++ List.replicate (2 - (lg_sl ([.ref q6, .int a0])).length) Slot.unset).toArray = ls at hl ⊢
  have hl : lv_has ls 2 [(0, .ref q6), (1, .int a0)] := hl
  unfold cf_X6_fails at hR
  refine mu_start (A := A) (fun H locs hP hS => ?_) hP
  refine lv_aload_n hx hb dX6_fails_0 rfl (lv_at hl 0 rfl) ?_
  refine lv_iload_n hx hb dX6_fails_1 rfl (lv_at hl 1 rfl) ?_
  refine va_put (D := (dC, dI)) (ci := 4) (v := .int a0) (ty := .int) (C := RX6) (T := TX6) (N := 25) hx hb hts h1_ tyX6 tyX6_ok nmX6 hown hK hP hD hS 0 rfl rfl 0 (by decide) h0_ (fun _ h9 => h9) rfl (by decide +kernel) rfl rfl (Nat.le_of_ble_eq_true rfl) dX6_fails_2 (fun H locs hP hD hS => ?_)
  have hP : va_P (dC, dI) kcl (mo_W q6 qA qB qF qR qC qL qS qO qY qH qW qM cyI cyJ cyZ a0 m_o m_f m_r m_b m_a u_F u_R g_F g_R g_C g_L m_rl m_lf m_ov m_pl g_S g_O g_Y g_H m_st g_W m_rm m_fs g_M) H := hP
  have hD : va_D A (mo_W q6 qA qB qF qR qC qL qS qO qY qH qW qM cyI cyJ cyZ a0 m_o m_f m_r m_b m_a u_F u_R g_F g_R g_C g_L m_rl m_lf m_ov m_pl g_S g_O g_Y g_H m_st g_W m_rm m_fs g_M) := hD
  refine lv_iload_n hx hb dX6_fails_5 rfl (lv_at hl 1 rfl) ?_
  refine lv_if_eq (tgt := 13) hx hb dX6_fails_6 (by decide) (fun c_1 => ?_) (fun c_1 => ?_)
  · rw [if_pos c_1] at hR
    refine lv_iconst (v := (0 : Int32)) hx hb dX6_fails_13 (by decide +kernel) ?_
    rw [← hR]
    exact W.zret (ty := .boolean) (v := (0 : Int32)) hx hb hr (by decide +kernel) (fun t ht _ => ⟨rfl, by rw [ht]; exact hP, hS.F ht⟩) hS.2.2 dX6_fails_14
  · rw [if_neg c_1] at hR
    refine lv_iconst (v := (1 : Int32)) hx hb dX6_fails_9 (by decide +kernel) ?_
    refine lv_goto (tgt := 14) hx hb dX6_fails_10 (by decide) ?_
    rw [← hR]
    exact W.zret (ty := .boolean) (v := (1 : Int32)) hx hb hr (by decide +kernel) (fun t ht _ => ⟨rfl, by rw [ht]; exact hP, hS.F ht⟩) hS.2.2 dX6_fails_14
def cf_X6_bars (m_b : Int32) (a0 : Int32) : Int32 :=
  (if (m_b &&& a0) = 0 then (0 : Int32) else (1 : Int32))
set_option maxHeartbeats 4000000 in
set_option maxRecDepth 100000 in
theorem c_X6_bars (l : Launch) (dC : Nat → ClassId) (dI : Nat → Nat → Nat) (q6 qA qB qF qR qC qL qS qO qY qH qW qM : Nat) (cyI cyJ cyZ : ClassId) (m_th : Int32) (m_o : Int32) (m_f : Int32) (m_r : Int32) (m_b : Int32) (m_a : Int32) (u_F : Nat → Int32) (u_R : Nat → Int32) (g_F : Nat → Int32) (g_R : Nat → Int32) (g_C : Nat → Int32) (g_L : Nat → Int32) (m_rl : Int32) (m_lf : Int32) (m_ov : Int32) (m_pl : Int64) (g_S : Nat → Int64) (g_O : Nat → Int32) (g_Y : Nat → Int32) (g_H : Nat → Int32) (m_st : Int32) (g_W : Nat → Int32) (m_rm : Int32) (m_fs : Int32) (g_M : Nat → Int32) (a0 : Int32)   : Met l yX6_bars wsX6_bars ({ frames := 0, cells := 0, slots := 0, locals := 0 }) (rd_P [.ref q6, .int a0] (dC, dI) kcl (mo_W q6 qA qB qF qR qC qL qS qO qY qH qW qM cyI cyJ cyZ m_th m_o m_f m_r m_b m_a u_F u_R g_F g_R g_C g_L m_rl m_lf m_ov m_pl g_S g_O g_Y g_H m_st g_W m_rm m_fs g_M) [(cyI, .int), (cyJ, .long), (cyZ, .boolean)]) (rd_Q (some (.int (cf_X6_bars m_b a0)))) 0 0 (fun _ => False) := by
  refine Met.ofW (cc := cX6_bars) (maxL := 2) (ret := (some .boolean)) (by decide) rfl ?_
  intro p e s m args below meth c s₁ B hml hv
  obtain ⟨rfl, hP, hK⟩ := hv
  have hx := B.exec
  have hb := B.bytes
  have hr := B.returns
  have hts := atoms_spec (ws := wsX6_bars) B.pre
  have hown : s.vm.findClass RX6 = some m.cls := findClass_of_methodNamed B.named
  have hlocks := B.notSynchronized
  have hP : va_P (dC, dI) kcl (mo_W q6 qA qB qF qR qC qL qS qO qY qH qW qM cyI cyJ cyZ m_th m_o m_f m_r m_b m_a u_F u_R g_F g_R g_C g_L m_rl m_lf m_ov m_pl g_S g_O g_Y g_H m_st g_W m_rm m_fs g_M) s.heap := hP
  have h0_ : (Cond.fieldLink RX6 94 "ColourTrierModel" "barriers" "I").before _ s = true := hts _ (by decide +kernel)
  have h1_ : ∀ w ∈ u_ws RX6 TX6 25, w ∈ wsX6_bars := fun w h => List.mem_cons_of_mem _ (List.mem_append_right _ h)
  generalize hR : (cf_X6_bars m_b a0) = R
  have hl := lv_entry ([.ref q6, .int a0]) (n := 2) (Nat.le_of_ble_eq_true rfl)
  rw [lg_entry_eq]
  generalize (lg_sl ([.ref q6, .int a0]) ++ List.replicate (2 - (lg_sl ([.ref q6, .int a0])).length) Slot.unset).toArray = ls at hl ⊢
  have hl : lv_has ls 2 [(0, .ref q6), (1, .int a0)] := hl
  unfold cf_X6_bars at hR
  refine lv_aload_n hx hb dX6_bars_0 rfl (lv_at hl 0 rfl) ?_
  refine va_get (D := (dC, dI)) (ci := 4) (v := .int m_b) (C := RX6) (T := TX6) (N := 25) hx hb hts h1_ hown hK hP 0 rfl rfl 4 (by decide) h0_ (fun _ h9 => h9) rfl dX6_bars_1 ?_
  refine lv_iload_n hx hb dX6_bars_4 rfl (lv_at hl 1 rfl) ?_
  refine lv_iand hx hb dX6_bars_5 ?_
  refine lv_if_eq (tgt := 13) hx hb dX6_bars_6 (by decide) (fun c_1 => ?_) (fun c_1 => ?_)
  · rw [if_pos c_1] at hR
    refine lv_iconst (v := (0 : Int32)) hx hb dX6_bars_13 (by decide +kernel) ?_
    exact W.zret (ty := .boolean) (v := (0 : Int32)) hx hb hr (by decide +kernel) (fun t ht _ => ⟨congrArg (fun z => Outcome.returned (some (Value.int z))) hR, ht⟩) t_nil dX6_bars_14
  · rw [if_neg c_1] at hR
    refine lv_iconst (v := (1 : Int32)) hx hb dX6_bars_9 (by decide +kernel) ?_
    refine lv_goto (tgt := 14) hx hb dX6_bars_10 (by decide) ?_
    exact W.zret (ty := .boolean) (v := (1 : Int32)) hx hb hr (by decide +kernel) (fun t ht _ => ⟨congrArg (fun z => Outcome.returned (some (Value.int z))) hR, ht⟩) t_nil dX6_bars_14
def cf_X6_isRoot (m_r : Int32) (a0 : Int32) : Int32 :=
  (if m_r ≤ a0 then (0 : Int32) else (1 : Int32))
set_option maxHeartbeats 4000000 in
set_option maxRecDepth 100000 in
theorem c_X6_isRoot (l : Launch) (dC : Nat → ClassId) (dI : Nat → Nat → Nat) (q6 qA qB qF qR qC qL qS qO qY qH qW qM : Nat) (cyI cyJ cyZ : ClassId) (m_th : Int32) (m_o : Int32) (m_f : Int32) (m_r : Int32) (m_b : Int32) (m_a : Int32) (u_F : Nat → Int32) (u_R : Nat → Int32) (g_F : Nat → Int32) (g_R : Nat → Int32) (g_C : Nat → Int32) (g_L : Nat → Int32) (m_rl : Int32) (m_lf : Int32) (m_ov : Int32) (m_pl : Int64) (g_S : Nat → Int64) (g_O : Nat → Int32) (g_Y : Nat → Int32) (g_H : Nat → Int32) (m_st : Int32) (g_W : Nat → Int32) (m_rm : Int32) (m_fs : Int32) (g_M : Nat → Int32) (a0 : Int32)   : Met l yX6_isRoot wsX6_isRoot ({ frames := 0, cells := 0, slots := 0, locals := 0 }) (rd_P [.ref q6, .int a0] (dC, dI) kcl (mo_W q6 qA qB qF qR qC qL qS qO qY qH qW qM cyI cyJ cyZ m_th m_o m_f m_r m_b m_a u_F u_R g_F g_R g_C g_L m_rl m_lf m_ov m_pl g_S g_O g_Y g_H m_st g_W m_rm m_fs g_M) [(cyI, .int), (cyJ, .long), (cyZ, .boolean)]) (rd_Q (some (.int (cf_X6_isRoot m_r a0)))) 0 0 (fun _ => False) := by
  refine Met.ofW (cc := cX6_isRoot) (maxL := 2) (ret := (some .boolean)) (by decide) rfl ?_
  intro p e s m args below meth c s₁ B hml hv
  obtain ⟨rfl, hP, hK⟩ := hv
  have hx := B.exec
  have hb := B.bytes
  have hr := B.returns
  have hts := atoms_spec (ws := wsX6_isRoot) B.pre
  have hown : s.vm.findClass RX6 = some m.cls := findClass_of_methodNamed B.named
  have hlocks := B.notSynchronized
  have hP : va_P (dC, dI) kcl (mo_W q6 qA qB qF qR qC qL qS qO qY qH qW qM cyI cyJ cyZ m_th m_o m_f m_r m_b m_a u_F u_R g_F g_R g_C g_L m_rl m_lf m_ov m_pl g_S g_O g_Y g_H m_st g_W m_rm m_fs g_M) s.heap := hP
  have h0_ : (Cond.fieldLink RX6 19 "ColourTrierModel" "roots" "I").before _ s = true := hts _ (by decide +kernel)
  have h1_ : ∀ w ∈ u_ws RX6 TX6 25, w ∈ wsX6_isRoot := fun w h => List.mem_cons_of_mem _ (List.mem_append_right _ h)
  generalize hR : (cf_X6_isRoot m_r a0) = R
  have hl := lv_entry ([.ref q6, .int a0]) (n := 2) (Nat.le_of_ble_eq_true rfl)
  rw [lg_entry_eq]
  generalize (lg_sl ([.ref q6, .int a0]) ++ List.replicate (2 - (lg_sl ([.ref q6, .int a0])).length) Slot.unset).toArray = ls at hl ⊢
  have hl : lv_has ls 2 [(0, .ref q6), (1, .int a0)] := hl
  unfold cf_X6_isRoot at hR
  refine lv_iload_n hx hb dX6_isRoot_0 rfl (lv_at hl 1 rfl) ?_
  refine lv_aload_n hx hb dX6_isRoot_1 rfl (lv_at hl 0 rfl) ?_
  refine va_get (D := (dC, dI)) (ci := 4) (v := .int m_r) (C := RX6) (T := TX6) (N := 25) hx hb hts h1_ hown hK hP 0 rfl rfl 3 (by decide) h0_ (fun _ h9 => h9) rfl dX6_isRoot_2 ?_
  refine lv_icmp_ge (tgt := 12) hx hb dX6_isRoot_5 (by decide) (fun c_1 => ?_) (fun c_1 => ?_)
  · rw [if_pos c_1] at hR
    refine lv_iconst (v := (0 : Int32)) hx hb dX6_isRoot_12 (by decide +kernel) ?_
    exact W.zret (ty := .boolean) (v := (0 : Int32)) hx hb hr (by decide +kernel) (fun t ht _ => ⟨congrArg (fun z => Outcome.returned (some (Value.int z))) hR, ht⟩) t_nil dX6_isRoot_13
  · rw [if_neg c_1] at hR
    refine lv_iconst (v := (1 : Int32)) hx hb dX6_isRoot_8 (by decide +kernel) ?_
    refine lv_goto (tgt := 13) hx hb dX6_isRoot_9 (by decide) ?_
    exact W.zret (ty := .boolean) (v := (1 : Int32)) hx hb hr (by decide +kernel) (fun t ht _ => ⟨congrArg (fun z => Outcome.returned (some (Value.int z))) hR, ht⟩) t_nil dX6_isRoot_13
def cf_X6_isThing_s17  (m_o : Int32)  : Int32 :=
  (0 : Int32)
def cf_X6_isThing (m_o : Int32) (a0 : Int32) : Int32 :=
  (if a0 < (-1 : Int32) then cf_X6_isThing_s17  m_o  else (if m_o ≤ a0 then cf_X6_isThing_s17  m_o  else (1 : Int32)))
set_option maxHeartbeats 4000000 in
set_option maxRecDepth 100000 in
theorem c_X6_isThing (l : Launch) (dC : Nat → ClassId) (dI : Nat → Nat → Nat) (q6 qA qB qF qR qC qL qS qO qY qH qW qM : Nat) (cyI cyJ cyZ : ClassId) (m_th : Int32) (m_o : Int32) (m_f : Int32) (m_r : Int32) (m_b : Int32) (m_a : Int32) (u_F : Nat → Int32) (u_R : Nat → Int32) (g_F : Nat → Int32) (g_R : Nat → Int32) (g_C : Nat → Int32) (g_L : Nat → Int32) (m_rl : Int32) (m_lf : Int32) (m_ov : Int32) (m_pl : Int64) (g_S : Nat → Int64) (g_O : Nat → Int32) (g_Y : Nat → Int32) (g_H : Nat → Int32) (m_st : Int32) (g_W : Nat → Int32) (m_rm : Int32) (m_fs : Int32) (g_M : Nat → Int32) (a0 : Int32)   : Met l yX6_isThing wsX6_isThing ({ frames := 0, cells := 0, slots := 0, locals := 0 }) (rd_P [.ref q6, .int a0] (dC, dI) kcl (mo_W q6 qA qB qF qR qC qL qS qO qY qH qW qM cyI cyJ cyZ m_th m_o m_f m_r m_b m_a u_F u_R g_F g_R g_C g_L m_rl m_lf m_ov m_pl g_S g_O g_Y g_H m_st g_W m_rm m_fs g_M) [(cyI, .int), (cyJ, .long), (cyZ, .boolean)]) (rd_Q (some (.int (cf_X6_isThing m_o a0)))) 0 0 (fun _ => False) := by
  refine Met.ofW (cc := cX6_isThing) (maxL := 2) (ret := (some .boolean)) (by decide) rfl ?_
  intro p e s m args below meth c s₁ B hml hv
  obtain ⟨rfl, hP, hK⟩ := hv
  have hx := B.exec
  have hb := B.bytes
  have hr := B.returns
  have hts := atoms_spec (ws := wsX6_isThing) B.pre
  have hown : s.vm.findClass RX6 = some m.cls := findClass_of_methodNamed B.named
  have hlocks := B.notSynchronized
  have hP : va_P (dC, dI) kcl (mo_W q6 qA qB qF qR qC qL qS qO qY qH qW qM cyI cyJ cyZ m_th m_o m_f m_r m_b m_a u_F u_R g_F g_R g_C g_L m_rl m_lf m_ov m_pl g_S g_O g_Y g_H m_st g_W m_rm m_fs g_M) s.heap := hP
  have h0_ : (Cond.fieldLink RX6 13 "ColourTrierModel" "objects" "I").before _ s = true := hts _ (by decide +kernel)
  have h1_ : ∀ w ∈ u_ws RX6 TX6 25, w ∈ wsX6_isThing := fun w h => List.mem_cons_of_mem _ (List.mem_append_right _ h)
  generalize hR : (cf_X6_isThing m_o a0) = R
  have Ks17 : ∀   (ls : Array Slot), lv_has ls 2 [] → cf_X6_isThing_s17  m_o  = R → W p l e (headSpec wsX6_isThing ({ frames := 0, cells := 0, slots := 0, locals := 0 })).room s m ([.ref q6, .int a0] : List Value).toArray below meth c s.heap [] 0 0 (MQ below (rd_Q (some (.int R))) ([.ref q6, .int a0] : List Value).toArray s 0 0 (fun _ => False)) (F0 m 17 ls []) := by
    intro   ls hl hR
    unfold cf_X6_isThing_s17 at hR
    refine lv_iconst (v := (0 : Int32)) hx hb dX6_isThing_17 (by decide +kernel) ?_
    exact W.zret (ty := .boolean) (v := (0 : Int32)) hx hb hr (by decide +kernel) (fun t ht _ => ⟨congrArg (fun z => Outcome.returned (some (Value.int z))) hR, ht⟩) t_nil dX6_isThing_18
  have hl := lv_entry ([.ref q6, .int a0]) (n := 2) (Nat.le_of_ble_eq_true rfl)
  rw [lg_entry_eq]
  generalize (lg_sl ([.ref q6, .int a0]) ++ List.replicate (2 - (lg_sl ([.ref q6, .int a0])).length) Slot.unset).toArray = ls at hl ⊢
  have hl : lv_has ls 2 [(0, .ref q6), (1, .int a0)] := hl
  unfold cf_X6_isThing at hR
  refine lv_iload_n hx hb dX6_isThing_0 rfl (lv_at hl 1 rfl) ?_
  refine lv_iconst (v := (-1 : Int32)) hx hb dX6_isThing_1 (by decide +kernel) ?_
  refine lv_icmp_lt (tgt := 17) hx hb dX6_isThing_2 (by decide) (fun c_1 => ?_) (fun c_1 => ?_)
  · rw [if_pos c_1] at hR
    exact Ks17   ls (lv_sub hl [] rfl) hR
  · rw [if_neg c_1] at hR
    refine lv_iload_n hx hb dX6_isThing_5 rfl (lv_at hl 1 rfl) ?_
    refine lv_aload_n hx hb dX6_isThing_6 rfl (lv_at hl 0 rfl) ?_
    refine va_get (D := (dC, dI)) (ci := 4) (v := .int m_o) (C := RX6) (T := TX6) (N := 25) hx hb hts h1_ hown hK hP 0 rfl rfl 1 (by decide) h0_ (fun _ h9 => h9) rfl dX6_isThing_7 ?_
    refine lv_icmp_ge (tgt := 17) hx hb dX6_isThing_10 (by decide) (fun c_2 => ?_) (fun c_2 => ?_)
    · rw [if_pos c_2] at hR
      exact Ks17   ls (lv_sub hl [] rfl) hR
    · rw [if_neg c_2] at hR
      refine lv_iconst (v := (1 : Int32)) hx hb dX6_isThing_13 (by decide +kernel) ?_
      refine lv_goto (tgt := 18) hx hb dX6_isThing_14 (by decide) ?_
      exact W.zret (ty := .boolean) (v := (1 : Int32)) hx hb hr (by decide +kernel) (fun t ht _ => ⟨congrArg (fun z => Outcome.returned (some (Value.int z))) hR, ht⟩) t_nil dX6_isThing_18
def cf_X6_leastGrey_s2_4  (m_o : Int32) (g_C : Nat → Int32)  : Int32 :=
  (-1 : Int32)
def cf_X6_leastGrey_s2_3  (m_o : Int32) (g_C : Nat → Int32)  : Int32 :=
  (if m_o ≤ (3 : Int32) then (-1 : Int32) else (if (g_C ((3 : Int32)).toNatClampNeg) = (1 : Int32) then (3 : Int32) else cf_X6_leastGrey_s2_4  m_o g_C ))
def cf_X6_leastGrey_s2_2  (m_o : Int32) (g_C : Nat → Int32)  : Int32 :=
  (if m_o ≤ (2 : Int32) then (-1 : Int32) else (if (g_C ((2 : Int32)).toNatClampNeg) = (1 : Int32) then (2 : Int32) else cf_X6_leastGrey_s2_3  m_o g_C ))
def cf_X6_leastGrey_s2_1  (m_o : Int32) (g_C : Nat → Int32)  : Int32 :=
  (if m_o ≤ (1 : Int32) then (-1 : Int32) else (if (g_C ((1 : Int32)).toNatClampNeg) = (1 : Int32) then (1 : Int32) else cf_X6_leastGrey_s2_2  m_o g_C ))
def cf_X6_leastGrey_s2_0  (m_o : Int32) (g_C : Nat → Int32)  : Int32 :=
  (if m_o ≤ (0 : Int32) then (-1 : Int32) else (if (g_C ((0 : Int32)).toNatClampNeg) = (1 : Int32) then (0 : Int32) else cf_X6_leastGrey_s2_1  m_o g_C ))
def cf_X6_leastGrey (m_o : Int32) (g_C : Nat → Int32)  : Int32 :=
  cf_X6_leastGrey_s2_0  m_o g_C 
set_option maxHeartbeats 4000000 in
set_option maxRecDepth 100000 in
theorem c_X6_leastGrey (l : Launch) (dC : Nat → ClassId) (dI : Nat → Nat → Nat) (q6 qA qB qF qR qC qL qS qO qY qH qW qM : Nat) (cyI cyJ cyZ : ClassId) (m_th : Int32) (m_o : Int32) (m_f : Int32) (m_r : Int32) (m_b : Int32) (m_a : Int32) (u_F : Nat → Int32) (u_R : Nat → Int32) (g_F : Nat → Int32) (g_R : Nat → Int32) (g_C : Nat → Int32) (g_L : Nat → Int32) (m_rl : Int32) (m_lf : Int32) (m_ov : Int32) (m_pl : Int64) (g_S : Nat → Int64) (g_O : Nat → Int32) (g_Y : Nat → Int32) (g_H : Nat → Int32) (m_st : Int32) (g_W : Nat → Int32) (m_rm : Int32) (m_fs : Int32) (g_M : Nat → Int32)  (hm_o : m_o ≤ 4)  : Met l yX6_leastGrey wsX6_leastGrey ({ frames := 0, cells := 0, slots := 0, locals := 0 }) (rd_P [.ref q6] (dC, dI) kcl (mo_W q6 qA qB qF qR qC qL qS qO qY qH qW qM cyI cyJ cyZ m_th m_o m_f m_r m_b m_a u_F u_R g_F g_R g_C g_L m_rl m_lf m_ov m_pl g_S g_O g_Y g_H m_st g_W m_rm m_fs g_M) [(cyI, .int), (cyJ, .long), (cyZ, .boolean)]) (rd_Q (some (.int (cf_X6_leastGrey m_o g_C )))) 0 0 (fun _ => False) := by
  refine Met.ofW (cc := cX6_leastGrey) (maxL := 2) (ret := (some .int)) (by decide) rfl ?_
  intro p e s m args below meth c s₁ B hml hv
  obtain ⟨rfl, hP, hK⟩ := hv
  have hx := B.exec
  have hb := B.bytes
  have hr := B.returns
  have hts := atoms_spec (ws := wsX6_leastGrey) B.pre
  have hown : s.vm.findClass RX6 = some m.cls := findClass_of_methodNamed B.named
  have hlocks := B.notSynchronized
  have hP : va_P (dC, dI) kcl (mo_W q6 qA qB qF qR qC qL qS qO qY qH qW qM cyI cyJ cyZ m_th m_o m_f m_r m_b m_a u_F u_R g_F g_R g_C g_L m_rl m_lf m_ov m_pl g_S g_O g_Y g_H m_st g_W m_rm m_fs g_M) s.heap := hP
  have h0_ : (Cond.fieldLink RX6 13 "ColourTrierModel" "objects" "I").before _ s = true := hts _ (by decide +kernel)
  have h1_ : ∀ w ∈ u_ws RX6 TX6 25, w ∈ wsX6_leastGrey := fun w h => List.mem_cons_of_mem _ (List.mem_append_right _ h)
  have h2_ : (Cond.fieldLink RX6 35 "ColourTrierModel" "colour" "[I").before _ s = true := hts _ (by decide +kernel)
  generalize hR : (cf_X6_leastGrey m_o g_C ) = R
  have Ks2_4 : ∀   (ls : Array Slot), lv_has ls 2 [(0, .ref q6), (1, .int (4 : Int32))] → cf_X6_leastGrey_s2_4  m_o g_C  = R → W p l e (headSpec wsX6_leastGrey ({ frames := 0, cells := 0, slots := 0, locals := 0 })).room s m ([.ref q6] : List Value).toArray below meth c s.heap [] 0 0 (MQ below (rd_Q (some (.int R))) ([.ref q6] : List Value).toArray s 0 0 (fun _ => False)) (F0 m 2 ls []) := by
    intro   ls hl hR
    unfold cf_X6_leastGrey_s2_4 at hR
    refine lv_iload_n hx hb dX6_leastGrey_2 rfl (lv_at hl 1 rfl) ?_
    refine lv_aload_n hx hb dX6_leastGrey_3 rfl (lv_at hl 0 rfl) ?_
    refine va_get (D := (dC, dI)) (ci := 4) (v := .int m_o) (C := RX6) (T := TX6) (N := 25) hx hb hts h1_ hown hK hP 0 rfl rfl 1 (by decide) h0_ (fun _ h9 => h9) rfl dX6_leastGrey_4 ?_
    refine lv_icmp_ge (tgt := 28) hx hb dX6_leastGrey_7 (by decide) (fun _ => ?_) (fun c_0 => absurd hm_o c_0)
    refine lv_iconst (v := (-1 : Int32)) hx hb dX6_leastGrey_28 (by decide +kernel) ?_
    exact W.iret (v := (-1 : Int32)) hx hb hr (fun t ht _ => ⟨congrArg (fun z => Outcome.returned (some (Value.int z))) hR, ht⟩) t_nil dX6_leastGrey_29
  have Ks2_3 : ∀   (ls : Array Slot), lv_has ls 2 [(0, .ref q6), (1, .int (3 : Int32))] → cf_X6_leastGrey_s2_3  m_o g_C  = R → W p l e (headSpec wsX6_leastGrey ({ frames := 0, cells := 0, slots := 0, locals := 0 })).room s m ([.ref q6] : List Value).toArray below meth c s.heap [] 0 0 (MQ below (rd_Q (some (.int R))) ([.ref q6] : List Value).toArray s 0 0 (fun _ => False)) (F0 m 2 ls []) := by
    intro   ls hl hR
    unfold cf_X6_leastGrey_s2_3 at hR
    refine lv_iload_n hx hb dX6_leastGrey_2 rfl (lv_at hl 1 rfl) ?_
    refine lv_aload_n hx hb dX6_leastGrey_3 rfl (lv_at hl 0 rfl) ?_
    refine va_get (D := (dC, dI)) (ci := 4) (v := .int m_o) (C := RX6) (T := TX6) (N := 25) hx hb hts h1_ hown hK hP 0 rfl rfl 1 (by decide) h0_ (fun _ h9 => h9) rfl dX6_leastGrey_4 ?_
    refine lv_icmp_ge (tgt := 28) hx hb dX6_leastGrey_7 (by decide) (fun c_7 => ?_) (fun c_7 => ?_)
    · rw [if_pos c_7] at hR
      refine lv_iconst (v := (-1 : Int32)) hx hb dX6_leastGrey_28 (by decide +kernel) ?_
      exact W.iret (v := (-1 : Int32)) hx hb hr (fun t ht _ => ⟨congrArg (fun z => Outcome.returned (some (Value.int z))) hR, ht⟩) t_nil dX6_leastGrey_29
    · rw [if_neg c_7] at hR
      refine lv_aload_n hx hb dX6_leastGrey_10 rfl (lv_at hl 0 rfl) ?_
      refine va_get (D := (dC, dI)) (ci := 4) (v := .ref qC) (C := RX6) (T := TX6) (N := 25) hx hb hts h1_ hown hK hP 0 rfl rfl 10 (by decide) h2_ (fun _ h9 => h9) rfl dX6_leastGrey_11 ?_
      refine lv_iload_n hx hb dX6_leastGrey_14 rfl (lv_at hl 1 rfl) ?_
      refine va_iald hx hb hK hP 5 0 rfl rfl (by unfold vp_in; decide +kernel) dX6_leastGrey_15 ?_
      refine lv_iconst (v := (1 : Int32)) hx hb dX6_leastGrey_16 (by decide +kernel) ?_
      refine lv_icmp_ne (tgt := 22) hx hb dX6_leastGrey_17 (by decide) (fun c_8 => ?_) (fun c_8 => ?_)
      · rw [if_neg c_8] at hR
        refine lv_iinc (v := (4 : Int32)) (lv' := [(1, .int (4 : Int32)), (0, .ref q6)]) hx hb dX6_leastGrey_22 hl (k := 1) rfl (by decide +kernel) (by decide) rfl (fun ls hl => ?_)
        refine lv_goto (tgt := 2) hx hb dX6_leastGrey_25 (by decide) ?_
        exact Ks2_4   ls (lv_sub hl [1, 0] rfl) hR
      · rw [if_pos c_8] at hR
        refine lv_iload_n hx hb dX6_leastGrey_20 rfl (lv_at hl 1 rfl) ?_
        exact W.iret (v := (3 : Int32)) hx hb hr (fun t ht _ => ⟨congrArg (fun z => Outcome.returned (some (Value.int z))) hR, ht⟩) t_nil dX6_leastGrey_21
  have Ks2_2 : ∀   (ls : Array Slot), lv_has ls 2 [(0, .ref q6), (1, .int (2 : Int32))] → cf_X6_leastGrey_s2_2  m_o g_C  = R → W p l e (headSpec wsX6_leastGrey ({ frames := 0, cells := 0, slots := 0, locals := 0 })).room s m ([.ref q6] : List Value).toArray below meth c s.heap [] 0 0 (MQ below (rd_Q (some (.int R))) ([.ref q6] : List Value).toArray s 0 0 (fun _ => False)) (F0 m 2 ls []) := by
    intro   ls hl hR
    unfold cf_X6_leastGrey_s2_2 at hR
    refine lv_iload_n hx hb dX6_leastGrey_2 rfl (lv_at hl 1 rfl) ?_
    refine lv_aload_n hx hb dX6_leastGrey_3 rfl (lv_at hl 0 rfl) ?_
    refine va_get (D := (dC, dI)) (ci := 4) (v := .int m_o) (C := RX6) (T := TX6) (N := 25) hx hb hts h1_ hown hK hP 0 rfl rfl 1 (by decide) h0_ (fun _ h9 => h9) rfl dX6_leastGrey_4 ?_
    refine lv_icmp_ge (tgt := 28) hx hb dX6_leastGrey_7 (by decide) (fun c_5 => ?_) (fun c_5 => ?_)
    · rw [if_pos c_5] at hR
      refine lv_iconst (v := (-1 : Int32)) hx hb dX6_leastGrey_28 (by decide +kernel) ?_
      exact W.iret (v := (-1 : Int32)) hx hb hr (fun t ht _ => ⟨congrArg (fun z => Outcome.returned (some (Value.int z))) hR, ht⟩) t_nil dX6_leastGrey_29
    · rw [if_neg c_5] at hR
      refine lv_aload_n hx hb dX6_leastGrey_10 rfl (lv_at hl 0 rfl) ?_
      refine va_get (D := (dC, dI)) (ci := 4) (v := .ref qC) (C := RX6) (T := TX6) (N := 25) hx hb hts h1_ hown hK hP 0 rfl rfl 10 (by decide) h2_ (fun _ h9 => h9) rfl dX6_leastGrey_11 ?_
      refine lv_iload_n hx hb dX6_leastGrey_14 rfl (lv_at hl 1 rfl) ?_
      refine va_iald hx hb hK hP 5 0 rfl rfl (by unfold vp_in; decide +kernel) dX6_leastGrey_15 ?_
      refine lv_iconst (v := (1 : Int32)) hx hb dX6_leastGrey_16 (by decide +kernel) ?_
      refine lv_icmp_ne (tgt := 22) hx hb dX6_leastGrey_17 (by decide) (fun c_6 => ?_) (fun c_6 => ?_)
      · rw [if_neg c_6] at hR
        refine lv_iinc (v := (3 : Int32)) (lv' := [(1, .int (3 : Int32)), (0, .ref q6)]) hx hb dX6_leastGrey_22 hl (k := 1) rfl (by decide +kernel) (by decide) rfl (fun ls hl => ?_)
        refine lv_goto (tgt := 2) hx hb dX6_leastGrey_25 (by decide) ?_
        exact Ks2_3   ls (lv_sub hl [1, 0] rfl) hR
      · rw [if_pos c_6] at hR
        refine lv_iload_n hx hb dX6_leastGrey_20 rfl (lv_at hl 1 rfl) ?_
        exact W.iret (v := (2 : Int32)) hx hb hr (fun t ht _ => ⟨congrArg (fun z => Outcome.returned (some (Value.int z))) hR, ht⟩) t_nil dX6_leastGrey_21
  have Ks2_1 : ∀   (ls : Array Slot), lv_has ls 2 [(0, .ref q6), (1, .int (1 : Int32))] → cf_X6_leastGrey_s2_1  m_o g_C  = R → W p l e (headSpec wsX6_leastGrey ({ frames := 0, cells := 0, slots := 0, locals := 0 })).room s m ([.ref q6] : List Value).toArray below meth c s.heap [] 0 0 (MQ below (rd_Q (some (.int R))) ([.ref q6] : List Value).toArray s 0 0 (fun _ => False)) (F0 m 2 ls []) := by
    intro   ls hl hR
    unfold cf_X6_leastGrey_s2_1 at hR
    refine lv_iload_n hx hb dX6_leastGrey_2 rfl (lv_at hl 1 rfl) ?_
    refine lv_aload_n hx hb dX6_leastGrey_3 rfl (lv_at hl 0 rfl) ?_
    refine va_get (D := (dC, dI)) (ci := 4) (v := .int m_o) (C := RX6) (T := TX6) (N := 25) hx hb hts h1_ hown hK hP 0 rfl rfl 1 (by decide) h0_ (fun _ h9 => h9) rfl dX6_leastGrey_4 ?_
    refine lv_icmp_ge (tgt := 28) hx hb dX6_leastGrey_7 (by decide) (fun c_3 => ?_) (fun c_3 => ?_)
    · rw [if_pos c_3] at hR
      refine lv_iconst (v := (-1 : Int32)) hx hb dX6_leastGrey_28 (by decide +kernel) ?_
      exact W.iret (v := (-1 : Int32)) hx hb hr (fun t ht _ => ⟨congrArg (fun z => Outcome.returned (some (Value.int z))) hR, ht⟩) t_nil dX6_leastGrey_29
    · rw [if_neg c_3] at hR
      refine lv_aload_n hx hb dX6_leastGrey_10 rfl (lv_at hl 0 rfl) ?_
      refine va_get (D := (dC, dI)) (ci := 4) (v := .ref qC) (C := RX6) (T := TX6) (N := 25) hx hb hts h1_ hown hK hP 0 rfl rfl 10 (by decide) h2_ (fun _ h9 => h9) rfl dX6_leastGrey_11 ?_
      refine lv_iload_n hx hb dX6_leastGrey_14 rfl (lv_at hl 1 rfl) ?_
      refine va_iald hx hb hK hP 5 0 rfl rfl (by unfold vp_in; decide +kernel) dX6_leastGrey_15 ?_
      refine lv_iconst (v := (1 : Int32)) hx hb dX6_leastGrey_16 (by decide +kernel) ?_
      refine lv_icmp_ne (tgt := 22) hx hb dX6_leastGrey_17 (by decide) (fun c_4 => ?_) (fun c_4 => ?_)
      · rw [if_neg c_4] at hR
        refine lv_iinc (v := (2 : Int32)) (lv' := [(1, .int (2 : Int32)), (0, .ref q6)]) hx hb dX6_leastGrey_22 hl (k := 1) rfl (by decide +kernel) (by decide) rfl (fun ls hl => ?_)
        refine lv_goto (tgt := 2) hx hb dX6_leastGrey_25 (by decide) ?_
        exact Ks2_2   ls (lv_sub hl [1, 0] rfl) hR
      · rw [if_pos c_4] at hR
        refine lv_iload_n hx hb dX6_leastGrey_20 rfl (lv_at hl 1 rfl) ?_
        exact W.iret (v := (1 : Int32)) hx hb hr (fun t ht _ => ⟨congrArg (fun z => Outcome.returned (some (Value.int z))) hR, ht⟩) t_nil dX6_leastGrey_21
  have Ks2_0 : ∀   (ls : Array Slot), lv_has ls 2 [(0, .ref q6), (1, .int (0 : Int32))] → cf_X6_leastGrey_s2_0  m_o g_C  = R → W p l e (headSpec wsX6_leastGrey ({ frames := 0, cells := 0, slots := 0, locals := 0 })).room s m ([.ref q6] : List Value).toArray below meth c s.heap [] 0 0 (MQ below (rd_Q (some (.int R))) ([.ref q6] : List Value).toArray s 0 0 (fun _ => False)) (F0 m 2 ls []) := by
    intro   ls hl hR
    unfold cf_X6_leastGrey_s2_0 at hR
    refine lv_iload_n hx hb dX6_leastGrey_2 rfl (lv_at hl 1 rfl) ?_
    refine lv_aload_n hx hb dX6_leastGrey_3 rfl (lv_at hl 0 rfl) ?_
    refine va_get (D := (dC, dI)) (ci := 4) (v := .int m_o) (C := RX6) (T := TX6) (N := 25) hx hb hts h1_ hown hK hP 0 rfl rfl 1 (by decide) h0_ (fun _ h9 => h9) rfl dX6_leastGrey_4 ?_
    refine lv_icmp_ge (tgt := 28) hx hb dX6_leastGrey_7 (by decide) (fun c_1 => ?_) (fun c_1 => ?_)
    · rw [if_pos c_1] at hR
      refine lv_iconst (v := (-1 : Int32)) hx hb dX6_leastGrey_28 (by decide +kernel) ?_
      exact W.iret (v := (-1 : Int32)) hx hb hr (fun t ht _ => ⟨congrArg (fun z => Outcome.returned (some (Value.int z))) hR, ht⟩) t_nil dX6_leastGrey_29
    · rw [if_neg c_1] at hR
      refine lv_aload_n hx hb dX6_leastGrey_10 rfl (lv_at hl 0 rfl) ?_
      refine va_get (D := (dC, dI)) (ci := 4) (v := .ref qC) (C := RX6) (T := TX6) (N := 25) hx hb hts h1_ hown hK hP 0 rfl rfl 10 (by decide) h2_ (fun _ h9 => h9) rfl dX6_leastGrey_11 ?_
      refine lv_iload_n hx hb dX6_leastGrey_14 rfl (lv_at hl 1 rfl) ?_
      refine va_iald hx hb hK hP 5 0 rfl rfl (by unfold vp_in; decide +kernel) dX6_leastGrey_15 ?_
      refine lv_iconst (v := (1 : Int32)) hx hb dX6_leastGrey_16 (by decide +kernel) ?_
      refine lv_icmp_ne (tgt := 22) hx hb dX6_leastGrey_17 (by decide) (fun c_2 => ?_) (fun c_2 => ?_)
      · rw [if_neg c_2] at hR
        refine lv_iinc (v := (1 : Int32)) (lv' := [(1, .int (1 : Int32)), (0, .ref q6)]) hx hb dX6_leastGrey_22 hl (k := 1) rfl (by decide +kernel) (by decide) rfl (fun ls hl => ?_)
        refine lv_goto (tgt := 2) hx hb dX6_leastGrey_25 (by decide) ?_
        exact Ks2_1   ls (lv_sub hl [1, 0] rfl) hR
      · rw [if_pos c_2] at hR
        refine lv_iload_n hx hb dX6_leastGrey_20 rfl (lv_at hl 1 rfl) ?_
        exact W.iret (v := (0 : Int32)) hx hb hr (fun t ht _ => ⟨congrArg (fun z => Outcome.returned (some (Value.int z))) hR, ht⟩) t_nil dX6_leastGrey_21
  have hl := lv_entry ([.ref q6]) (n := 2) (Nat.le_of_ble_eq_true rfl)
  rw [lg_entry_eq]
  generalize (lg_sl ([.ref q6]) ++ List.replicate (2 - (lg_sl ([.ref q6])).length) Slot.unset).toArray = ls at hl ⊢
  have hl : lv_has ls 2 [(0, .ref q6)] := hl
  unfold cf_X6_leastGrey at hR
  refine lv_iconst (v := (0 : Int32)) hx hb dX6_leastGrey_0 (by decide +kernel) ?_
  refine lv_istore_n (lv' := [(1, .int (0 : Int32)), (0, .ref q6)]) hx hb dX6_leastGrey_1 rfl hl (by decide) rfl (fun ls hl => ?_)
  exact Ks2_0   ls (lv_sub hl [1, 0] rfl) hR
def cf_X6_toGrey (g_C : Nat → Int32) (g_L : Nat → Int32) (a0 : Int32) : (Nat → Int32) × (Nat → Int32) :=
  (if a0 < 0 then (g_C, g_L) else (if (g_C (a0).toNatClampNeg) = 0 then ((upd g_C (a0).toNatClampNeg (1 : Int32)), (upd g_L (a0).toNatClampNeg (0 : Int32))) else (g_C, g_L)))
def vc_X6_toGrey (g_C : Nat → Int32) (g_L : Nat → Int32) (a0 : Int32) : Prop :=
  ((a0 < 0 → True) ∧ (¬ a0 < 0 → (vp_in a0 4 ∧ (((g_C (a0).toNatClampNeg) = 0 → (vp_in a0 4 ∧ (vp_in a0 4 ∧ True))) ∧ (¬ (g_C (a0).toNatClampNeg) = 0 → True)))))
set_option maxHeartbeats 4000000 in
set_option maxRecDepth 100000 in
theorem c_X6_toGrey (l : Launch) (dC : Nat → ClassId) (dI : Nat → Nat → Nat) (q6 qA qB qF qR qC qL qS qO qY qH qW qM : Nat) (cyI cyJ cyZ : ClassId) (m_th : Int32) (m_o : Int32) (m_f : Int32) (m_r : Int32) (m_b : Int32) (m_a : Int32) (u_F : Nat → Int32) (u_R : Nat → Int32) (g_F : Nat → Int32) (g_R : Nat → Int32) (g_C : Nat → Int32) (g_L : Nat → Int32) (m_rl : Int32) (m_lf : Int32) (m_ov : Int32) (m_pl : Int64) (g_S : Nat → Int64) (g_O : Nat → Int32) (g_Y : Nat → Int32) (g_H : Nat → Int32) (m_st : Int32) (g_W : Nat → Int32) (m_rm : Int32) (m_fs : Int32) (g_M : Nat → Int32) (sz : Nat) (a0 : Int32)  (hV : vc_X6_toGrey g_C g_L a0) : Met l yX6_toGrey wsX6_toGrey ({ frames := 0, cells := 0, slots := 0, locals := 0 }) (mu_P [.ref q6, .int a0] sz (dC, dI) kcl (mo_W q6 qA qB qF qR qC qL qS qO qY qH qW qM cyI cyJ cyZ m_th m_o m_f m_r m_b m_a u_F u_R g_F g_R g_C g_L m_rl m_lf m_ov m_pl g_S g_O g_Y g_H m_st g_W m_rm m_fs g_M) [(cyI, .int), (cyJ, .long), (cyZ, .boolean)]) (mu_Q none (dC, dI) kcl (mo_W q6 qA qB qF qR qC qL qS qO qY qH qW qM cyI cyJ cyZ m_th m_o m_f m_r m_b m_a u_F u_R g_F g_R ((cf_X6_toGrey g_C g_L a0).1) ((cf_X6_toGrey g_C g_L a0).2) m_rl m_lf m_ov m_pl g_S g_O g_Y g_H m_st g_W m_rm m_fs g_M) (va_A (mo_W q6 qA qB qF qR qC qL qS qO qY qH qW qM cyI cyJ cyZ m_th m_o m_f m_r m_b m_a u_F u_R g_F g_R g_C g_L m_rl m_lf m_ov m_pl g_S g_O g_Y g_H m_st g_W m_rm m_fs g_M) sz)) 0 0 (va_A (mo_W q6 qA qB qF qR qC qL qS qO qY qH qW qM cyI cyJ cyZ m_th m_o m_f m_r m_b m_a u_F u_R g_F g_R g_C g_L m_rl m_lf m_ov m_pl g_S g_O g_Y g_H m_st g_W m_rm m_fs g_M) sz) := by
  refine Met.ofW (cc := cX6_toGrey) (maxL := 2) (ret := none) (by decide) rfl ?_
  intro p e s m args below meth c s₁ B hml hv
  obtain ⟨rfl, hsz, hP, hK, hD0⟩ := hv
  have hx := B.exec
  have hb := B.bytes
  have hr := B.returns
  have hts := atoms_spec (ws := wsX6_toGrey) B.pre
  have hown : s.vm.findClass RX6 = some m.cls := findClass_of_methodNamed B.named
  have hlocks := B.notSynchronized
  subst hsz
  have hD := hD0.self (sz := s.heap.size)
  generalize hAe : va_A (mo_W q6 qA qB qF qR qC qL qS qO qY qH qW qM cyI cyJ cyZ m_th m_o m_f m_r m_b m_a u_F u_R g_F g_R g_C g_L m_rl m_lf m_ov m_pl g_S g_O g_Y g_H m_st g_W m_rm m_fs g_M) s.heap.size = A at hD ⊢
  have hA : ∀ q : Nat, s.heap.size ≤ q → A q := fun q h => by rw [← hAe]; exact Or.inr h
  have hP : va_P (dC, dI) kcl (mo_W q6 qA qB qF qR qC qL qS qO qY qH qW qM cyI cyJ cyZ m_th m_o m_f m_r m_b m_a u_F u_R g_F g_R g_C g_L m_rl m_lf m_ov m_pl g_S g_O g_Y g_H m_st g_W m_rm m_fs g_M) s.heap := hP
  have h0_ : (Cond.fieldLink RX6 35 "ColourTrierModel" "colour" "[I").before _ s = true := hts _ (by decide +kernel)
  have h1_ : ∀ w ∈ u_ws RX6 TX6 25, w ∈ wsX6_toGrey := fun w h => List.mem_cons_of_mem _ (List.mem_append_right _ h)
  have h2_ : (Cond.fieldLink RX6 38 "ColourTrierModel" "looked" "[I").before _ s = true := hts _ (by decide +kernel)
  generalize hR : (cf_X6_toGrey g_C g_L a0) = R
  have hl := lv_entry ([.ref q6, .int a0]) (n := 2) (Nat.le_of_ble_eq_true rfl)
  rw [lg_entry_eq]
  generalize (lg_sl ([.ref q6, .int a0]) ++ List.replicate (2 - (lg_sl ([.ref q6, .int a0])).length) Slot.unset).toArray = ls at hl ⊢
  have hl : lv_has ls 2 [(0, .ref q6), (1, .int a0)] := hl
  unfold cf_X6_toGrey at hR
  unfold vc_X6_toGrey at hV
  refine mu_start (A := A) (fun H locs hP hS => ?_) hP
  refine lv_iload_n hx hb dX6_toGrey_0 rfl (lv_at hl 1 rfl) ?_
  refine lv_if_lt (tgt := 13) hx hb dX6_toGrey_1 (by decide) (fun c_1 => ?_) (fun c_1 => ?_)
  · rw [if_pos c_1] at hR
    rw [← hR]
    exact W.vret hx hb hr (fun t ht _ => ⟨rfl, by rw [ht]; exact hP, hS.F ht⟩) hS.2.2 dX6_toGrey_13
  · rw [if_neg c_1] at hR
    have hV := hV.2 c_1
    refine lv_aload_n hx hb dX6_toGrey_4 rfl (lv_at hl 0 rfl) ?_
    refine va_get (D := (dC, dI)) (ci := 4) (v := .ref qC) (C := RX6) (T := TX6) (N := 25) hx hb hts h1_ hown hK hP 0 rfl rfl 10 (by decide) h0_ (fun _ h9 => h9) rfl dX6_toGrey_5 ?_
    refine lv_iload_n hx hb dX6_toGrey_8 rfl (lv_at hl 1 rfl) ?_
    obtain ⟨hi2, hV⟩ := hV
    refine va_iald hx hb hK hP 5 0 rfl rfl hi2 dX6_toGrey_9 ?_
    refine lv_if_eq (tgt := 14) hx hb dX6_toGrey_10 (by decide) (fun c_3 => ?_) (fun c_3 => ?_)
    · rw [if_pos c_3] at hR
      have hV := hV.1 c_3
      refine lv_aload_n hx hb dX6_toGrey_14 rfl (lv_at hl 0 rfl) ?_
      refine va_get (D := (dC, dI)) (ci := 4) (v := .ref qC) (C := RX6) (T := TX6) (N := 25) hx hb hts h1_ hown hK hP 0 rfl rfl 10 (by decide) h0_ (fun _ h9 => h9) rfl dX6_toGrey_15 ?_
      refine lv_iload_n hx hb dX6_toGrey_18 rfl (lv_at hl 1 rfl) ?_
      refine lv_iconst (v := (1 : Int32)) hx hb dX6_toGrey_19 (by decide +kernel) ?_
      obtain ⟨hi4, hV⟩ := hV
      refine va_iast hx hb hK hP hD hS 5 0 rfl rfl hi4 dX6_toGrey_20 (fun H locs hP hD hS => ?_)
      have hP : va_P (dC, dI) kcl (mo_W q6 qA qB qF qR qC qL qS qO qY qH qW qM cyI cyJ cyZ m_th m_o m_f m_r m_b m_a u_F u_R g_F g_R (upd g_C (a0).toNatClampNeg (1 : Int32)) g_L m_rl m_lf m_ov m_pl g_S g_O g_Y g_H m_st g_W m_rm m_fs g_M) H := hP
      have hD : va_D A (mo_W q6 qA qB qF qR qC qL qS qO qY qH qW qM cyI cyJ cyZ m_th m_o m_f m_r m_b m_a u_F u_R g_F g_R (upd g_C (a0).toNatClampNeg (1 : Int32)) g_L m_rl m_lf m_ov m_pl g_S g_O g_Y g_H m_st g_W m_rm m_fs g_M) := hD
      refine lv_aload_n hx hb dX6_toGrey_21 rfl (lv_at hl 0 rfl) ?_
      refine va_get (D := (dC, dI)) (ci := 4) (v := .ref qL) (C := RX6) (T := TX6) (N := 25) hx hb hts h1_ hown hK hP 0 rfl rfl 11 (by decide) h2_ (fun _ h9 => h9) rfl dX6_toGrey_22 ?_
      refine lv_iload_n hx hb dX6_toGrey_25 rfl (lv_at hl 1 rfl) ?_
      refine lv_iconst (v := (0 : Int32)) hx hb dX6_toGrey_26 (by decide +kernel) ?_
      obtain ⟨hi5, hV⟩ := hV
      refine va_iast hx hb hK hP hD hS 6 0 rfl rfl hi5 dX6_toGrey_27 (fun H locs hP hD hS => ?_)
      have hP : va_P (dC, dI) kcl (mo_W q6 qA qB qF qR qC qL qS qO qY qH qW qM cyI cyJ cyZ m_th m_o m_f m_r m_b m_a u_F u_R g_F g_R (upd g_C (a0).toNatClampNeg (1 : Int32)) (upd g_L (a0).toNatClampNeg (0 : Int32)) m_rl m_lf m_ov m_pl g_S g_O g_Y g_H m_st g_W m_rm m_fs g_M) H := hP
      have hD : va_D A (mo_W q6 qA qB qF qR qC qL qS qO qY qH qW qM cyI cyJ cyZ m_th m_o m_f m_r m_b m_a u_F u_R g_F g_R (upd g_C (a0).toNatClampNeg (1 : Int32)) (upd g_L (a0).toNatClampNeg (0 : Int32)) m_rl m_lf m_ov m_pl g_S g_O g_Y g_H m_st g_W m_rm m_fs g_M) := hD
      rw [← hR]
      exact W.vret hx hb hr (fun t ht _ => ⟨rfl, by rw [ht]; exact hP, hS.F ht⟩) hS.2.2 dX6_toGrey_28
    · rw [if_neg c_3] at hR
      rw [← hR]
      exact W.vret hx hb hr (fun t ht _ => ⟨rfl, by rw [ht]; exact hP, hS.F ht⟩) hS.2.2 dX6_toGrey_13

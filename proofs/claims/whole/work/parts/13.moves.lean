def cf_X3_firstState (w_o w_f w_r w_b w_a : Int32) (w_l : Int64)  : Int64 :=
  (cf_X4_withActsLeft w_l w_a)
set_option maxHeartbeats 4000000 in
set_option maxRecDepth 100000 in
theorem c_X3_firstState (l : Launch) (dC : Nat → ClassId) (dI : Nat → Nat → Nat) (q3 : Nat) (w_o w_f w_r w_b w_a : Int32) (w_l : Int64)   : Met l yX3_firstState wsX3_firstState ({ frames := 1, cells := 0, slots := 0, locals := 22 }) (rd_P [.ref q3] (dC, dI) kcl [(q3, .inr (2, [.int w_o, .int w_f, .int w_r, .int w_b, .int w_a, .long w_l]))] []) (rd_Q (some (.long (cf_X3_firstState w_o w_f w_r w_b w_a w_l )))) 0 0 (fun _ => False) := by
  refine Met.ofW (cc := cX3_firstState) (maxL := 1) (ret := (some .long)) (by decide) rfl ?_
  intro p e s m args below meth c s₁ B hml hv
  obtain ⟨rfl, hP, hK⟩ := hv
  have hx := B.exec
  have hb := B.bytes
  have hr := B.returns
  have hts := atoms_spec (ws := wsX3_firstState) B.pre
  have hown : s.vm.findClass RX3 = some m.cls := findClass_of_methodNamed B.named
  have hlocks := B.notSynchronized
  have hP : va_P (dC, dI) kcl [(q3, .inr (2, [.int w_o, .int w_f, .int w_r, .int w_b, .int w_a, .long w_l]))] s.heap := hP
  have h0_ : (Cond.fieldLink RX3 25 "ColourTrier$Setup" "links" "J").before _ s = true := hts _ (by decide +kernel)
  have h1_ : ∀ w ∈ u_ws RX3 TX3 6, w ∈ wsX3_firstState := by decide +kernel
  have h2_ : (Cond.fieldLink RX3 22 "ColourTrier$Setup" "acts" "I").before _ s = true := hts _ (by decide +kernel)
  generalize hR : cf_X3_firstState w_o w_f w_r w_b w_a w_l  = R
  have hl := lv_entry ([.ref q3]) (n := 1) (Nat.le_of_ble_eq_true rfl)
  rw [lg_entry_eq]
  generalize (lg_sl ([.ref q3]) ++ List.replicate (1 - (lg_sl ([.ref q3])).length) Slot.unset).toArray = ls at hl ⊢
  have hl : lv_has ls 1 [(0, .ref q3)] := hl
  unfold cf_X3_firstState at hR
  refine lv_aload_n hx hb dX3_firstState_0 rfl (lv_at hl 0 rfl) ?_
  refine va_get (D := (dC, dI)) (ci := 2) (v := .long w_l) (C := RX3) (T := TX3) (N := 6) hx hb hts h1_ hown hK hP 0 rfl rfl 5 (by decide) h0_ (fun _ h9 => h9) rfl dX3_firstState_1 ?_
  refine lv_aload_n hx hb dX3_firstState_4 rfl (lv_at hl 0 rfl) ?_
  refine va_get (D := (dC, dI)) (ci := 2) (v := .int w_a) (C := RX3) (T := TX3) (N := 6) hx hb hts h1_ hown hK hP 0 rfl rfl 4 (by decide) h2_ (fun _ h9 => h9) rfl dX3_firstState_5 ?_
  refine rd_calll (va_runS (As := [.long w_l, .int w_a]) (rest := []) ⟨hx, hb, hml, hown, hts⟩ (c_X4_withActsLeft l w_l w_a) (va_cwS 2 hts gX3_firstState_X4_withActsLeft rfl rfl rfl (by decide +kernel) ⟨Nat.le_of_ble_eq_true rfl, Nat.le_of_ble_eq_true rfl⟩) ⟨pu_blind, fun U hU hW => rfl⟩ rfl rfl hl.1 rfl (lv_room (Nat.le_of_ble_eq_true rfl)) dX3_firstState_8 ⟨Nat.le_refl _, Nat.le_refl _⟩) ?_
  exact W.lret (v := (cf_X4_withActsLeft w_l w_a)) hx hb hr (fun t ht _ => ⟨congrArg (fun z => Outcome.returned (some (Value.long z))) hR, ht⟩) t_nil dX3_firstState_11
def cf_X3_hasBarrier (w_o w_f w_r w_b w_a : Int32) (w_l : Int64) (a0 : Int32) : Int32 :=
  (if (w_b &&& a0) = 0 then (0 : Int32) else (1 : Int32))
set_option maxHeartbeats 4000000 in
set_option maxRecDepth 100000 in
theorem c_X3_hasBarrier (l : Launch) (dC : Nat → ClassId) (dI : Nat → Nat → Nat) (q3 : Nat) (w_o w_f w_r w_b w_a : Int32) (w_l : Int64) (a0 : Int32)  : Met l yX3_hasBarrier wsX3_hasBarrier ({ frames := 0, cells := 0, slots := 0, locals := 0 }) (rd_P [.ref q3, .int a0] (dC, dI) kcl [(q3, .inr (2, [.int w_o, .int w_f, .int w_r, .int w_b, .int w_a, .long w_l]))] []) (rd_Q (some (.int (cf_X3_hasBarrier w_o w_f w_r w_b w_a w_l a0)))) 0 0 (fun _ => False) := by
  refine Met.ofW (cc := cX3_hasBarrier) (maxL := 2) (ret := (some .boolean)) (by decide) rfl ?_
  intro p e s m args below meth c s₁ B hml hv
  obtain ⟨rfl, hP, hK⟩ := hv
  have hx := B.exec
  have hb := B.bytes
  have hr := B.returns
  have hts := atoms_spec (ws := wsX3_hasBarrier) B.pre
  have hown : s.vm.findClass RX3 = some m.cls := findClass_of_methodNamed B.named
  have hlocks := B.notSynchronized
  have hP : va_P (dC, dI) kcl [(q3, .inr (2, [.int w_o, .int w_f, .int w_r, .int w_b, .int w_a, .long w_l]))] s.heap := hP
  have h0_ : (Cond.fieldLink RX3 19 "ColourTrier$Setup" "barriers" "I").before _ s = true := hts _ (by decide +kernel)
  have h1_ : ∀ w ∈ u_ws RX3 TX3 6, w ∈ wsX3_hasBarrier := by decide +kernel
  generalize hR : cf_X3_hasBarrier w_o w_f w_r w_b w_a w_l a0 = R
  have hl := lv_entry ([.ref q3, .int a0]) (n := 2) (Nat.le_of_ble_eq_true rfl)
  rw [lg_entry_eq]
  generalize (lg_sl ([.ref q3, .int a0]) ++ List.replicate (2 - (lg_sl ([.ref q3, .int a0])).length) Slot.unset).toArray = ls at hl ⊢
  have hl : lv_has ls 2 [(0, .ref q3), (1, .int a0)] := hl
  unfold cf_X3_hasBarrier at hR
  refine lv_aload_n hx hb dX3_hasBarrier_0 rfl (lv_at hl 0 rfl) ?_
  refine va_get (D := (dC, dI)) (ci := 2) (v := .int w_b) (C := RX3) (T := TX3) (N := 6) hx hb hts h1_ hown hK hP 0 rfl rfl 3 (by decide) h0_ (fun _ h9 => h9) rfl dX3_hasBarrier_1 ?_
  refine lv_iload_n hx hb dX3_hasBarrier_4 rfl (lv_at hl 1 rfl) ?_
  refine lv_iand hx hb dX3_hasBarrier_5 ?_
  refine lv_if_eq (tgt := 13) hx hb dX3_hasBarrier_6 (by decide) (fun c_1 => ?_) (fun c_1 => ?_)
  · rw [if_pos c_1] at hR
    refine lv_iconst (v := (0 : Int32)) hx hb dX3_hasBarrier_13 (by decide +kernel) ?_
    exact W.zret (ty := .boolean) (v := (0 : Int32)) hx hb hr (by decide +kernel) (fun t ht _ => ⟨congrArg (fun z => Outcome.returned (some (Value.int z))) hR, ht⟩) t_nil dX3_hasBarrier_14
  · rw [if_neg c_1] at hR
    refine lv_iconst (v := (1 : Int32)) hx hb dX3_hasBarrier_9 (by decide +kernel) ?_
    refine lv_goto (tgt := 14) hx hb dX3_hasBarrier_10 (by decide) ?_
    exact W.zret (ty := .boolean) (v := (1 : Int32)) hx hb hr (by decide +kernel) (fun t ht _ => ⟨congrArg (fun z => Outcome.returned (some (Value.int z))) hR, ht⟩) t_nil dX3_hasBarrier_14
def cf_X1_look (w_o w_f w_r w_b w_a : Int32) (w_l : Int64) (a0 : Int64) : Int64 :=
  (if w_r ≤ (cf_X4_rootsLookedAt a0) then (if (cf_X4_leastGrey a0) = (-1 : Int32) then (-1 : Int64) else (if w_f ≤ ((cf_X4_fieldsLookedAt a0 (cf_X4_leastGrey a0)) + (1 : Int32)) then (cf_X4_blackened (cf_X4_greyIfWhite a0 (cf_X4_inField a0 (cf_X4_leastGrey a0) (cf_X4_fieldsLookedAt a0 (cf_X4_leastGrey a0)))) (cf_X4_leastGrey a0)) else (cf_X4_withFirstFieldLookedAt (cf_X4_greyIfWhite a0 (cf_X4_inField a0 (cf_X4_leastGrey a0) (cf_X4_fieldsLookedAt a0 (cf_X4_leastGrey a0)))) (cf_X4_leastGrey a0)))) else (cf_X4_greyIfWhite (cf_X4_withOneMoreRootLookedAt a0) (cf_X4_inRoot a0 (cf_X4_rootsLookedAt a0))))
set_option maxHeartbeats 4000000 in
set_option maxRecDepth 100000 in
theorem c_X1_look (l : Launch) (dC : Nat → ClassId) (dI : Nat → Nat → Nat) (q1 q3 : Nat) (w_o w_f w_r w_b w_a : Int32) (w_l : Int64) (a0 : Int64)  : Met l yX1_look wsX1_look ({ frames := 2, cells := 0, slots := 0, locals := 44 }) (rd_P [.ref q1, .long a0] (dC, dI) kcl [(q1, .inr (0, [.ref q3])), (q3, .inr (2, [.int w_o, .int w_f, .int w_r, .int w_b, .int w_a, .long w_l]))] []) (rd_Q (some (.long (cf_X1_look w_o w_f w_r w_b w_a w_l a0)))) 0 0 (fun _ => False) := by
  refine Met.ofW (cc := cX1_look) (maxL := 8) (ret := (some .long)) (by decide) rfl ?_
  intro p e s m args below meth c s₁ B hml hv
  obtain ⟨rfl, hP, hK⟩ := hv
  have hx := B.exec
  have hb := B.bytes
  have hr := B.returns
  have hts := atoms_spec (ws := wsX1_look) B.pre
  have hown : s.vm.findClass RX1 = some m.cls := findClass_of_methodNamed B.named
  have hlocks := B.notSynchronized
  have hP : va_P (dC, dI) kcl [(q1, .inr (0, [.ref q3])), (q3, .inr (2, [.int w_o, .int w_f, .int w_r, .int w_b, .int w_a, .long w_l]))] s.heap := hP
  have h0_ : (Cond.fieldLink RX1 9 "ColourTrier$Moves" "setup" "LColourTrier$Setup;").before _ s = true := hts _ (by decide +kernel)
  have h1_ : ∀ w ∈ u_ws RX1 TX1 1, w ∈ wsX1_look := by decide +kernel
  have h2_ : (Cond.fieldLink RX1 61 "ColourTrier$Setup" "roots" "I").before _ s = true := hts _ (by decide +kernel)
  have h3_ : ∀ w ∈ u_ws RX3 TX3 6, w ∈ wsX1_look := by decide +kernel
  have h4_ : (Cond.fieldLink RX1 87 "ColourTrier$Setup" "fields" "I").before _ s = true := hts _ (by decide +kernel)
  have h5_ : (Cond.constantLong RX1 23 (-1)).before _ s = true := hts _ (by decide +kernel)
  generalize hR : cf_X1_look w_o w_f w_r w_b w_a w_l a0 = R
  have hl := lv_entry ([.ref q1, .long a0]) (n := 8) (Nat.le_of_ble_eq_true rfl)
  rw [lg_entry_eq]
  generalize (lg_sl ([.ref q1, .long a0]) ++ List.replicate (8 - (lg_sl ([.ref q1, .long a0])).length) Slot.unset).toArray = ls at hl ⊢
  have hl : lv_has ls 8 [(0, .ref q1), (1, .long a0)] := hl
  unfold cf_X1_look at hR
  refine lv_lload_n hx hb dX1_look_0 rfl (lv_at hl 1 rfl) ?_
  refine rd_calli (va_runS (As := [.long a0]) (rest := []) ⟨hx, hb, hml, hown, hts⟩ (c_X4_rootsLookedAt l a0) (va_cwS 1 hts gX1_look_X4_rootsLookedAt rfl rfl rfl (by decide +kernel) ⟨Nat.le_of_ble_eq_true rfl, Nat.le_of_ble_eq_true rfl⟩) ⟨pu_blind, fun U hU hW => rfl⟩ rfl rfl hl.1 rfl (lv_room (Nat.le_of_ble_eq_true rfl)) dX1_look_1 ⟨Nat.le_refl _, Nat.le_refl _⟩) ?_
  refine lv_istore_n (lv' := [(3, .int (cf_X4_rootsLookedAt a0)), (0, .ref q1), (1, .long a0)]) hx hb dX1_look_4 rfl hl (by decide) rfl (fun ls hl => ?_)
  refine lv_iload_n hx hb dX1_look_5 rfl (lv_at hl 0 rfl) ?_
  refine lv_aload_n hx hb dX1_look_6 rfl (lv_at hl 1 rfl) ?_
  refine va_get (D := (dC, dI)) (ci := 0) (v := .ref q3) (C := RX1) (T := TX1) (N := 1) hx hb hts h1_ hown hK hP 0 rfl rfl 0 (by decide) h0_ (fun _ h9 => h9) rfl dX1_look_7 ?_
  refine va_get (D := (dC, dI)) (ci := 2) (v := .int w_r) (C := RX3) (T := TX3) (N := 6) hx hb hts h3_ hown hK hP 1 rfl rfl 2 (by decide) h2_ (fun _ h9 => h9) rfl dX1_look_10 ?_
  refine lv_icmp_ge (tgt := 29) hx hb dX1_look_13 (by decide) (fun c_1 => ?_) (fun c_1 => ?_)
  · rw [if_pos c_1] at hR
    refine lv_lload_n hx hb dX1_look_29 rfl (lv_at hl 2 rfl) ?_
    refine rd_calli (va_runS (As := [.long a0]) (rest := []) ⟨hx, hb, hml, hown, hts⟩ (c_X4_leastGrey l a0) (va_cwS 1 hts gX1_look_X4_leastGrey rfl rfl rfl (by decide +kernel) ⟨Nat.le_of_ble_eq_true rfl, Nat.le_of_ble_eq_true rfl⟩) ⟨pu_blind, fun U hU hW => rfl⟩ rfl rfl hl.1 rfl (lv_room (Nat.le_of_ble_eq_true rfl)) dX1_look_30 ⟨Nat.le_refl _, Nat.le_refl _⟩) ?_
    refine lv_istore (lv' := [(4, .int (cf_X4_leastGrey a0)), (3, .int (cf_X4_rootsLookedAt a0)), (0, .ref q1), (1, .long a0)]) hx hb dX1_look_33 hl (by decide) rfl (fun ls hl => ?_)
    refine lv_iload hx hb dX1_look_35 (lv_at hl 0 rfl) ?_
    refine lv_iconst (v := (-1 : Int32)) hx hb dX1_look_37 (by decide +kernel) ?_
    refine lv_icmp_ne (tgt := 45) hx hb dX1_look_38 (by decide) (fun c_2 => ?_) (fun c_2 => ?_)
    · rw [if_neg c_2] at hR
      refine lv_lload_n hx hb dX1_look_45 rfl (lv_at hl 3 rfl) ?_
      refine lv_iload hx hb dX1_look_46 (lv_at hl 0 rfl) ?_
      refine rd_calli (va_runS (As := [.long a0, .int (cf_X4_leastGrey a0)]) (rest := []) ⟨hx, hb, hml, hown, hts⟩ (c_X4_fieldsLookedAt l a0 (cf_X4_leastGrey a0)) (va_cwS 2 hts gX1_look_X4_fieldsLookedAt rfl rfl rfl (by decide +kernel) ⟨Nat.le_of_ble_eq_true rfl, Nat.le_of_ble_eq_true rfl⟩) ⟨pu_blind, fun U hU hW => rfl⟩ rfl rfl hl.1 rfl (lv_room (Nat.le_of_ble_eq_true rfl)) dX1_look_48 ⟨Nat.le_refl _, Nat.le_refl _⟩) ?_
      refine lv_istore (lv' := [(5, .int (cf_X4_fieldsLookedAt a0 (cf_X4_leastGrey a0))), (4, .int (cf_X4_leastGrey a0)), (3, .int (cf_X4_rootsLookedAt a0)), (0, .ref q1), (1, .long a0)]) hx hb dX1_look_51 hl (by decide) rfl (fun ls hl => ?_)
      refine lv_lload_n hx hb dX1_look_53 rfl (lv_at hl 4 rfl) ?_
      refine lv_lload_n hx hb dX1_look_54 rfl (lv_at hl 4 rfl) ?_
      refine lv_iload hx hb dX1_look_55 (lv_at hl 1 rfl) ?_
      refine lv_iload hx hb dX1_look_57 (lv_at hl 0 rfl) ?_
      refine rd_calli (va_runS (As := [.long a0, .int (cf_X4_leastGrey a0), .int (cf_X4_fieldsLookedAt a0 (cf_X4_leastGrey a0))]) (rest := [.long a0]) ⟨hx, hb, hml, hown, hts⟩ (c_X4_inField l a0 (cf_X4_leastGrey a0) (cf_X4_fieldsLookedAt a0 (cf_X4_leastGrey a0))) (va_cwS 3 hts gX1_look_X4_inField rfl rfl rfl (by decide +kernel) ⟨Nat.le_of_ble_eq_true rfl, Nat.le_of_ble_eq_true rfl⟩) ⟨pu_blind, fun U hU hW => rfl⟩ rfl rfl hl.1 rfl (lv_room (Nat.le_of_ble_eq_true rfl)) dX1_look_59 ⟨Nat.le_refl _, Nat.le_refl _⟩) ?_
      refine rd_calll (va_runS (As := [.long a0, .int (cf_X4_inField a0 (cf_X4_leastGrey a0) (cf_X4_fieldsLookedAt a0 (cf_X4_leastGrey a0)))]) (rest := []) ⟨hx, hb, hml, hown, hts⟩ (c_X4_greyIfWhite l a0 (cf_X4_inField a0 (cf_X4_leastGrey a0) (cf_X4_fieldsLookedAt a0 (cf_X4_leastGrey a0)))) (va_cwS 2 hts gX1_look_X4_greyIfWhite rfl rfl rfl (by decide +kernel) ⟨Nat.le_of_ble_eq_true rfl, Nat.le_of_ble_eq_true rfl⟩) ⟨pu_blind, fun U hU hW => rfl⟩ rfl rfl hl.1 rfl (lv_room (Nat.le_of_ble_eq_true rfl)) dX1_look_62 ⟨Nat.le_refl _, Nat.le_refl _⟩) ?_
      refine lv_lstore (lv' := [(6, .long (cf_X4_greyIfWhite a0 (cf_X4_inField a0 (cf_X4_leastGrey a0) (cf_X4_fieldsLookedAt a0 (cf_X4_leastGrey a0))))), (5, .int (cf_X4_fieldsLookedAt a0 (cf_X4_leastGrey a0))), (4, .int (cf_X4_leastGrey a0)), (3, .int (cf_X4_rootsLookedAt a0)), (0, .ref q1), (1, .long a0)]) hx hb dX1_look_65 hl (by decide) rfl (fun ls hl => ?_)
      refine lv_iload hx hb dX1_look_67 (lv_at hl 1 rfl) ?_
      refine lv_iconst (v := (1 : Int32)) hx hb dX1_look_69 (by decide +kernel) ?_
      refine lv_iadd hx hb dX1_look_70 ?_
      refine lv_aload_n hx hb dX1_look_71 rfl (lv_at hl 4 rfl) ?_
      refine va_get (D := (dC, dI)) (ci := 0) (v := .ref q3) (C := RX1) (T := TX1) (N := 1) hx hb hts h1_ hown hK hP 0 rfl rfl 0 (by decide) h0_ (fun _ h9 => h9) rfl dX1_look_72 ?_
      refine va_get (D := (dC, dI)) (ci := 2) (v := .int w_f) (C := RX3) (T := TX3) (N := 6) hx hb hts h3_ hown hK hP 1 rfl rfl 1 (by decide) h4_ (fun _ h9 => h9) rfl dX1_look_75 ?_
      refine lv_icmp_ge (tgt := 89) hx hb dX1_look_78 (by decide) (fun c_3 => ?_) (fun c_3 => ?_)
      · rw [if_pos c_3] at hR
        refine lv_lload hx hb dX1_look_89 (lv_at hl 0 rfl) ?_
        refine lv_iload hx hb dX1_look_91 (lv_at hl 2 rfl) ?_
        refine rd_calll (va_runS (As := [.long (cf_X4_greyIfWhite a0 (cf_X4_inField a0 (cf_X4_leastGrey a0) (cf_X4_fieldsLookedAt a0 (cf_X4_leastGrey a0)))), .int (cf_X4_leastGrey a0)]) (rest := []) ⟨hx, hb, hml, hown, hts⟩ (c_X4_blackened l (cf_X4_greyIfWhite a0 (cf_X4_inField a0 (cf_X4_leastGrey a0) (cf_X4_fieldsLookedAt a0 (cf_X4_leastGrey a0)))) (cf_X4_leastGrey a0)) (va_cwS 2 hts gX1_look_X4_blackened rfl rfl rfl (by decide +kernel) ⟨Nat.le_of_ble_eq_true rfl, Nat.le_of_ble_eq_true rfl⟩) ⟨pu_blind, fun U hU hW => rfl⟩ rfl rfl hl.1 rfl (lv_room (Nat.le_of_ble_eq_true rfl)) dX1_look_93 ⟨Nat.le_refl _, Nat.le_refl _⟩) ?_
        exact W.lret (v := (cf_X4_blackened (cf_X4_greyIfWhite a0 (cf_X4_inField a0 (cf_X4_leastGrey a0) (cf_X4_fieldsLookedAt a0 (cf_X4_leastGrey a0)))) (cf_X4_leastGrey a0))) hx hb hr (fun t ht _ => ⟨congrArg (fun z => Outcome.returned (some (Value.long z))) hR, ht⟩) t_nil dX1_look_96
      · rw [if_neg c_3] at hR
        refine lv_lload hx hb dX1_look_81 (lv_at hl 0 rfl) ?_
        refine lv_iload hx hb dX1_look_83 (lv_at hl 2 rfl) ?_
        refine rd_calll (va_runS (As := [.long (cf_X4_greyIfWhite a0 (cf_X4_inField a0 (cf_X4_leastGrey a0) (cf_X4_fieldsLookedAt a0 (cf_X4_leastGrey a0)))), .int (cf_X4_leastGrey a0)]) (rest := []) ⟨hx, hb, hml, hown, hts⟩ (c_X4_withFirstFieldLookedAt l (cf_X4_greyIfWhite a0 (cf_X4_inField a0 (cf_X4_leastGrey a0) (cf_X4_fieldsLookedAt a0 (cf_X4_leastGrey a0)))) (cf_X4_leastGrey a0)) (va_cwS 2 hts gX1_look_X4_withFirstFieldLookedAt rfl rfl rfl (by decide +kernel) ⟨Nat.le_of_ble_eq_true rfl, Nat.le_of_ble_eq_true rfl⟩) ⟨pu_blind, fun U hU hW => rfl⟩ rfl rfl hl.1 rfl (lv_room (Nat.le_of_ble_eq_true rfl)) dX1_look_85 ⟨Nat.le_refl _, Nat.le_refl _⟩) ?_
        exact W.lret (v := (cf_X4_withFirstFieldLookedAt (cf_X4_greyIfWhite a0 (cf_X4_inField a0 (cf_X4_leastGrey a0) (cf_X4_fieldsLookedAt a0 (cf_X4_leastGrey a0)))) (cf_X4_leastGrey a0))) hx hb hr (fun t ht _ => ⟨congrArg (fun z => Outcome.returned (some (Value.long z))) hR, ht⟩) t_nil dX1_look_88
    · rw [if_pos c_2] at hR
      refine lv_ldc2 (v := (-1 : Int64)) hx hb hown h5_ dX1_look_41 ?_
      exact W.lret (v := (-1 : Int64)) hx hb hr (fun t ht _ => ⟨congrArg (fun z => Outcome.returned (some (Value.long z))) hR, ht⟩) t_nil dX1_look_44
  · rw [if_neg c_1] at hR
    refine lv_lload_n hx hb dX1_look_16 rfl (lv_at hl 2 rfl) ?_
    refine rd_calll (va_runS (As := [.long a0]) (rest := []) ⟨hx, hb, hml, hown, hts⟩ (c_X4_withOneMoreRootLookedAt l a0) (va_cwS 1 hts gX1_look_X4_withOneMoreRootLookedAt rfl rfl rfl (by decide +kernel) ⟨Nat.le_of_ble_eq_true rfl, Nat.le_of_ble_eq_true rfl⟩) ⟨pu_blind, fun U hU hW => rfl⟩ rfl rfl hl.1 rfl (lv_room (Nat.le_of_ble_eq_true rfl)) dX1_look_17 ⟨Nat.le_refl _, Nat.le_refl _⟩) ?_
    refine lv_lload_n hx hb dX1_look_20 rfl (lv_at hl 2 rfl) ?_
    refine lv_iload_n hx hb dX1_look_21 rfl (lv_at hl 0 rfl) ?_
    refine rd_calli (va_runS (As := [.long a0, .int (cf_X4_rootsLookedAt a0)]) (rest := [.long (cf_X4_withOneMoreRootLookedAt a0)]) ⟨hx, hb, hml, hown, hts⟩ (c_X4_inRoot l a0 (cf_X4_rootsLookedAt a0)) (va_cwS 2 hts gX1_look_X4_inRoot rfl rfl rfl (by decide +kernel) ⟨Nat.le_of_ble_eq_true rfl, Nat.le_of_ble_eq_true rfl⟩) ⟨pu_blind, fun U hU hW => rfl⟩ rfl rfl hl.1 rfl (lv_room (Nat.le_of_ble_eq_true rfl)) dX1_look_22 ⟨Nat.le_refl _, Nat.le_refl _⟩) ?_
    refine rd_calll (va_runS (As := [.long (cf_X4_withOneMoreRootLookedAt a0), .int (cf_X4_inRoot a0 (cf_X4_rootsLookedAt a0))]) (rest := []) ⟨hx, hb, hml, hown, hts⟩ (c_X4_greyIfWhite l (cf_X4_withOneMoreRootLookedAt a0) (cf_X4_inRoot a0 (cf_X4_rootsLookedAt a0))) (va_cwS 2 hts gX1_look_X4_greyIfWhite rfl rfl rfl (by decide +kernel) ⟨Nat.le_of_ble_eq_true rfl, Nat.le_of_ble_eq_true rfl⟩) ⟨pu_blind, fun U hU hW => rfl⟩ rfl rfl hl.1 rfl (lv_room (Nat.le_of_ble_eq_true rfl)) dX1_look_25 ⟨Nat.le_refl _, Nat.le_refl _⟩) ?_
    exact W.lret (v := (cf_X4_greyIfWhite (cf_X4_withOneMoreRootLookedAt a0) (cf_X4_inRoot a0 (cf_X4_rootsLookedAt a0)))) hx hb hr (fun t ht _ => ⟨congrArg (fun z => Outcome.returned (some (Value.long z))) hR, ht⟩) t_nil dX1_look_28
def cf_X1_rootGets_s48 (w_o w_f w_r w_b w_a : Int32) (w_l : Int64) (x3 : Int32) (x4 : Int32) (x5 : Int64) : Int64 :=
  (cf_X4_withRoot x5 x3 x4)
def cf_X1_rootGets_s27 (w_o w_f w_r w_b w_a : Int32) (w_l : Int64) (x3 : Int32) (x4 : Int32) (x5 : Int64) : Int64 :=
  (if (cf_X3_hasBarrier w_o w_f w_r w_b w_a w_l (16 : Int32)) = 0 then cf_X1_rootGets_s48 w_o w_f w_r w_b w_a w_l x3 x4 x5 else cf_X1_rootGets_s48 w_o w_f w_r w_b w_a w_l x3 x4 (cf_X4_greyIfWhite x5 x4))
def cf_X1_rootGets (w_o w_f w_r w_b w_a : Int32) (w_l : Int64) (a0 : Int64) (a1 : Int32) (a2 : Int32) : Int64 :=
  (if (cf_X3_hasBarrier w_o w_f w_r w_b w_a w_l (64 : Int32)) = 0 then cf_X1_rootGets_s27 w_o w_f w_r w_b w_a w_l a1 a2 a0 else cf_X1_rootGets_s27 w_o w_f w_r w_b w_a w_l a1 a2 (cf_X4_greyIfWhite a0 (cf_X4_inRoot a0 a1)))
set_option maxHeartbeats 4000000 in
set_option maxRecDepth 100000 in
theorem c_X1_rootGets (l : Launch) (dC : Nat → ClassId) (dI : Nat → Nat → Nat) (q1 q3 : Nat) (w_o w_f w_r w_b w_a : Int32) (w_l : Int64) (a0 : Int64) (a1 : Int32) (a2 : Int32)  : Met l yX1_rootGets wsX1_rootGets ({ frames := 2, cells := 0, slots := 0, locals := 44 }) (rd_P [.ref q1, .long a0, .int a1, .int a2] (dC, dI) kcl [(q1, .inr (0, [.ref q3])), (q3, .inr (2, [.int w_o, .int w_f, .int w_r, .int w_b, .int w_a, .long w_l]))] []) (rd_Q (some (.long (cf_X1_rootGets w_o w_f w_r w_b w_a w_l a0 a1 a2)))) 0 0 (fun _ => False) := by
  refine Met.ofW (cc := cX1_rootGets) (maxL := 7) (ret := (some .long)) (by decide) rfl ?_
  intro p e s m args below meth c s₁ B hml hv
  obtain ⟨rfl, hP, hK⟩ := hv
  have hx := B.exec
  have hb := B.bytes
  have hr := B.returns
  have hts := atoms_spec (ws := wsX1_rootGets) B.pre
  have hown : s.vm.findClass RX1 = some m.cls := findClass_of_methodNamed B.named
  have hlocks := B.notSynchronized
  have hP : va_P (dC, dI) kcl [(q1, .inr (0, [.ref q3])), (q3, .inr (2, [.int w_o, .int w_f, .int w_r, .int w_b, .int w_a, .long w_l]))] s.heap := hP
  have h0_ : (Cond.fieldLink RX1 9 "ColourTrier$Moves" "setup" "LColourTrier$Setup;").before _ s = true := hts _ (by decide +kernel)
  have h1_ : ∀ w ∈ u_ws RX1 TX1 1, w ∈ wsX1_rootGets := by decide +kernel
  generalize hR : cf_X1_rootGets w_o w_f w_r w_b w_a w_l a0 a1 a2 = R
  have K48 : ∀ (x3 : Int32) (x4 : Int32) (x5 : Int64) (ls : Array Slot), lv_has ls 7 [(3, .int x3), (4, .int x4), (5, .long x5)] → cf_X1_rootGets_s48 w_o w_f w_r w_b w_a w_l x3 x4 x5 = R → W p l e (headSpec wsX1_rootGets ({ frames := 2, cells := 0, slots := 0, locals := 44 })).room s m ([.ref q1, .long a0, .int a1, .int a2] : List Value).toArray below meth c s.heap [] 0 0 (MQ below (rd_Q (some (.long R))) ([.ref q1, .long a0, .int a1, .int a2] : List Value).toArray s 0 0 (fun _ => False)) (F0 m 48 ls []) := by
    intro x3 x4 x5 ls hl hR
    unfold cf_X1_rootGets_s48 at hR
    refine lv_lload hx hb dX1_rootGets_48 (lv_at hl 2 rfl) ?_
    refine lv_iload_n hx hb dX1_rootGets_50 rfl (lv_at hl 0 rfl) ?_
    refine lv_iload hx hb dX1_rootGets_51 (lv_at hl 1 rfl) ?_
    refine rd_calll (va_runS (As := [.long x5, .int x3, .int x4]) (rest := []) ⟨hx, hb, hml, hown, hts⟩ (c_X4_withRoot l x5 x3 x4) (va_cwS 3 hts gX1_rootGets_X4_withRoot rfl rfl rfl (by decide +kernel) ⟨Nat.le_of_ble_eq_true rfl, Nat.le_of_ble_eq_true rfl⟩) ⟨pu_blind, fun U hU hW => rfl⟩ rfl rfl hl.1 rfl (lv_room (Nat.le_of_ble_eq_true rfl)) dX1_rootGets_53 ⟨Nat.le_refl _, Nat.le_refl _⟩) ?_
    exact W.lret (v := (cf_X4_withRoot x5 x3 x4)) hx hb hr (fun t ht _ => ⟨congrArg (fun z => Outcome.returned (some (Value.long z))) hR, ht⟩) t_nil dX1_rootGets_56
  have K27 : ∀ (x3 : Int32) (x4 : Int32) (x5 : Int64) (ls : Array Slot), lv_has ls 7 [(0, .ref q1), (3, .int x3), (4, .int x4), (5, .long x5)] → cf_X1_rootGets_s27 w_o w_f w_r w_b w_a w_l x3 x4 x5 = R → W p l e (headSpec wsX1_rootGets ({ frames := 2, cells := 0, slots := 0, locals := 44 })).room s m ([.ref q1, .long a0, .int a1, .int a2] : List Value).toArray below meth c s.heap [] 0 0 (MQ below (rd_Q (some (.long R))) ([.ref q1, .long a0, .int a1, .int a2] : List Value).toArray s 0 0 (fun _ => False)) (F0 m 27 ls []) := by
    intro x3 x4 x5 ls hl hR
    unfold cf_X1_rootGets_s27 at hR
    refine lv_aload_n hx hb dX1_rootGets_27 rfl (lv_at hl 0 rfl) ?_
    refine va_get (D := (dC, dI)) (ci := 0) (v := .ref q3) (C := RX1) (T := TX1) (N := 1) hx hb hts h1_ hown hK hP 0 rfl rfl 0 (by decide) h0_ (fun _ h9 => h9) rfl dX1_rootGets_28 ?_
    refine lv_bipush (v := (16 : Int32)) hx hb dX1_rootGets_31 (by decide +kernel) ?_
    refine rd_calli (va_runV (As := [.int (16 : Int32)]) (rest := []) ⟨hx, hb, hml, hown, hts⟩ (c_X3_hasBarrier l dC dI q3 w_o w_f w_r w_b w_a w_l (16 : Int32) ) (cwV 1 hts gX1_rootGets_X3_hasBarrier rfl rfl rfl (by decide +kernel) ⟨Nat.le_of_ble_eq_true rfl, Nat.le_of_ble_eq_true rfl⟩) ⟨rd_blind, va_recv hK hP (ci := 2) (q0 := 1) rfl rfl, fun U hU hW => ⟨rfl, by rw [hU]; exact (hP.sub (ws' := [(q3, .inr (2, [.int w_o, .int w_f, .int w_r, .int w_b, .int w_a, .long w_l]))]) [1] rfl), va_K.moved hW.alike hK⟩⟩ rfl rfl hl.1 rfl (lv_room (Nat.le_of_ble_eq_true rfl)) dX1_rootGets_33 ⟨Nat.le_refl _, Nat.le_refl _⟩) ?_
    refine lv_if_eq (tgt := 48) hx hb dX1_rootGets_36 (by decide) (fun c_2 => ?_) (fun c_2 => ?_)
    · rw [if_pos c_2] at hR
      exact K48 x3 x4 x5 ls (lv_sub hl [1, 2, 3] rfl) hR
    · rw [if_neg c_2] at hR
      refine lv_lload hx hb dX1_rootGets_39 (lv_at hl 3 rfl) ?_
      refine lv_iload hx hb dX1_rootGets_41 (lv_at hl 2 rfl) ?_
      refine rd_calll (va_runS (As := [.long x5, .int x4]) (rest := []) ⟨hx, hb, hml, hown, hts⟩ (c_X4_greyIfWhite l x5 x4) (va_cwS 2 hts gX1_rootGets_X4_greyIfWhite rfl rfl rfl (by decide +kernel) ⟨Nat.le_of_ble_eq_true rfl, Nat.le_of_ble_eq_true rfl⟩) ⟨pu_blind, fun U hU hW => rfl⟩ rfl rfl hl.1 rfl (lv_room (Nat.le_of_ble_eq_true rfl)) dX1_rootGets_43 ⟨Nat.le_refl _, Nat.le_refl _⟩) ?_
      refine lv_lstore (lv' := [(5, .long (cf_X4_greyIfWhite x5 x4)), (0, .ref q1), (3, .int x3), (4, .int x4)]) hx hb dX1_rootGets_46 hl (by decide) rfl (fun ls hl => ?_)
      exact K48 x3 x4 (cf_X4_greyIfWhite x5 x4) ls (lv_sub hl [2, 3, 0] rfl) hR
  have hl := lv_entry ([.ref q1, .long a0, .int a1, .int a2]) (n := 7) (Nat.le_of_ble_eq_true rfl)
  rw [lg_entry_eq]
  generalize (lg_sl ([.ref q1, .long a0, .int a1, .int a2]) ++ List.replicate (7 - (lg_sl ([.ref q1, .long a0, .int a1, .int a2])).length) Slot.unset).toArray = ls at hl ⊢
  have hl : lv_has ls 7 [(0, .ref q1), (1, .long a0), (3, .int a1), (4, .int a2)] := hl
  unfold cf_X1_rootGets at hR
  refine lv_lload_n hx hb dX1_rootGets_0 rfl (lv_at hl 1 rfl) ?_
  refine lv_lstore (lv' := [(5, .long a0), (0, .ref q1), (1, .long a0), (3, .int a1), (4, .int a2)]) hx hb dX1_rootGets_1 hl (by decide) rfl (fun ls hl => ?_)
  refine lv_aload_n hx hb dX1_rootGets_3 rfl (lv_at hl 1 rfl) ?_
  refine va_get (D := (dC, dI)) (ci := 0) (v := .ref q3) (C := RX1) (T := TX1) (N := 1) hx hb hts h1_ hown hK hP 0 rfl rfl 0 (by decide) h0_ (fun _ h9 => h9) rfl dX1_rootGets_4 ?_
  refine lv_bipush (v := (64 : Int32)) hx hb dX1_rootGets_7 (by decide +kernel) ?_
  refine rd_calli (va_runV (As := [.int (64 : Int32)]) (rest := []) ⟨hx, hb, hml, hown, hts⟩ (c_X3_hasBarrier l dC dI q3 w_o w_f w_r w_b w_a w_l (64 : Int32) ) (cwV 1 hts gX1_rootGets_X3_hasBarrier rfl rfl rfl (by decide +kernel) ⟨Nat.le_of_ble_eq_true rfl, Nat.le_of_ble_eq_true rfl⟩) ⟨rd_blind, va_recv hK hP (ci := 2) (q0 := 1) rfl rfl, fun U hU hW => ⟨rfl, by rw [hU]; exact (hP.sub (ws' := [(q3, .inr (2, [.int w_o, .int w_f, .int w_r, .int w_b, .int w_a, .long w_l]))]) [1] rfl), va_K.moved hW.alike hK⟩⟩ rfl rfl hl.1 rfl (lv_room (Nat.le_of_ble_eq_true rfl)) dX1_rootGets_9 ⟨Nat.le_refl _, Nat.le_refl _⟩) ?_
  refine lv_if_eq (tgt := 27) hx hb dX1_rootGets_12 (by decide) (fun c_1 => ?_) (fun c_1 => ?_)
  · rw [if_pos c_1] at hR
    exact K27 a1 a2 a0 ls (lv_sub hl [1, 3, 4, 0] rfl) hR
  · rw [if_neg c_1] at hR
    refine lv_lload hx hb dX1_rootGets_15 (lv_at hl 0 rfl) ?_
    refine lv_lload_n hx hb dX1_rootGets_17 rfl (lv_at hl 2 rfl) ?_
    refine lv_iload_n hx hb dX1_rootGets_18 rfl (lv_at hl 3 rfl) ?_
    refine rd_calli (va_runS (As := [.long a0, .int a1]) (rest := [.long a0]) ⟨hx, hb, hml, hown, hts⟩ (c_X4_inRoot l a0 a1) (va_cwS 2 hts gX1_rootGets_X4_inRoot rfl rfl rfl (by decide +kernel) ⟨Nat.le_of_ble_eq_true rfl, Nat.le_of_ble_eq_true rfl⟩) ⟨pu_blind, fun U hU hW => rfl⟩ rfl rfl hl.1 rfl (lv_room (Nat.le_of_ble_eq_true rfl)) dX1_rootGets_19 ⟨Nat.le_refl _, Nat.le_refl _⟩) ?_
    refine rd_calll (va_runS (As := [.long a0, .int (cf_X4_inRoot a0 a1)]) (rest := []) ⟨hx, hb, hml, hown, hts⟩ (c_X4_greyIfWhite l a0 (cf_X4_inRoot a0 a1)) (va_cwS 2 hts gX1_rootGets_X4_greyIfWhite rfl rfl rfl (by decide +kernel) ⟨Nat.le_of_ble_eq_true rfl, Nat.le_of_ble_eq_true rfl⟩) ⟨pu_blind, fun U hU hW => rfl⟩ rfl rfl hl.1 rfl (lv_room (Nat.le_of_ble_eq_true rfl)) dX1_rootGets_22 ⟨Nat.le_refl _, Nat.le_refl _⟩) ?_
    refine lv_lstore (lv' := [(5, .long (cf_X4_greyIfWhite a0 (cf_X4_inRoot a0 a1))), (0, .ref q1), (1, .long a0), (3, .int a1), (4, .int a2)]) hx hb dX1_rootGets_25 hl (by decide) rfl (fun ls hl => ?_)
    exact K27 a1 a2 (cf_X4_greyIfWhite a0 (cf_X4_inRoot a0 a1)) ls (lv_sub hl [1, 3, 4, 0] rfl) hR
def cf_X1_copy_s29 (w_o w_f w_r w_b w_a : Int32) (w_l : Int64)  : Int64 :=
  (-1 : Int64)
def cf_X1_copy (w_o w_f w_r w_b w_a : Int32) (w_l : Int64) (a0 : Int64) (a1 : Int32) (a2 : Int32) : Int64 :=
  (if a1 = a2 then cf_X1_copy_s29 w_o w_f w_r w_b w_a w_l  else (if w_r ≤ a1 then cf_X1_copy_s29 w_o w_f w_r w_b w_a w_l  else (if a2 < w_r then (cf_X1_rootGets w_o w_f w_r w_b w_a w_l a0 a1 (cf_X4_inRoot a0 a2)) else cf_X1_copy_s29 w_o w_f w_r w_b w_a w_l )))
set_option maxHeartbeats 4000000 in
set_option maxRecDepth 100000 in
theorem c_X1_copy (l : Launch) (dC : Nat → ClassId) (dI : Nat → Nat → Nat) (q1 q3 : Nat) (w_o w_f w_r w_b w_a : Int32) (w_l : Int64) (a0 : Int64) (a1 : Int32) (a2 : Int32)  : Met l yX1_copy wsX1_copy ({ frames := 3, cells := 0, slots := 0, locals := 70 }) (rd_P [.ref q1, .long a0, .int a1, .int a2] (dC, dI) kcl [(q1, .inr (0, [.ref q3])), (q3, .inr (2, [.int w_o, .int w_f, .int w_r, .int w_b, .int w_a, .long w_l]))] []) (rd_Q (some (.long (cf_X1_copy w_o w_f w_r w_b w_a w_l a0 a1 a2)))) 0 0 (fun _ => False) := by
  refine Met.ofW (cc := cX1_copy) (maxL := 5) (ret := (some .long)) (by decide) rfl ?_
  intro p e s m args below meth c s₁ B hml hv
  obtain ⟨rfl, hP, hK⟩ := hv
  have hx := B.exec
  have hb := B.bytes
  have hr := B.returns
  have hts := atoms_spec (ws := wsX1_copy) B.pre
  have hown : s.vm.findClass RX1 = some m.cls := findClass_of_methodNamed B.named
  have hlocks := B.notSynchronized
  have hP : va_P (dC, dI) kcl [(q1, .inr (0, [.ref q3])), (q3, .inr (2, [.int w_o, .int w_f, .int w_r, .int w_b, .int w_a, .long w_l]))] s.heap := hP
  have h0_ : (Cond.constantLong RX1 23 (-1)).before _ s = true := hts _ (by decide +kernel)
  have h1_ : (Cond.fieldLink RX1 9 "ColourTrier$Moves" "setup" "LColourTrier$Setup;").before _ s = true := hts _ (by decide +kernel)
  have h2_ : ∀ w ∈ u_ws RX1 TX1 1, w ∈ wsX1_copy := by decide +kernel
  have h3_ : (Cond.fieldLink RX1 61 "ColourTrier$Setup" "roots" "I").before _ s = true := hts _ (by decide +kernel)
  have h4_ : ∀ w ∈ u_ws RX3 TX3 6, w ∈ wsX1_copy := by decide +kernel
  generalize hR : cf_X1_copy w_o w_f w_r w_b w_a w_l a0 a1 a2 = R
  have K29 : ∀  (ls : Array Slot), lv_has ls 5 [] → cf_X1_copy_s29 w_o w_f w_r w_b w_a w_l  = R → W p l e (headSpec wsX1_copy ({ frames := 3, cells := 0, slots := 0, locals := 70 })).room s m ([.ref q1, .long a0, .int a1, .int a2] : List Value).toArray below meth c s.heap [] 0 0 (MQ below (rd_Q (some (.long R))) ([.ref q1, .long a0, .int a1, .int a2] : List Value).toArray s 0 0 (fun _ => False)) (F0 m 29 ls []) := by
    intro  ls hl hR
    unfold cf_X1_copy_s29 at hR
    refine lv_ldc2 (v := (-1 : Int64)) hx hb hown h0_ dX1_copy_29 ?_
    exact W.lret (v := (-1 : Int64)) hx hb hr (fun t ht _ => ⟨congrArg (fun z => Outcome.returned (some (Value.long z))) hR, ht⟩) t_nil dX1_copy_32
  have hl := lv_entry ([.ref q1, .long a0, .int a1, .int a2]) (n := 5) (Nat.le_of_ble_eq_true rfl)
  rw [lg_entry_eq]
  generalize (lg_sl ([.ref q1, .long a0, .int a1, .int a2]) ++ List.replicate (5 - (lg_sl ([.ref q1, .long a0, .int a1, .int a2])).length) Slot.unset).toArray = ls at hl ⊢
  have hl : lv_has ls 5 [(0, .ref q1), (1, .long a0), (3, .int a1), (4, .int a2)] := hl
  unfold cf_X1_copy at hR
  refine lv_iload_n hx hb dX1_copy_0 rfl (lv_at hl 2 rfl) ?_
  refine lv_iload hx hb dX1_copy_1 (lv_at hl 3 rfl) ?_
  refine lv_icmp_eq (tgt := 29) hx hb dX1_copy_3 (by decide) (fun c_1 => ?_) (fun c_1 => ?_)
  · rw [if_pos c_1] at hR
    exact K29  ls (lv_sub hl [] rfl) hR
  · rw [if_neg c_1] at hR
    refine lv_iload_n hx hb dX1_copy_6 rfl (lv_at hl 2 rfl) ?_
    refine lv_aload_n hx hb dX1_copy_7 rfl (lv_at hl 0 rfl) ?_
    refine va_get (D := (dC, dI)) (ci := 0) (v := .ref q3) (C := RX1) (T := TX1) (N := 1) hx hb hts h2_ hown hK hP 0 rfl rfl 0 (by decide) h1_ (fun _ h9 => h9) rfl dX1_copy_8 ?_
    refine va_get (D := (dC, dI)) (ci := 2) (v := .int w_r) (C := RX3) (T := TX3) (N := 6) hx hb hts h4_ hown hK hP 1 rfl rfl 2 (by decide) h3_ (fun _ h9 => h9) rfl dX1_copy_11 ?_
    refine lv_icmp_ge (tgt := 29) hx hb dX1_copy_14 (by decide) (fun c_2 => ?_) (fun c_2 => ?_)
    · rw [if_pos c_2] at hR
      exact K29  ls (lv_sub hl [] rfl) hR
    · rw [if_neg c_2] at hR
      refine lv_iload hx hb dX1_copy_17 (lv_at hl 3 rfl) ?_
      refine lv_aload_n hx hb dX1_copy_19 rfl (lv_at hl 0 rfl) ?_
      refine va_get (D := (dC, dI)) (ci := 0) (v := .ref q3) (C := RX1) (T := TX1) (N := 1) hx hb hts h2_ hown hK hP 0 rfl rfl 0 (by decide) h1_ (fun _ h9 => h9) rfl dX1_copy_20 ?_
      refine va_get (D := (dC, dI)) (ci := 2) (v := .int w_r) (C := RX3) (T := TX3) (N := 6) hx hb hts h4_ hown hK hP 1 rfl rfl 2 (by decide) h3_ (fun _ h9 => h9) rfl dX1_copy_23 ?_
      refine lv_icmp_lt (tgt := 33) hx hb dX1_copy_26 (by decide) (fun c_3 => ?_) (fun c_3 => ?_)
      · rw [if_pos c_3] at hR
        refine lv_aload_n hx hb dX1_copy_33 rfl (lv_at hl 0 rfl) ?_
        refine lv_lload_n hx hb dX1_copy_34 rfl (lv_at hl 1 rfl) ?_
        refine lv_iload_n hx hb dX1_copy_35 rfl (lv_at hl 2 rfl) ?_
        refine lv_lload_n hx hb dX1_copy_36 rfl (lv_at hl 1 rfl) ?_
        refine lv_iload hx hb dX1_copy_37 (lv_at hl 3 rfl) ?_
        refine rd_calli (va_runS (As := [.long a0, .int a2]) (rest := [.int a1, .long a0, .ref q1]) ⟨hx, hb, hml, hown, hts⟩ (c_X4_inRoot l a0 a2) (va_cwS 2 hts gX1_copy_X4_inRoot rfl rfl rfl (by decide +kernel) ⟨Nat.le_of_ble_eq_true rfl, Nat.le_of_ble_eq_true rfl⟩) ⟨pu_blind, fun U hU hW => rfl⟩ rfl rfl hl.1 rfl (lv_room (Nat.le_of_ble_eq_true rfl)) dX1_copy_39 ⟨Nat.le_refl _, Nat.le_refl _⟩) ?_
        refine rd_calll (va_runV (As := [.long a0, .int a1, .int (cf_X4_inRoot a0 a2)]) (rest := []) ⟨hx, hb, hml, hown, hts⟩ (c_X1_rootGets l dC dI q1 q3 w_o w_f w_r w_b w_a w_l a0 a1 (cf_X4_inRoot a0 a2) ) (cwV 3 hts gX1_copy_X1_rootGets rfl rfl rfl (by decide +kernel) ⟨Nat.le_of_ble_eq_true rfl, Nat.le_of_ble_eq_true rfl⟩) ⟨rd_blind, va_recv hK hP (ci := 0) (q0 := 0) rfl rfl, fun U hU hW => ⟨rfl, by rw [hU]; exact hP, va_K.moved hW.alike hK⟩⟩ rfl rfl hl.1 rfl (lv_room (Nat.le_of_ble_eq_true rfl)) dX1_copy_42 ⟨Nat.le_refl _, Nat.le_refl _⟩) ?_
        exact W.lret (v := (cf_X1_rootGets w_o w_f w_r w_b w_a w_l a0 a1 (cf_X4_inRoot a0 a2))) hx hb hr (fun t ht _ => ⟨congrArg (fun z => Outcome.returned (some (Value.long z))) hR, ht⟩) t_nil dX1_copy_45
      · rw [if_neg c_3] at hR
        exact K29  ls (lv_sub hl [] rfl) hR
def cf_X1_load_s35 (w_o w_f w_r w_b w_a : Int32) (w_l : Int64)  : Int64 :=
  (-1 : Int64)
def cf_X1_load (w_o w_f w_r w_b w_a : Int32) (w_l : Int64) (a0 : Int64) (a1 : Int32) (a2 : Int32) (a3 : Int32) : Int64 :=
  (if w_r ≤ a1 then cf_X1_load_s35 w_o w_f w_r w_b w_a w_l  else (if w_r ≤ a2 then cf_X1_load_s35 w_o w_f w_r w_b w_a w_l  else (if a3 < w_f then (if (cf_X4_inRoot a0 a2) = (-1 : Int32) then (-1 : Int64) else (cf_X1_rootGets w_o w_f w_r w_b w_a w_l a0 a1 (cf_X4_inField a0 (cf_X4_inRoot a0 a2) a3))) else cf_X1_load_s35 w_o w_f w_r w_b w_a w_l )))
set_option maxHeartbeats 4000000 in
set_option maxRecDepth 100000 in
theorem c_X1_load (l : Launch) (dC : Nat → ClassId) (dI : Nat → Nat → Nat) (q1 q3 : Nat) (w_o w_f w_r w_b w_a : Int32) (w_l : Int64) (a0 : Int64) (a1 : Int32) (a2 : Int32) (a3 : Int32)  : Met l yX1_load wsX1_load ({ frames := 3, cells := 0, slots := 0, locals := 70 }) (rd_P [.ref q1, .long a0, .int a1, .int a2, .int a3] (dC, dI) kcl [(q1, .inr (0, [.ref q3])), (q3, .inr (2, [.int w_o, .int w_f, .int w_r, .int w_b, .int w_a, .long w_l]))] []) (rd_Q (some (.long (cf_X1_load w_o w_f w_r w_b w_a w_l a0 a1 a2 a3)))) 0 0 (fun _ => False) := by
  refine Met.ofW (cc := cX1_load) (maxL := 7) (ret := (some .long)) (by decide) rfl ?_
  intro p e s m args below meth c s₁ B hml hv
  obtain ⟨rfl, hP, hK⟩ := hv
  have hx := B.exec
  have hb := B.bytes
  have hr := B.returns
  have hts := atoms_spec (ws := wsX1_load) B.pre
  have hown : s.vm.findClass RX1 = some m.cls := findClass_of_methodNamed B.named
  have hlocks := B.notSynchronized
  have hP : va_P (dC, dI) kcl [(q1, .inr (0, [.ref q3])), (q3, .inr (2, [.int w_o, .int w_f, .int w_r, .int w_b, .int w_a, .long w_l]))] s.heap := hP
  have h0_ : (Cond.fieldLink RX1 9 "ColourTrier$Moves" "setup" "LColourTrier$Setup;").before _ s = true := hts _ (by decide +kernel)
  have h1_ : ∀ w ∈ u_ws RX1 TX1 1, w ∈ wsX1_load := by decide +kernel
  have h2_ : (Cond.fieldLink RX1 61 "ColourTrier$Setup" "roots" "I").before _ s = true := hts _ (by decide +kernel)
  have h3_ : ∀ w ∈ u_ws RX3 TX3 6, w ∈ wsX1_load := by decide +kernel
  have h4_ : (Cond.constantLong RX1 23 (-1)).before _ s = true := hts _ (by decide +kernel)
  have h5_ : (Cond.fieldLink RX1 87 "ColourTrier$Setup" "fields" "I").before _ s = true := hts _ (by decide +kernel)
  generalize hR : cf_X1_load w_o w_f w_r w_b w_a w_l a0 a1 a2 a3 = R
  have K35 : ∀  (ls : Array Slot), lv_has ls 7 [] → cf_X1_load_s35 w_o w_f w_r w_b w_a w_l  = R → W p l e (headSpec wsX1_load ({ frames := 3, cells := 0, slots := 0, locals := 70 })).room s m ([.ref q1, .long a0, .int a1, .int a2, .int a3] : List Value).toArray below meth c s.heap [] 0 0 (MQ below (rd_Q (some (.long R))) ([.ref q1, .long a0, .int a1, .int a2, .int a3] : List Value).toArray s 0 0 (fun _ => False)) (F0 m 35 ls []) := by
    intro  ls hl hR
    unfold cf_X1_load_s35 at hR
    refine lv_ldc2 (v := (-1 : Int64)) hx hb hown h4_ dX1_load_35 ?_
    exact W.lret (v := (-1 : Int64)) hx hb hr (fun t ht _ => ⟨congrArg (fun z => Outcome.returned (some (Value.long z))) hR, ht⟩) t_nil dX1_load_38
  have hl := lv_entry ([.ref q1, .long a0, .int a1, .int a2, .int a3]) (n := 7) (Nat.le_of_ble_eq_true rfl)
  rw [lg_entry_eq]
  generalize (lg_sl ([.ref q1, .long a0, .int a1, .int a2, .int a3]) ++ List.replicate (7 - (lg_sl ([.ref q1, .long a0, .int a1, .int a2, .int a3])).length) Slot.unset).toArray = ls at hl ⊢
  have hl : lv_has ls 7 [(0, .ref q1), (1, .long a0), (3, .int a1), (4, .int a2), (5, .int a3)] := hl
  unfold cf_X1_load at hR
  refine lv_iload_n hx hb dX1_load_0 rfl (lv_at hl 2 rfl) ?_
  refine lv_aload_n hx hb dX1_load_1 rfl (lv_at hl 0 rfl) ?_
  refine va_get (D := (dC, dI)) (ci := 0) (v := .ref q3) (C := RX1) (T := TX1) (N := 1) hx hb hts h1_ hown hK hP 0 rfl rfl 0 (by decide) h0_ (fun _ h9 => h9) rfl dX1_load_2 ?_
  refine va_get (D := (dC, dI)) (ci := 2) (v := .int w_r) (C := RX3) (T := TX3) (N := 6) hx hb hts h3_ hown hK hP 1 rfl rfl 2 (by decide) h2_ (fun _ h9 => h9) rfl dX1_load_5 ?_
  refine lv_icmp_ge (tgt := 35) hx hb dX1_load_8 (by decide) (fun c_1 => ?_) (fun c_1 => ?_)
  · rw [if_pos c_1] at hR
    exact K35  ls (lv_sub hl [] rfl) hR
  · rw [if_neg c_1] at hR
    refine lv_iload hx hb dX1_load_11 (lv_at hl 3 rfl) ?_
    refine lv_aload_n hx hb dX1_load_13 rfl (lv_at hl 0 rfl) ?_
    refine va_get (D := (dC, dI)) (ci := 0) (v := .ref q3) (C := RX1) (T := TX1) (N := 1) hx hb hts h1_ hown hK hP 0 rfl rfl 0 (by decide) h0_ (fun _ h9 => h9) rfl dX1_load_14 ?_
    refine va_get (D := (dC, dI)) (ci := 2) (v := .int w_r) (C := RX3) (T := TX3) (N := 6) hx hb hts h3_ hown hK hP 1 rfl rfl 2 (by decide) h2_ (fun _ h9 => h9) rfl dX1_load_17 ?_
    refine lv_icmp_ge (tgt := 35) hx hb dX1_load_20 (by decide) (fun c_2 => ?_) (fun c_2 => ?_)
    · rw [if_pos c_2] at hR
      exact K35  ls (lv_sub hl [] rfl) hR
    · rw [if_neg c_2] at hR
      refine lv_iload hx hb dX1_load_23 (lv_at hl 4 rfl) ?_
      refine lv_aload_n hx hb dX1_load_25 rfl (lv_at hl 0 rfl) ?_
      refine va_get (D := (dC, dI)) (ci := 0) (v := .ref q3) (C := RX1) (T := TX1) (N := 1) hx hb hts h1_ hown hK hP 0 rfl rfl 0 (by decide) h0_ (fun _ h9 => h9) rfl dX1_load_26 ?_
      refine va_get (D := (dC, dI)) (ci := 2) (v := .int w_f) (C := RX3) (T := TX3) (N := 6) hx hb hts h3_ hown hK hP 1 rfl rfl 1 (by decide) h5_ (fun _ h9 => h9) rfl dX1_load_29 ?_
      refine lv_icmp_lt (tgt := 39) hx hb dX1_load_32 (by decide) (fun c_3 => ?_) (fun c_3 => ?_)
      · rw [if_pos c_3] at hR
        refine lv_lload_n hx hb dX1_load_39 rfl (lv_at hl 1 rfl) ?_
        refine lv_iload hx hb dX1_load_40 (lv_at hl 3 rfl) ?_
        refine rd_calli (va_runS (As := [.long a0, .int a2]) (rest := []) ⟨hx, hb, hml, hown, hts⟩ (c_X4_inRoot l a0 a2) (va_cwS 2 hts gX1_load_X4_inRoot rfl rfl rfl (by decide +kernel) ⟨Nat.le_of_ble_eq_true rfl, Nat.le_of_ble_eq_true rfl⟩) ⟨pu_blind, fun U hU hW => rfl⟩ rfl rfl hl.1 rfl (lv_room (Nat.le_of_ble_eq_true rfl)) dX1_load_42 ⟨Nat.le_refl _, Nat.le_refl _⟩) ?_
        refine lv_istore (lv' := [(6, .int (cf_X4_inRoot a0 a2)), (0, .ref q1), (1, .long a0), (3, .int a1), (4, .int a2), (5, .int a3)]) hx hb dX1_load_45 hl (by decide) rfl (fun ls hl => ?_)
        refine lv_iload hx hb dX1_load_47 (lv_at hl 0 rfl) ?_
        refine lv_iconst (v := (-1 : Int32)) hx hb dX1_load_49 (by decide +kernel) ?_
        refine lv_icmp_ne (tgt := 57) hx hb dX1_load_50 (by decide) (fun c_4 => ?_) (fun c_4 => ?_)
        · rw [if_neg c_4] at hR
          refine lv_aload_n hx hb dX1_load_57 rfl (lv_at hl 1 rfl) ?_
          refine lv_lload_n hx hb dX1_load_58 rfl (lv_at hl 2 rfl) ?_
          refine lv_iload_n hx hb dX1_load_59 rfl (lv_at hl 3 rfl) ?_
          refine lv_lload_n hx hb dX1_load_60 rfl (lv_at hl 2 rfl) ?_
          refine lv_iload hx hb dX1_load_61 (lv_at hl 0 rfl) ?_
          refine lv_iload hx hb dX1_load_63 (lv_at hl 5 rfl) ?_
          refine rd_calli (va_runS (As := [.long a0, .int (cf_X4_inRoot a0 a2), .int a3]) (rest := [.int a1, .long a0, .ref q1]) ⟨hx, hb, hml, hown, hts⟩ (c_X4_inField l a0 (cf_X4_inRoot a0 a2) a3) (va_cwS 3 hts gX1_load_X4_inField rfl rfl rfl (by decide +kernel) ⟨Nat.le_of_ble_eq_true rfl, Nat.le_of_ble_eq_true rfl⟩) ⟨pu_blind, fun U hU hW => rfl⟩ rfl rfl hl.1 rfl (lv_room (Nat.le_of_ble_eq_true rfl)) dX1_load_65 ⟨Nat.le_refl _, Nat.le_refl _⟩) ?_
          refine rd_calll (va_runV (As := [.long a0, .int a1, .int (cf_X4_inField a0 (cf_X4_inRoot a0 a2) a3)]) (rest := []) ⟨hx, hb, hml, hown, hts⟩ (c_X1_rootGets l dC dI q1 q3 w_o w_f w_r w_b w_a w_l a0 a1 (cf_X4_inField a0 (cf_X4_inRoot a0 a2) a3) ) (cwV 3 hts gX1_load_X1_rootGets rfl rfl rfl (by decide +kernel) ⟨Nat.le_of_ble_eq_true rfl, Nat.le_of_ble_eq_true rfl⟩) ⟨rd_blind, va_recv hK hP (ci := 0) (q0 := 0) rfl rfl, fun U hU hW => ⟨rfl, by rw [hU]; exact hP, va_K.moved hW.alike hK⟩⟩ rfl rfl hl.1 rfl (lv_room (Nat.le_of_ble_eq_true rfl)) dX1_load_68 ⟨Nat.le_refl _, Nat.le_refl _⟩) ?_
          exact W.lret (v := (cf_X1_rootGets w_o w_f w_r w_b w_a w_l a0 a1 (cf_X4_inField a0 (cf_X4_inRoot a0 a2) a3))) hx hb hr (fun t ht _ => ⟨congrArg (fun z => Outcome.returned (some (Value.long z))) hR, ht⟩) t_nil dX1_load_71
        · rw [if_pos c_4] at hR
          refine lv_ldc2 (v := (-1 : Int64)) hx hb hown h4_ dX1_load_53 ?_
          exact W.lret (v := (-1 : Int64)) hx hb hr (fun t ht _ => ⟨congrArg (fun z => Outcome.returned (some (Value.long z))) hR, ht⟩) t_nil dX1_load_56
      · rw [if_neg c_3] at hR
        exact K35  ls (lv_sub hl [] rfl) hR
def cf_X1_clear (w_o w_f w_r w_b w_a : Int32) (w_l : Int64) (a0 : Int64) (a1 : Int32) : Int64 :=
  (if a1 < w_r then (cf_X1_rootGets w_o w_f w_r w_b w_a w_l a0 a1 (-1 : Int32)) else (-1 : Int64))
set_option maxHeartbeats 4000000 in
set_option maxRecDepth 100000 in
theorem c_X1_clear (l : Launch) (dC : Nat → ClassId) (dI : Nat → Nat → Nat) (q1 q3 : Nat) (w_o w_f w_r w_b w_a : Int32) (w_l : Int64) (a0 : Int64) (a1 : Int32)  : Met l yX1_clear wsX1_clear ({ frames := 3, cells := 0, slots := 0, locals := 70 }) (rd_P [.ref q1, .long a0, .int a1] (dC, dI) kcl [(q1, .inr (0, [.ref q3])), (q3, .inr (2, [.int w_o, .int w_f, .int w_r, .int w_b, .int w_a, .long w_l]))] []) (rd_Q (some (.long (cf_X1_clear w_o w_f w_r w_b w_a w_l a0 a1)))) 0 0 (fun _ => False) := by
  refine Met.ofW (cc := cX1_clear) (maxL := 4) (ret := (some .long)) (by decide) rfl ?_
  intro p e s m args below meth c s₁ B hml hv
  obtain ⟨rfl, hP, hK⟩ := hv
  have hx := B.exec
  have hb := B.bytes
  have hr := B.returns
  have hts := atoms_spec (ws := wsX1_clear) B.pre
  have hown : s.vm.findClass RX1 = some m.cls := findClass_of_methodNamed B.named
  have hlocks := B.notSynchronized
  have hP : va_P (dC, dI) kcl [(q1, .inr (0, [.ref q3])), (q3, .inr (2, [.int w_o, .int w_f, .int w_r, .int w_b, .int w_a, .long w_l]))] s.heap := hP
  have h0_ : (Cond.fieldLink RX1 9 "ColourTrier$Moves" "setup" "LColourTrier$Setup;").before _ s = true := hts _ (by decide +kernel)
  have h1_ : ∀ w ∈ u_ws RX1 TX1 1, w ∈ wsX1_clear := by decide +kernel
  have h2_ : (Cond.fieldLink RX1 61 "ColourTrier$Setup" "roots" "I").before _ s = true := hts _ (by decide +kernel)
  have h3_ : ∀ w ∈ u_ws RX3 TX3 6, w ∈ wsX1_clear := by decide +kernel
  have h4_ : (Cond.constantLong RX1 23 (-1)).before _ s = true := hts _ (by decide +kernel)
  generalize hR : cf_X1_clear w_o w_f w_r w_b w_a w_l a0 a1 = R
  have hl := lv_entry ([.ref q1, .long a0, .int a1]) (n := 4) (Nat.le_of_ble_eq_true rfl)
  rw [lg_entry_eq]
  generalize (lg_sl ([.ref q1, .long a0, .int a1]) ++ List.replicate (4 - (lg_sl ([.ref q1, .long a0, .int a1])).length) Slot.unset).toArray = ls at hl ⊢
  have hl : lv_has ls 4 [(0, .ref q1), (1, .long a0), (3, .int a1)] := hl
  unfold cf_X1_clear at hR
  refine lv_iload_n hx hb dX1_clear_0 rfl (lv_at hl 2 rfl) ?_
  refine lv_aload_n hx hb dX1_clear_1 rfl (lv_at hl 0 rfl) ?_
  refine va_get (D := (dC, dI)) (ci := 0) (v := .ref q3) (C := RX1) (T := TX1) (N := 1) hx hb hts h1_ hown hK hP 0 rfl rfl 0 (by decide) h0_ (fun _ h9 => h9) rfl dX1_clear_2 ?_
  refine va_get (D := (dC, dI)) (ci := 2) (v := .int w_r) (C := RX3) (T := TX3) (N := 6) hx hb hts h3_ hown hK hP 1 rfl rfl 2 (by decide) h2_ (fun _ h9 => h9) rfl dX1_clear_5 ?_
  refine lv_icmp_lt (tgt := 17) hx hb dX1_clear_8 (by decide) (fun c_1 => ?_) (fun c_1 => ?_)
  · rw [if_pos c_1] at hR
    refine lv_aload_n hx hb dX1_clear_17 rfl (lv_at hl 0 rfl) ?_
    refine lv_lload_n hx hb dX1_clear_18 rfl (lv_at hl 1 rfl) ?_
    refine lv_iload_n hx hb dX1_clear_19 rfl (lv_at hl 2 rfl) ?_
    refine lv_iconst (v := (-1 : Int32)) hx hb dX1_clear_20 (by decide +kernel) ?_
    refine rd_calll (va_runV (As := [.long a0, .int a1, .int (-1 : Int32)]) (rest := []) ⟨hx, hb, hml, hown, hts⟩ (c_X1_rootGets l dC dI q1 q3 w_o w_f w_r w_b w_a w_l a0 a1 (-1 : Int32) ) (cwV 3 hts gX1_clear_X1_rootGets rfl rfl rfl (by decide +kernel) ⟨Nat.le_of_ble_eq_true rfl, Nat.le_of_ble_eq_true rfl⟩) ⟨rd_blind, va_recv hK hP (ci := 0) (q0 := 0) rfl rfl, fun U hU hW => ⟨rfl, by rw [hU]; exact hP, va_K.moved hW.alike hK⟩⟩ rfl rfl hl.1 rfl (lv_room (Nat.le_of_ble_eq_true rfl)) dX1_clear_21 ⟨Nat.le_refl _, Nat.le_refl _⟩) ?_
    exact W.lret (v := (cf_X1_rootGets w_o w_f w_r w_b w_a w_l a0 a1 (-1 : Int32))) hx hb hr (fun t ht _ => ⟨congrArg (fun z => Outcome.returned (some (Value.long z))) hR, ht⟩) t_nil dX1_clear_24
  · rw [if_neg c_1] at hR
    refine lv_ldc2 (v := (-1 : Int64)) hx hb hown h4_ dX1_clear_11 ?_
    refine lv_goto (tgt := 24) hx hb dX1_clear_14 (by decide) ?_
    exact W.lret (v := (-1 : Int64)) hx hb hr (fun t ht _ => ⟨congrArg (fun z => Outcome.returned (some (Value.long z))) hR, ht⟩) t_nil dX1_clear_24
def cf_X1_store_s35 (w_o w_f w_r w_b w_a : Int32) (w_l : Int64)  : Int64 :=
  (-1 : Int64)
def cf_X1_store_s184 (w_o w_f w_r w_b w_a : Int32) (w_l : Int64) (x5 : Int32) (x6 : Int32) (x7 : Int32) (x8 : Int64) : Int64 :=
  (cf_X4_withField x8 x6 x5 x7)
def cf_X1_store_s143 (w_o w_f w_r w_b w_a : Int32) (w_l : Int64) (x5 : Int32) (x6 : Int32) (x7 : Int32) (x8 : Int64) : Int64 :=
  (if (cf_X3_hasBarrier w_o w_f w_r w_b w_a w_l (8 : Int32)) = 0 then cf_X1_store_s184 w_o w_f w_r w_b w_a w_l x5 x6 x7 x8 else (if (cf_X4_isBlack x8 x6) = 0 then cf_X1_store_s184 w_o w_f w_r w_b w_a w_l x5 x6 x7 x8 else (if (cf_X4_isWhite x8 x7) = 0 then cf_X1_store_s184 w_o w_f w_r w_b w_a w_l x5 x6 x7 x8 else cf_X1_store_s184 w_o w_f w_r w_b w_a w_l x5 x6 x7 (cf_X4_greyAgain x8 x6))))
def cf_X1_store_s113 (w_o w_f w_r w_b w_a : Int32) (w_l : Int64) (x5 : Int32) (x6 : Int32) (x7 : Int32) (x8 : Int64) : Int64 :=
  (if (cf_X3_hasBarrier w_o w_f w_r w_b w_a w_l (4 : Int32)) = 0 then cf_X1_store_s143 w_o w_f w_r w_b w_a w_l x5 x6 x7 x8 else (if (cf_X4_isBlack x8 x6) = 0 then cf_X1_store_s143 w_o w_f w_r w_b w_a w_l x5 x6 x7 x8 else cf_X1_store_s143 w_o w_f w_r w_b w_a w_l x5 x6 x7 (cf_X4_greyIfWhite x8 x7)))
def cf_X1_store_s93 (w_o w_f w_r w_b w_a : Int32) (w_l : Int64) (x5 : Int32) (x6 : Int32) (x7 : Int32) (x8 : Int64) : Int64 :=
  (if (cf_X3_hasBarrier w_o w_f w_r w_b w_a w_l (2 : Int32)) = 0 then cf_X1_store_s113 w_o w_f w_r w_b w_a w_l x5 x6 x7 x8 else cf_X1_store_s113 w_o w_f w_r w_b w_a w_l x5 x6 x7 (cf_X4_greyIfWhite x8 x7))
def cf_X1_store (w_o w_f w_r w_b w_a : Int32) (w_l : Int64) (a0 : Int64) (a1 : Int32) (a2 : Int32) (a3 : Int32) : Int64 :=
  (if w_r ≤ a1 then cf_X1_store_s35 w_o w_f w_r w_b w_a w_l  else (if w_r ≤ a2 then cf_X1_store_s35 w_o w_f w_r w_b w_a w_l  else (if a3 < w_f then (if (cf_X4_inRoot a0 a1) = (-1 : Int32) then (-1 : Int64) else (if (cf_X3_hasBarrier w_o w_f w_r w_b w_a w_l (1 : Int32)) = 0 then cf_X1_store_s93 w_o w_f w_r w_b w_a w_l a3 (cf_X4_inRoot a0 a1) (cf_X4_inRoot a0 a2) a0 else cf_X1_store_s93 w_o w_f w_r w_b w_a w_l a3 (cf_X4_inRoot a0 a1) (cf_X4_inRoot a0 a2) (cf_X4_greyIfWhite a0 (cf_X4_inField a0 (cf_X4_inRoot a0 a1) a3)))) else cf_X1_store_s35 w_o w_f w_r w_b w_a w_l )))
set_option maxHeartbeats 4000000 in
set_option maxRecDepth 100000 in
theorem c_X1_store (l : Launch) (dC : Nat → ClassId) (dI : Nat → Nat → Nat) (q1 q3 : Nat) (w_o w_f w_r w_b w_a : Int32) (w_l : Int64) (a0 : Int64) (a1 : Int32) (a2 : Int32) (a3 : Int32)  : Met l yX1_store wsX1_store ({ frames := 2, cells := 0, slots := 0, locals := 46 }) (rd_P [.ref q1, .long a0, .int a1, .int a2, .int a3] (dC, dI) kcl [(q1, .inr (0, [.ref q3])), (q3, .inr (2, [.int w_o, .int w_f, .int w_r, .int w_b, .int w_a, .long w_l]))] []) (rd_Q (some (.long (cf_X1_store w_o w_f w_r w_b w_a w_l a0 a1 a2 a3)))) 0 0 (fun _ => False) := by
  refine Met.ofW (cc := cX1_store) (maxL := 10) (ret := (some .long)) (by decide) rfl ?_
  intro p e s m args below meth c s₁ B hml hv
  obtain ⟨rfl, hP, hK⟩ := hv
  have hx := B.exec
  have hb := B.bytes
  have hr := B.returns
  have hts := atoms_spec (ws := wsX1_store) B.pre
  have hown : s.vm.findClass RX1 = some m.cls := findClass_of_methodNamed B.named
  have hlocks := B.notSynchronized
  have hP : va_P (dC, dI) kcl [(q1, .inr (0, [.ref q3])), (q3, .inr (2, [.int w_o, .int w_f, .int w_r, .int w_b, .int w_a, .long w_l]))] s.heap := hP
  have h0_ : (Cond.fieldLink RX1 9 "ColourTrier$Moves" "setup" "LColourTrier$Setup;").before _ s = true := hts _ (by decide +kernel)
  have h1_ : ∀ w ∈ u_ws RX1 TX1 1, w ∈ wsX1_store := by decide +kernel
  have h2_ : (Cond.fieldLink RX1 61 "ColourTrier$Setup" "roots" "I").before _ s = true := hts _ (by decide +kernel)
  have h3_ : ∀ w ∈ u_ws RX3 TX3 6, w ∈ wsX1_store := by decide +kernel
  have h4_ : (Cond.constantLong RX1 23 (-1)).before _ s = true := hts _ (by decide +kernel)
  have h5_ : (Cond.fieldLink RX1 87 "ColourTrier$Setup" "fields" "I").before _ s = true := hts _ (by decide +kernel)
  generalize hR : cf_X1_store w_o w_f w_r w_b w_a w_l a0 a1 a2 a3 = R
  have K35 : ∀  (ls : Array Slot), lv_has ls 10 [] → cf_X1_store_s35 w_o w_f w_r w_b w_a w_l  = R → W p l e (headSpec wsX1_store ({ frames := 2, cells := 0, slots := 0, locals := 46 })).room s m ([.ref q1, .long a0, .int a1, .int a2, .int a3] : List Value).toArray below meth c s.heap [] 0 0 (MQ below (rd_Q (some (.long R))) ([.ref q1, .long a0, .int a1, .int a2, .int a3] : List Value).toArray s 0 0 (fun _ => False)) (F0 m 35 ls []) := by
    intro  ls hl hR
    unfold cf_X1_store_s35 at hR
    refine lv_ldc2 (v := (-1 : Int64)) hx hb hown h4_ dX1_store_35 ?_
    exact W.lret (v := (-1 : Int64)) hx hb hr (fun t ht _ => ⟨congrArg (fun z => Outcome.returned (some (Value.long z))) hR, ht⟩) t_nil dX1_store_38
  have K184 : ∀ (x5 : Int32) (x6 : Int32) (x7 : Int32) (x8 : Int64) (ls : Array Slot), lv_has ls 10 [(5, .int x5), (6, .int x6), (7, .int x7), (8, .long x8)] → cf_X1_store_s184 w_o w_f w_r w_b w_a w_l x5 x6 x7 x8 = R → W p l e (headSpec wsX1_store ({ frames := 2, cells := 0, slots := 0, locals := 46 })).room s m ([.ref q1, .long a0, .int a1, .int a2, .int a3] : List Value).toArray below meth c s.heap [] 0 0 (MQ below (rd_Q (some (.long R))) ([.ref q1, .long a0, .int a1, .int a2, .int a3] : List Value).toArray s 0 0 (fun _ => False)) (F0 m 184 ls []) := by
    intro x5 x6 x7 x8 ls hl hR
    unfold cf_X1_store_s184 at hR
    refine lv_lload hx hb dX1_store_184 (lv_at hl 3 rfl) ?_
    refine lv_iload hx hb dX1_store_186 (lv_at hl 1 rfl) ?_
    refine lv_iload hx hb dX1_store_188 (lv_at hl 0 rfl) ?_
    refine lv_iload hx hb dX1_store_190 (lv_at hl 2 rfl) ?_
    refine rd_calll (va_runS (As := [.long x8, .int x6, .int x5, .int x7]) (rest := []) ⟨hx, hb, hml, hown, hts⟩ (c_X4_withField l x8 x6 x5 x7) (va_cwS 4 hts gX1_store_X4_withField rfl rfl rfl (by decide +kernel) ⟨Nat.le_of_ble_eq_true rfl, Nat.le_of_ble_eq_true rfl⟩) ⟨pu_blind, fun U hU hW => rfl⟩ rfl rfl hl.1 rfl (lv_room (Nat.le_of_ble_eq_true rfl)) dX1_store_192 ⟨Nat.le_refl _, Nat.le_refl _⟩) ?_
    exact W.lret (v := (cf_X4_withField x8 x6 x5 x7)) hx hb hr (fun t ht _ => ⟨congrArg (fun z => Outcome.returned (some (Value.long z))) hR, ht⟩) t_nil dX1_store_195
  have K143 : ∀ (x5 : Int32) (x6 : Int32) (x7 : Int32) (x8 : Int64) (ls : Array Slot), lv_has ls 10 [(0, .ref q1), (5, .int x5), (6, .int x6), (7, .int x7), (8, .long x8)] → cf_X1_store_s143 w_o w_f w_r w_b w_a w_l x5 x6 x7 x8 = R → W p l e (headSpec wsX1_store ({ frames := 2, cells := 0, slots := 0, locals := 46 })).room s m ([.ref q1, .long a0, .int a1, .int a2, .int a3] : List Value).toArray below meth c s.heap [] 0 0 (MQ below (rd_Q (some (.long R))) ([.ref q1, .long a0, .int a1, .int a2, .int a3] : List Value).toArray s 0 0 (fun _ => False)) (F0 m 143 ls []) := by
    intro x5 x6 x7 x8 ls hl hR
    unfold cf_X1_store_s143 at hR
    refine lv_aload_n hx hb dX1_store_143 rfl (lv_at hl 0 rfl) ?_
    refine va_get (D := (dC, dI)) (ci := 0) (v := .ref q3) (C := RX1) (T := TX1) (N := 1) hx hb hts h1_ hown hK hP 0 rfl rfl 0 (by decide) h0_ (fun _ h9 => h9) rfl dX1_store_144 ?_
    refine lv_bipush (v := (8 : Int32)) hx hb dX1_store_147 (by decide +kernel) ?_
    refine rd_calli (va_runV (As := [.int (8 : Int32)]) (rest := []) ⟨hx, hb, hml, hown, hts⟩ (c_X3_hasBarrier l dC dI q3 w_o w_f w_r w_b w_a w_l (8 : Int32) ) (cwV 1 hts gX1_store_X3_hasBarrier rfl rfl rfl (by decide +kernel) ⟨Nat.le_of_ble_eq_true rfl, Nat.le_of_ble_eq_true rfl⟩) ⟨rd_blind, va_recv hK hP (ci := 2) (q0 := 1) rfl rfl, fun U hU hW => ⟨rfl, by rw [hU]; exact (hP.sub (ws' := [(q3, .inr (2, [.int w_o, .int w_f, .int w_r, .int w_b, .int w_a, .long w_l]))]) [1] rfl), va_K.moved hW.alike hK⟩⟩ rfl rfl hl.1 rfl (lv_room (Nat.le_of_ble_eq_true rfl)) dX1_store_149 ⟨Nat.le_refl _, Nat.le_refl _⟩) ?_
    refine lv_if_eq (tgt := 184) hx hb dX1_store_152 (by decide) (fun c_8 => ?_) (fun c_8 => ?_)
    · rw [if_pos c_8] at hR
      exact K184 x5 x6 x7 x8 ls (lv_sub hl [1, 2, 3, 4] rfl) hR
    · rw [if_neg c_8] at hR
      refine lv_lload hx hb dX1_store_155 (lv_at hl 4 rfl) ?_
      refine lv_iload hx hb dX1_store_157 (lv_at hl 2 rfl) ?_
      refine rd_calli (va_runS (As := [.long x8, .int x6]) (rest := []) ⟨hx, hb, hml, hown, hts⟩ (c_X4_isBlack l x8 x6) (va_cwS 2 hts gX1_store_X4_isBlack rfl rfl rfl (by decide +kernel) ⟨Nat.le_of_ble_eq_true rfl, Nat.le_of_ble_eq_true rfl⟩) ⟨pu_blind, fun U hU hW => rfl⟩ rfl rfl hl.1 rfl (lv_room (Nat.le_of_ble_eq_true rfl)) dX1_store_159 ⟨Nat.le_refl _, Nat.le_refl _⟩) ?_
      refine lv_if_eq (tgt := 184) hx hb dX1_store_162 (by decide) (fun c_9 => ?_) (fun c_9 => ?_)
      · rw [if_pos c_9] at hR
        exact K184 x5 x6 x7 x8 ls (lv_sub hl [1, 2, 3, 4] rfl) hR
      · rw [if_neg c_9] at hR
        refine lv_lload hx hb dX1_store_165 (lv_at hl 4 rfl) ?_
        refine lv_iload hx hb dX1_store_167 (lv_at hl 3 rfl) ?_
        refine rd_calli (va_runS (As := [.long x8, .int x7]) (rest := []) ⟨hx, hb, hml, hown, hts⟩ (c_X4_isWhite l x8 x7) (va_cwS 2 hts gX1_store_X4_isWhite rfl rfl rfl (by decide +kernel) ⟨Nat.le_of_ble_eq_true rfl, Nat.le_of_ble_eq_true rfl⟩) ⟨pu_blind, fun U hU hW => rfl⟩ rfl rfl hl.1 rfl (lv_room (Nat.le_of_ble_eq_true rfl)) dX1_store_169 ⟨Nat.le_refl _, Nat.le_refl _⟩) ?_
        refine lv_if_eq (tgt := 184) hx hb dX1_store_172 (by decide) (fun c_10 => ?_) (fun c_10 => ?_)
        · rw [if_pos c_10] at hR
          exact K184 x5 x6 x7 x8 ls (lv_sub hl [1, 2, 3, 4] rfl) hR
        · rw [if_neg c_10] at hR
          refine lv_lload hx hb dX1_store_175 (lv_at hl 4 rfl) ?_
          refine lv_iload hx hb dX1_store_177 (lv_at hl 2 rfl) ?_
          refine rd_calll (va_runS (As := [.long x8, .int x6]) (rest := []) ⟨hx, hb, hml, hown, hts⟩ (c_X4_greyAgain l x8 x6) (va_cwS 2 hts gX1_store_X4_greyAgain rfl rfl rfl (by decide +kernel) ⟨Nat.le_of_ble_eq_true rfl, Nat.le_of_ble_eq_true rfl⟩) ⟨pu_blind, fun U hU hW => rfl⟩ rfl rfl hl.1 rfl (lv_room (Nat.le_of_ble_eq_true rfl)) dX1_store_179 ⟨Nat.le_refl _, Nat.le_refl _⟩) ?_
          refine lv_lstore (lv' := [(8, .long (cf_X4_greyAgain x8 x6)), (0, .ref q1), (5, .int x5), (6, .int x6), (7, .int x7)]) hx hb dX1_store_182 hl (by decide) rfl (fun ls hl => ?_)
          exact K184 x5 x6 x7 (cf_X4_greyAgain x8 x6) ls (lv_sub hl [2, 3, 4, 0] rfl) hR
  have K113 : ∀ (x5 : Int32) (x6 : Int32) (x7 : Int32) (x8 : Int64) (ls : Array Slot), lv_has ls 10 [(0, .ref q1), (5, .int x5), (6, .int x6), (7, .int x7), (8, .long x8)] → cf_X1_store_s113 w_o w_f w_r w_b w_a w_l x5 x6 x7 x8 = R → W p l e (headSpec wsX1_store ({ frames := 2, cells := 0, slots := 0, locals := 46 })).room s m ([.ref q1, .long a0, .int a1, .int a2, .int a3] : List Value).toArray below meth c s.heap [] 0 0 (MQ below (rd_Q (some (.long R))) ([.ref q1, .long a0, .int a1, .int a2, .int a3] : List Value).toArray s 0 0 (fun _ => False)) (F0 m 113 ls []) := by
    intro x5 x6 x7 x8 ls hl hR
    unfold cf_X1_store_s113 at hR
    refine lv_aload_n hx hb dX1_store_113 rfl (lv_at hl 0 rfl) ?_
    refine va_get (D := (dC, dI)) (ci := 0) (v := .ref q3) (C := RX1) (T := TX1) (N := 1) hx hb hts h1_ hown hK hP 0 rfl rfl 0 (by decide) h0_ (fun _ h9 => h9) rfl dX1_store_114 ?_
    refine lv_iconst (v := (4 : Int32)) hx hb dX1_store_117 (by decide +kernel) ?_
    refine rd_calli (va_runV (As := [.int (4 : Int32)]) (rest := []) ⟨hx, hb, hml, hown, hts⟩ (c_X3_hasBarrier l dC dI q3 w_o w_f w_r w_b w_a w_l (4 : Int32) ) (cwV 1 hts gX1_store_X3_hasBarrier rfl rfl rfl (by decide +kernel) ⟨Nat.le_of_ble_eq_true rfl, Nat.le_of_ble_eq_true rfl⟩) ⟨rd_blind, va_recv hK hP (ci := 2) (q0 := 1) rfl rfl, fun U hU hW => ⟨rfl, by rw [hU]; exact (hP.sub (ws' := [(q3, .inr (2, [.int w_o, .int w_f, .int w_r, .int w_b, .int w_a, .long w_l]))]) [1] rfl), va_K.moved hW.alike hK⟩⟩ rfl rfl hl.1 rfl (lv_room (Nat.le_of_ble_eq_true rfl)) dX1_store_118 ⟨Nat.le_refl _, Nat.le_refl _⟩) ?_
    refine lv_if_eq (tgt := 143) hx hb dX1_store_121 (by decide) (fun c_7 => ?_) (fun c_7 => ?_)
    · rw [if_pos c_7] at hR
      exact K143 x5 x6 x7 x8 ls (lv_sub hl [0, 1, 2, 3, 4] rfl) hR
    · rw [if_neg c_7] at hR
      refine lv_lload hx hb dX1_store_124 (lv_at hl 4 rfl) ?_
      refine lv_iload hx hb dX1_store_126 (lv_at hl 2 rfl) ?_
      refine rd_calli (va_runS (As := [.long x8, .int x6]) (rest := []) ⟨hx, hb, hml, hown, hts⟩ (c_X4_isBlack l x8 x6) (va_cwS 2 hts gX1_store_X4_isBlack rfl rfl rfl (by decide +kernel) ⟨Nat.le_of_ble_eq_true rfl, Nat.le_of_ble_eq_true rfl⟩) ⟨pu_blind, fun U hU hW => rfl⟩ rfl rfl hl.1 rfl (lv_room (Nat.le_of_ble_eq_true rfl)) dX1_store_128 ⟨Nat.le_refl _, Nat.le_refl _⟩) ?_
      refine lv_if_eq (tgt := 143) hx hb dX1_store_131 (by decide) (fun c_11 => ?_) (fun c_11 => ?_)
      · rw [if_pos c_11] at hR
        exact K143 x5 x6 x7 x8 ls (lv_sub hl [0, 1, 2, 3, 4] rfl) hR
      · rw [if_neg c_11] at hR
        refine lv_lload hx hb dX1_store_134 (lv_at hl 4 rfl) ?_
        refine lv_iload hx hb dX1_store_136 (lv_at hl 3 rfl) ?_
        refine rd_calll (va_runS (As := [.long x8, .int x7]) (rest := []) ⟨hx, hb, hml, hown, hts⟩ (c_X4_greyIfWhite l x8 x7) (va_cwS 2 hts gX1_store_X4_greyIfWhite rfl rfl rfl (by decide +kernel) ⟨Nat.le_of_ble_eq_true rfl, Nat.le_of_ble_eq_true rfl⟩) ⟨pu_blind, fun U hU hW => rfl⟩ rfl rfl hl.1 rfl (lv_room (Nat.le_of_ble_eq_true rfl)) dX1_store_138 ⟨Nat.le_refl _, Nat.le_refl _⟩) ?_
        refine lv_lstore (lv' := [(8, .long (cf_X4_greyIfWhite x8 x7)), (0, .ref q1), (5, .int x5), (6, .int x6), (7, .int x7)]) hx hb dX1_store_141 hl (by decide) rfl (fun ls hl => ?_)
        exact K143 x5 x6 x7 (cf_X4_greyIfWhite x8 x7) ls (lv_sub hl [1, 2, 3, 4, 0] rfl) hR
  have K93 : ∀ (x5 : Int32) (x6 : Int32) (x7 : Int32) (x8 : Int64) (ls : Array Slot), lv_has ls 10 [(0, .ref q1), (5, .int x5), (6, .int x6), (7, .int x7), (8, .long x8)] → cf_X1_store_s93 w_o w_f w_r w_b w_a w_l x5 x6 x7 x8 = R → W p l e (headSpec wsX1_store ({ frames := 2, cells := 0, slots := 0, locals := 46 })).room s m ([.ref q1, .long a0, .int a1, .int a2, .int a3] : List Value).toArray below meth c s.heap [] 0 0 (MQ below (rd_Q (some (.long R))) ([.ref q1, .long a0, .int a1, .int a2, .int a3] : List Value).toArray s 0 0 (fun _ => False)) (F0 m 93 ls []) := by
    intro x5 x6 x7 x8 ls hl hR
    unfold cf_X1_store_s93 at hR
    refine lv_aload_n hx hb dX1_store_93 rfl (lv_at hl 0 rfl) ?_
    refine va_get (D := (dC, dI)) (ci := 0) (v := .ref q3) (C := RX1) (T := TX1) (N := 1) hx hb hts h1_ hown hK hP 0 rfl rfl 0 (by decide) h0_ (fun _ h9 => h9) rfl dX1_store_94 ?_
    refine lv_iconst (v := (2 : Int32)) hx hb dX1_store_97 (by decide +kernel) ?_
    refine rd_calli (va_runV (As := [.int (2 : Int32)]) (rest := []) ⟨hx, hb, hml, hown, hts⟩ (c_X3_hasBarrier l dC dI q3 w_o w_f w_r w_b w_a w_l (2 : Int32) ) (cwV 1 hts gX1_store_X3_hasBarrier rfl rfl rfl (by decide +kernel) ⟨Nat.le_of_ble_eq_true rfl, Nat.le_of_ble_eq_true rfl⟩) ⟨rd_blind, va_recv hK hP (ci := 2) (q0 := 1) rfl rfl, fun U hU hW => ⟨rfl, by rw [hU]; exact (hP.sub (ws' := [(q3, .inr (2, [.int w_o, .int w_f, .int w_r, .int w_b, .int w_a, .long w_l]))]) [1] rfl), va_K.moved hW.alike hK⟩⟩ rfl rfl hl.1 rfl (lv_room (Nat.le_of_ble_eq_true rfl)) dX1_store_98 ⟨Nat.le_refl _, Nat.le_refl _⟩) ?_
    refine lv_if_eq (tgt := 113) hx hb dX1_store_101 (by decide) (fun c_6 => ?_) (fun c_6 => ?_)
    · rw [if_pos c_6] at hR
      exact K113 x5 x6 x7 x8 ls (lv_sub hl [0, 1, 2, 3, 4] rfl) hR
    · rw [if_neg c_6] at hR
      refine lv_lload hx hb dX1_store_104 (lv_at hl 4 rfl) ?_
      refine lv_iload hx hb dX1_store_106 (lv_at hl 3 rfl) ?_
      refine rd_calll (va_runS (As := [.long x8, .int x7]) (rest := []) ⟨hx, hb, hml, hown, hts⟩ (c_X4_greyIfWhite l x8 x7) (va_cwS 2 hts gX1_store_X4_greyIfWhite rfl rfl rfl (by decide +kernel) ⟨Nat.le_of_ble_eq_true rfl, Nat.le_of_ble_eq_true rfl⟩) ⟨pu_blind, fun U hU hW => rfl⟩ rfl rfl hl.1 rfl (lv_room (Nat.le_of_ble_eq_true rfl)) dX1_store_108 ⟨Nat.le_refl _, Nat.le_refl _⟩) ?_
      refine lv_lstore (lv' := [(8, .long (cf_X4_greyIfWhite x8 x7)), (0, .ref q1), (5, .int x5), (6, .int x6), (7, .int x7)]) hx hb dX1_store_111 hl (by decide) rfl (fun ls hl => ?_)
      exact K113 x5 x6 x7 (cf_X4_greyIfWhite x8 x7) ls (lv_sub hl [1, 2, 3, 4, 0] rfl) hR
  have hl := lv_entry ([.ref q1, .long a0, .int a1, .int a2, .int a3]) (n := 10) (Nat.le_of_ble_eq_true rfl)
  rw [lg_entry_eq]
  generalize (lg_sl ([.ref q1, .long a0, .int a1, .int a2, .int a3]) ++ List.replicate (10 - (lg_sl ([.ref q1, .long a0, .int a1, .int a2, .int a3])).length) Slot.unset).toArray = ls at hl ⊢
  have hl : lv_has ls 10 [(0, .ref q1), (1, .long a0), (3, .int a1), (4, .int a2), (5, .int a3)] := hl
  unfold cf_X1_store at hR
  refine lv_iload_n hx hb dX1_store_0 rfl (lv_at hl 2 rfl) ?_
  refine lv_aload_n hx hb dX1_store_1 rfl (lv_at hl 0 rfl) ?_
  refine va_get (D := (dC, dI)) (ci := 0) (v := .ref q3) (C := RX1) (T := TX1) (N := 1) hx hb hts h1_ hown hK hP 0 rfl rfl 0 (by decide) h0_ (fun _ h9 => h9) rfl dX1_store_2 ?_
  refine va_get (D := (dC, dI)) (ci := 2) (v := .int w_r) (C := RX3) (T := TX3) (N := 6) hx hb hts h3_ hown hK hP 1 rfl rfl 2 (by decide) h2_ (fun _ h9 => h9) rfl dX1_store_5 ?_
  refine lv_icmp_ge (tgt := 35) hx hb dX1_store_8 (by decide) (fun c_1 => ?_) (fun c_1 => ?_)
  · rw [if_pos c_1] at hR
    exact K35  ls (lv_sub hl [] rfl) hR
  · rw [if_neg c_1] at hR
    refine lv_iload hx hb dX1_store_11 (lv_at hl 3 rfl) ?_
    refine lv_aload_n hx hb dX1_store_13 rfl (lv_at hl 0 rfl) ?_
    refine va_get (D := (dC, dI)) (ci := 0) (v := .ref q3) (C := RX1) (T := TX1) (N := 1) hx hb hts h1_ hown hK hP 0 rfl rfl 0 (by decide) h0_ (fun _ h9 => h9) rfl dX1_store_14 ?_
    refine va_get (D := (dC, dI)) (ci := 2) (v := .int w_r) (C := RX3) (T := TX3) (N := 6) hx hb hts h3_ hown hK hP 1 rfl rfl 2 (by decide) h2_ (fun _ h9 => h9) rfl dX1_store_17 ?_
    refine lv_icmp_ge (tgt := 35) hx hb dX1_store_20 (by decide) (fun c_2 => ?_) (fun c_2 => ?_)
    · rw [if_pos c_2] at hR
      exact K35  ls (lv_sub hl [] rfl) hR
    · rw [if_neg c_2] at hR
      refine lv_iload hx hb dX1_store_23 (lv_at hl 4 rfl) ?_
      refine lv_aload_n hx hb dX1_store_25 rfl (lv_at hl 0 rfl) ?_
      refine va_get (D := (dC, dI)) (ci := 0) (v := .ref q3) (C := RX1) (T := TX1) (N := 1) hx hb hts h1_ hown hK hP 0 rfl rfl 0 (by decide) h0_ (fun _ h9 => h9) rfl dX1_store_26 ?_
      refine va_get (D := (dC, dI)) (ci := 2) (v := .int w_f) (C := RX3) (T := TX3) (N := 6) hx hb hts h3_ hown hK hP 1 rfl rfl 1 (by decide) h5_ (fun _ h9 => h9) rfl dX1_store_29 ?_
      refine lv_icmp_lt (tgt := 39) hx hb dX1_store_32 (by decide) (fun c_3 => ?_) (fun c_3 => ?_)
      · rw [if_pos c_3] at hR
        refine lv_lload_n hx hb dX1_store_39 rfl (lv_at hl 1 rfl) ?_
        refine lv_iload_n hx hb dX1_store_40 rfl (lv_at hl 2 rfl) ?_
        refine rd_calli (va_runS (As := [.long a0, .int a1]) (rest := []) ⟨hx, hb, hml, hown, hts⟩ (c_X4_inRoot l a0 a1) (va_cwS 2 hts gX1_store_X4_inRoot rfl rfl rfl (by decide +kernel) ⟨Nat.le_of_ble_eq_true rfl, Nat.le_of_ble_eq_true rfl⟩) ⟨pu_blind, fun U hU hW => rfl⟩ rfl rfl hl.1 rfl (lv_room (Nat.le_of_ble_eq_true rfl)) dX1_store_41 ⟨Nat.le_refl _, Nat.le_refl _⟩) ?_
        refine lv_istore (lv' := [(6, .int (cf_X4_inRoot a0 a1)), (0, .ref q1), (1, .long a0), (3, .int a1), (4, .int a2), (5, .int a3)]) hx hb dX1_store_44 hl (by decide) rfl (fun ls hl => ?_)
        refine lv_iload hx hb dX1_store_46 (lv_at hl 0 rfl) ?_
        refine lv_iconst (v := (-1 : Int32)) hx hb dX1_store_48 (by decide +kernel) ?_
        refine lv_icmp_ne (tgt := 56) hx hb dX1_store_49 (by decide) (fun c_4 => ?_) (fun c_4 => ?_)
        · rw [if_neg c_4] at hR
          refine lv_lload_n hx hb dX1_store_56 rfl (lv_at hl 2 rfl) ?_
          refine lv_iload hx hb dX1_store_57 (lv_at hl 4 rfl) ?_
          refine rd_calli (va_runS (As := [.long a0, .int a2]) (rest := []) ⟨hx, hb, hml, hown, hts⟩ (c_X4_inRoot l a0 a2) (va_cwS 2 hts gX1_store_X4_inRoot rfl rfl rfl (by decide +kernel) ⟨Nat.le_of_ble_eq_true rfl, Nat.le_of_ble_eq_true rfl⟩) ⟨pu_blind, fun U hU hW => rfl⟩ rfl rfl hl.1 rfl (lv_room (Nat.le_of_ble_eq_true rfl)) dX1_store_59 ⟨Nat.le_refl _, Nat.le_refl _⟩) ?_
          refine lv_istore (lv' := [(7, .int (cf_X4_inRoot a0 a2)), (6, .int (cf_X4_inRoot a0 a1)), (0, .ref q1), (1, .long a0), (3, .int a1), (4, .int a2), (5, .int a3)]) hx hb dX1_store_62 hl (by decide) rfl (fun ls hl => ?_)
          refine lv_lload_n hx hb dX1_store_64 rfl (lv_at hl 3 rfl) ?_
          refine lv_lstore (lv' := [(8, .long a0), (7, .int (cf_X4_inRoot a0 a2)), (6, .int (cf_X4_inRoot a0 a1)), (0, .ref q1), (1, .long a0), (3, .int a1), (4, .int a2), (5, .int a3)]) hx hb dX1_store_65 hl (by decide) rfl (fun ls hl => ?_)
          refine lv_aload_n hx hb dX1_store_67 rfl (lv_at hl 3 rfl) ?_
          refine va_get (D := (dC, dI)) (ci := 0) (v := .ref q3) (C := RX1) (T := TX1) (N := 1) hx hb hts h1_ hown hK hP 0 rfl rfl 0 (by decide) h0_ (fun _ h9 => h9) rfl dX1_store_68 ?_
          refine lv_iconst (v := (1 : Int32)) hx hb dX1_store_71 (by decide +kernel) ?_
          refine rd_calli (va_runV (As := [.int (1 : Int32)]) (rest := []) ⟨hx, hb, hml, hown, hts⟩ (c_X3_hasBarrier l dC dI q3 w_o w_f w_r w_b w_a w_l (1 : Int32) ) (cwV 1 hts gX1_store_X3_hasBarrier rfl rfl rfl (by decide +kernel) ⟨Nat.le_of_ble_eq_true rfl, Nat.le_of_ble_eq_true rfl⟩) ⟨rd_blind, va_recv hK hP (ci := 2) (q0 := 1) rfl rfl, fun U hU hW => ⟨rfl, by rw [hU]; exact (hP.sub (ws' := [(q3, .inr (2, [.int w_o, .int w_f, .int w_r, .int w_b, .int w_a, .long w_l]))]) [1] rfl), va_K.moved hW.alike hK⟩⟩ rfl rfl hl.1 rfl (lv_room (Nat.le_of_ble_eq_true rfl)) dX1_store_72 ⟨Nat.le_refl _, Nat.le_refl _⟩) ?_
          refine lv_if_eq (tgt := 93) hx hb dX1_store_75 (by decide) (fun c_5 => ?_) (fun c_5 => ?_)
          · rw [if_pos c_5] at hR
            exact K93 a3 (cf_X4_inRoot a0 a1) (cf_X4_inRoot a0 a2) a0 ls (lv_sub hl [3, 7, 2, 1, 0] rfl) hR
          · rw [if_neg c_5] at hR
            refine lv_lload hx hb dX1_store_78 (lv_at hl 0 rfl) ?_
            refine lv_lload_n hx hb dX1_store_80 rfl (lv_at hl 4 rfl) ?_
            refine lv_iload hx hb dX1_store_81 (lv_at hl 2 rfl) ?_
            refine lv_iload hx hb dX1_store_83 (lv_at hl 7 rfl) ?_
            refine rd_calli (va_runS (As := [.long a0, .int (cf_X4_inRoot a0 a1), .int a3]) (rest := [.long a0]) ⟨hx, hb, hml, hown, hts⟩ (c_X4_inField l a0 (cf_X4_inRoot a0 a1) a3) (va_cwS 3 hts gX1_store_X4_inField rfl rfl rfl (by decide +kernel) ⟨Nat.le_of_ble_eq_true rfl, Nat.le_of_ble_eq_true rfl⟩) ⟨pu_blind, fun U hU hW => rfl⟩ rfl rfl hl.1 rfl (lv_room (Nat.le_of_ble_eq_true rfl)) dX1_store_85 ⟨Nat.le_refl _, Nat.le_refl _⟩) ?_
            refine rd_calll (va_runS (As := [.long a0, .int (cf_X4_inField a0 (cf_X4_inRoot a0 a1) a3)]) (rest := []) ⟨hx, hb, hml, hown, hts⟩ (c_X4_greyIfWhite l a0 (cf_X4_inField a0 (cf_X4_inRoot a0 a1) a3)) (va_cwS 2 hts gX1_store_X4_greyIfWhite rfl rfl rfl (by decide +kernel) ⟨Nat.le_of_ble_eq_true rfl, Nat.le_of_ble_eq_true rfl⟩) ⟨pu_blind, fun U hU hW => rfl⟩ rfl rfl hl.1 rfl (lv_room (Nat.le_of_ble_eq_true rfl)) dX1_store_88 ⟨Nat.le_refl _, Nat.le_refl _⟩) ?_
            refine lv_lstore (lv' := [(8, .long (cf_X4_greyIfWhite a0 (cf_X4_inField a0 (cf_X4_inRoot a0 a1) a3))), (7, .int (cf_X4_inRoot a0 a2)), (6, .int (cf_X4_inRoot a0 a1)), (0, .ref q1), (1, .long a0), (3, .int a1), (4, .int a2), (5, .int a3)]) hx hb dX1_store_91 hl (by decide) rfl (fun ls hl => ?_)
            exact K93 a3 (cf_X4_inRoot a0 a1) (cf_X4_inRoot a0 a2) (cf_X4_greyIfWhite a0 (cf_X4_inField a0 (cf_X4_inRoot a0 a1) a3)) ls (lv_sub hl [3, 7, 2, 1, 0] rfl) hR
        · rw [if_pos c_4] at hR
          refine lv_ldc2 (v := (-1 : Int64)) hx hb hown h4_ dX1_store_52 ?_
          exact W.lret (v := (-1 : Int64)) hx hb hr (fun t ht _ => ⟨congrArg (fun z => Outcome.returned (some (Value.long z))) hR, ht⟩) t_nil dX1_store_55
      · rw [if_neg c_3] at hR
        exact K35  ls (lv_sub hl [] rfl) hR

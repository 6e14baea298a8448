def cf_X1_end_s21 (w_o w_f w_r w_b w_a : Int32) (w_l : Int64)  : Int64 :=
  (-1 : Int64)
def cf_X1_end_s71 (w_o w_f w_r w_b w_a : Int32) (w_l : Int64) (x1 : Int64) (x3 : Int64) : Int64 :=
  (if (lg_cmp x3 x1) = 0 then (cf_X4_ended x1) else x3)
def cf_X1_end_s42_3 (w_o w_f w_r w_b w_a : Int32) (w_l : Int64) (x1 : Int64) (x3 : Int64) : Int64 :=
  cf_X1_end_s71 w_o w_f w_r w_b w_a w_l x1 x3
def cf_X1_end_s42_2 (w_o w_f w_r w_b w_a : Int32) (w_l : Int64) (x1 : Int64) (x3 : Int64) : Int64 :=
  (if w_r ≤ (2 : Int32) then cf_X1_end_s71 w_o w_f w_r w_b w_a w_l x1 x3 else cf_X1_end_s42_3 w_o w_f w_r w_b w_a w_l x1 (cf_X4_greyIfWhite x3 (cf_X4_inRoot x1 (2 : Int32))))
def cf_X1_end_s42_1 (w_o w_f w_r w_b w_a : Int32) (w_l : Int64) (x1 : Int64) (x3 : Int64) : Int64 :=
  (if w_r ≤ (1 : Int32) then cf_X1_end_s71 w_o w_f w_r w_b w_a w_l x1 x3 else cf_X1_end_s42_2 w_o w_f w_r w_b w_a w_l x1 (cf_X4_greyIfWhite x3 (cf_X4_inRoot x1 (1 : Int32))))
def cf_X1_end_s42_0 (w_o w_f w_r w_b w_a : Int32) (w_l : Int64) (x1 : Int64) (x3 : Int64) : Int64 :=
  (if w_r ≤ (0 : Int32) then cf_X1_end_s71 w_o w_f w_r w_b w_a w_l x1 x3 else cf_X1_end_s42_1 w_o w_f w_r w_b w_a w_l x1 (cf_X4_greyIfWhite x3 (cf_X4_inRoot x1 (0 : Int32))))
def cf_X1_end (w_o w_f w_r w_b w_a : Int32) (w_l : Int64) (a0 : Int64) : Int64 :=
  (if (cf_X4_rootsLookedAt a0) < w_r then cf_X1_end_s21 w_o w_f w_r w_b w_a w_l  else (if (cf_X4_greys a0) = 0 then (if (cf_X3_hasBarrier w_o w_f w_r w_b w_a w_l (32 : Int32)) = 0 then cf_X1_end_s71 w_o w_f w_r w_b w_a w_l a0 a0 else cf_X1_end_s42_0 w_o w_f w_r w_b w_a w_l a0 a0) else cf_X1_end_s21 w_o w_f w_r w_b w_a w_l ))
set_option maxHeartbeats 4000000 in
set_option maxRecDepth 100000 in
theorem c_X1_end (l : Launch) (dC : Nat → ClassId) (dI : Nat → Nat → Nat) (q1 q3 : Nat) (w_o w_f w_r w_b w_a : Int32) (w_l : Int64) (a0 : Int64) (hw_r : w_r ≤ 3) : Met l yX1_end wsX1_end ({ frames := 2, cells := 0, slots := 0, locals := 42 }) (rd_P [.ref q1, .long a0] (dC, dI) kcl [(q1, .inr (0, [.ref q3])), (q3, .inr (2, [.int w_o, .int w_f, .int w_r, .int w_b, .int w_a, .long w_l]))] []) (rd_Q (some (.long (cf_X1_end w_o w_f w_r w_b w_a w_l a0)))) 0 0 (fun _ => False) := by
  refine Met.ofW (cc := cX1_end) (maxL := 6) (ret := (some .long)) (by decide) rfl ?_
  intro p e s m args below meth c s₁ B hml hv
  obtain ⟨rfl, hP, hK⟩ := hv
  have hx := B.exec
  have hb := B.bytes
  have hr := B.returns
  have hts := atoms_spec (ws := wsX1_end) B.pre
  have hown : s.vm.findClass RX1 = some m.cls := findClass_of_methodNamed B.named
  have hlocks := B.notSynchronized
  have hP : va_P (dC, dI) kcl [(q1, .inr (0, [.ref q3])), (q3, .inr (2, [.int w_o, .int w_f, .int w_r, .int w_b, .int w_a, .long w_l]))] s.heap := hP
  have h0_ : (Cond.fieldLink RX1 9 "ColourTrier$Moves" "setup" "LColourTrier$Setup;").before _ s = true := hts _ (by decide +kernel)
  have h1_ : ∀ w ∈ u_ws RX1 TX1 1, w ∈ wsX1_end := by decide +kernel
  have h2_ : (Cond.fieldLink RX1 61 "ColourTrier$Setup" "roots" "I").before _ s = true := hts _ (by decide +kernel)
  have h3_ : ∀ w ∈ u_ws RX3 TX3 6, w ∈ wsX1_end := by decide +kernel
  have h4_ : (Cond.constantLong RX1 23 (-1)).before _ s = true := hts _ (by decide +kernel)
  generalize hR : cf_X1_end w_o w_f w_r w_b w_a w_l a0 = R
  have K21 : ∀  (ls : Array Slot), lv_has ls 6 [] → cf_X1_end_s21 w_o w_f w_r w_b w_a w_l  = R → W p l e (headSpec wsX1_end ({ frames := 2, cells := 0, slots := 0, locals := 42 })).room s m ([.ref q1, .long a0] : List Value).toArray below meth c s.heap [] 0 0 (MQ below (rd_Q (some (.long R))) ([.ref q1, .long a0] : List Value).toArray s 0 0 (fun _ => False)) (F0 m 21 ls []) := by
    intro  ls hl hR
    unfold cf_X1_end_s21 at hR
    refine lv_ldc2 (v := (-1 : Int64)) hx hb hown h4_ dX1_end_21 ?_
    exact W.lret (v := (-1 : Int64)) hx hb hr (fun t ht _ => ⟨congrArg (fun z => Outcome.returned (some (Value.long z))) hR, ht⟩) t_nil dX1_end_24
  have K71 : ∀ (x1 : Int64) (x3 : Int64) (ls : Array Slot), lv_has ls 6 [(1, .long x1), (3, .long x3)] → cf_X1_end_s71 w_o w_f w_r w_b w_a w_l x1 x3 = R → W p l e (headSpec wsX1_end ({ frames := 2, cells := 0, slots := 0, locals := 42 })).room s m ([.ref q1, .long a0] : List Value).toArray below meth c s.heap [] 0 0 (MQ below (rd_Q (some (.long R))) ([.ref q1, .long a0] : List Value).toArray s 0 0 (fun _ => False)) (F0 m 71 ls []) := by
    intro x1 x3 ls hl hR
    unfold cf_X1_end_s71 at hR
    refine lv_lload_n hx hb dX1_end_71 rfl (lv_at hl 1 rfl) ?_
    refine lv_lload_n hx hb dX1_end_72 rfl (lv_at hl 0 rfl) ?_
    refine W.lcmp hx hb dX1_end_73 ?_
    refine lv_if_ne (tgt := 84) hx hb dX1_end_74 (by decide) (fun c_4 => ?_) (fun c_4 => ?_)
    · rw [if_neg c_4] at hR
      refine lv_lload_n hx hb dX1_end_84 rfl (lv_at hl 1 rfl) ?_
      exact W.lret (v := x3) hx hb hr (fun t ht _ => ⟨congrArg (fun z => Outcome.returned (some (Value.long z))) hR, ht⟩) t_nil dX1_end_85
    · rw [if_pos c_4] at hR
      refine lv_lload_n hx hb dX1_end_77 rfl (lv_at hl 0 rfl) ?_
      refine rd_calll (va_runS (As := [.long x1]) (rest := []) ⟨hx, hb, hml, hown, hts⟩ (c_X4_ended l x1) (va_cwS 1 hts gX1_end_X4_ended rfl rfl rfl (by decide +kernel) ⟨Nat.le_of_ble_eq_true rfl, Nat.le_of_ble_eq_true rfl⟩) ⟨pu_blind, fun U hU hW => rfl⟩ rfl rfl hl.1 rfl (lv_room (Nat.le_of_ble_eq_true rfl)) dX1_end_78 ⟨Nat.le_refl _, Nat.le_refl _⟩) ?_
      refine lv_goto (tgt := 85) hx hb dX1_end_81 (by decide) ?_
      exact W.lret (v := (cf_X4_ended x1)) hx hb hr (fun t ht _ => ⟨congrArg (fun z => Outcome.returned (some (Value.long z))) hR, ht⟩) t_nil dX1_end_85
  have K42_3 : ∀ (x1 : Int64) (x3 : Int64) (ls : Array Slot), lv_has ls 6 [(0, .ref q1), (1, .long x1), (3, .long x3), (5, .int (3 : Int32))] → cf_X1_end_s42_3 w_o w_f w_r w_b w_a w_l x1 x3 = R → W p l e (headSpec wsX1_end ({ frames := 2, cells := 0, slots := 0, locals := 42 })).room s m ([.ref q1, .long a0] : List Value).toArray below meth c s.heap [] 0 0 (MQ below (rd_Q (some (.long R))) ([.ref q1, .long a0] : List Value).toArray s 0 0 (fun _ => False)) (F0 m 42 ls []) := by
    intro x1 x3 ls hl hR
    unfold cf_X1_end_s42_3 at hR
    refine lv_iload hx hb dX1_end_42 (lv_at hl 3 rfl) ?_
    refine lv_aload_n hx hb dX1_end_44 rfl (lv_at hl 0 rfl) ?_
    refine va_get (D := (dC, dI)) (ci := 0) (v := .ref q3) (C := RX1) (T := TX1) (N := 1) hx hb hts h1_ hown hK hP 0 rfl rfl 0 (by decide) h0_ (fun _ h9 => h9) rfl dX1_end_45 ?_
    refine va_get (D := (dC, dI)) (ci := 2) (v := .int w_r) (C := RX3) (T := TX3) (N := 6) hx hb hts h3_ hown hK hP 1 rfl rfl 2 (by decide) h2_ (fun _ h9 => h9) rfl dX1_end_48 ?_
    refine lv_icmp_ge (tgt := 71) hx hb dX1_end_51 (by decide) (fun _ => ?_) (fun c_0 => absurd hw_r c_0)
    exact K71 x1 x3 ls (lv_sub hl [1, 2] rfl) hR
  have K42_2 : ∀ (x1 : Int64) (x3 : Int64) (ls : Array Slot), lv_has ls 6 [(0, .ref q1), (1, .long x1), (3, .long x3), (5, .int (2 : Int32))] → cf_X1_end_s42_2 w_o w_f w_r w_b w_a w_l x1 x3 = R → W p l e (headSpec wsX1_end ({ frames := 2, cells := 0, slots := 0, locals := 42 })).room s m ([.ref q1, .long a0] : List Value).toArray below meth c s.heap [] 0 0 (MQ below (rd_Q (some (.long R))) ([.ref q1, .long a0] : List Value).toArray s 0 0 (fun _ => False)) (F0 m 42 ls []) := by
    intro x1 x3 ls hl hR
    unfold cf_X1_end_s42_2 at hR
    refine lv_iload hx hb dX1_end_42 (lv_at hl 3 rfl) ?_
    refine lv_aload_n hx hb dX1_end_44 rfl (lv_at hl 0 rfl) ?_
    refine va_get (D := (dC, dI)) (ci := 0) (v := .ref q3) (C := RX1) (T := TX1) (N := 1) hx hb hts h1_ hown hK hP 0 rfl rfl 0 (by decide) h0_ (fun _ h9 => h9) rfl dX1_end_45 ?_
    refine va_get (D := (dC, dI)) (ci := 2) (v := .int w_r) (C := RX3) (T := TX3) (N := 6) hx hb hts h3_ hown hK hP 1 rfl rfl 2 (by decide) h2_ (fun _ h9 => h9) rfl dX1_end_48 ?_
    refine lv_icmp_ge (tgt := 71) hx hb dX1_end_51 (by decide) (fun c_7 => ?_) (fun c_7 => ?_)
    · rw [if_pos c_7] at hR
      exact K71 x1 x3 ls (lv_sub hl [1, 2] rfl) hR
    · rw [if_neg c_7] at hR
      refine lv_lload_n hx hb dX1_end_54 rfl (lv_at hl 2 rfl) ?_
      refine lv_lload_n hx hb dX1_end_55 rfl (lv_at hl 1 rfl) ?_
      refine lv_iload hx hb dX1_end_56 (lv_at hl 3 rfl) ?_
      refine rd_calli (va_runS (As := [.long x1, .int (2 : Int32)]) (rest := [.long x3]) ⟨hx, hb, hml, hown, hts⟩ (c_X4_inRoot l x1 (2 : Int32)) (va_cwS 2 hts gX1_end_X4_inRoot rfl rfl rfl (by decide +kernel) ⟨Nat.le_of_ble_eq_true rfl, Nat.le_of_ble_eq_true rfl⟩) ⟨pu_blind, fun U hU hW => rfl⟩ rfl rfl hl.1 rfl (lv_room (Nat.le_of_ble_eq_true rfl)) dX1_end_58 ⟨Nat.le_refl _, Nat.le_refl _⟩) ?_
      refine rd_calll (va_runS (As := [.long x3, .int (cf_X4_inRoot x1 (2 : Int32))]) (rest := []) ⟨hx, hb, hml, hown, hts⟩ (c_X4_greyIfWhite l x3 (cf_X4_inRoot x1 (2 : Int32))) (va_cwS 2 hts gX1_end_X4_greyIfWhite rfl rfl rfl (by decide +kernel) ⟨Nat.le_of_ble_eq_true rfl, Nat.le_of_ble_eq_true rfl⟩) ⟨pu_blind, fun U hU hW => rfl⟩ rfl rfl hl.1 rfl (lv_room (Nat.le_of_ble_eq_true rfl)) dX1_end_61 ⟨Nat.le_refl _, Nat.le_refl _⟩) ?_
      refine lv_lstore_n (lv' := [(3, .long (cf_X4_greyIfWhite x3 (cf_X4_inRoot x1 (2 : Int32)))), (0, .ref q1), (1, .long x1), (5, .int (2 : Int32))]) hx hb dX1_end_64 rfl hl (by decide) rfl (fun ls hl => ?_)
      refine lv_iinc (v := (3 : Int32)) (lv' := [(5, .int (3 : Int32)), (3, .long (cf_X4_greyIfWhite x3 (cf_X4_inRoot x1 (2 : Int32)))), (0, .ref q1), (1, .long x1)]) hx hb dX1_end_65 hl (k := 3) rfl (by decide +kernel) (by decide) rfl (fun ls hl => ?_)
      refine lv_goto (tgt := 42) hx hb dX1_end_68 (by decide) ?_
      exact K42_3 x1 (cf_X4_greyIfWhite x3 (cf_X4_inRoot x1 (2 : Int32))) ls (lv_sub hl [2, 3, 1, 0] rfl) hR
  have K42_1 : ∀ (x1 : Int64) (x3 : Int64) (ls : Array Slot), lv_has ls 6 [(0, .ref q1), (1, .long x1), (3, .long x3), (5, .int (1 : Int32))] → cf_X1_end_s42_1 w_o w_f w_r w_b w_a w_l x1 x3 = R → W p l e (headSpec wsX1_end ({ frames := 2, cells := 0, slots := 0, locals := 42 })).room s m ([.ref q1, .long a0] : List Value).toArray below meth c s.heap [] 0 0 (MQ below (rd_Q (some (.long R))) ([.ref q1, .long a0] : List Value).toArray s 0 0 (fun _ => False)) (F0 m 42 ls []) := by
    intro x1 x3 ls hl hR
    unfold cf_X1_end_s42_1 at hR
    refine lv_iload hx hb dX1_end_42 (lv_at hl 3 rfl) ?_
    refine lv_aload_n hx hb dX1_end_44 rfl (lv_at hl 0 rfl) ?_
    refine va_get (D := (dC, dI)) (ci := 0) (v := .ref q3) (C := RX1) (T := TX1) (N := 1) hx hb hts h1_ hown hK hP 0 rfl rfl 0 (by decide) h0_ (fun _ h9 => h9) rfl dX1_end_45 ?_
    refine va_get (D := (dC, dI)) (ci := 2) (v := .int w_r) (C := RX3) (T := TX3) (N := 6) hx hb hts h3_ hown hK hP 1 rfl rfl 2 (by decide) h2_ (fun _ h9 => h9) rfl dX1_end_48 ?_
    refine lv_icmp_ge (tgt := 71) hx hb dX1_end_51 (by decide) (fun c_6 => ?_) (fun c_6 => ?_)
    · rw [if_pos c_6] at hR
      exact K71 x1 x3 ls (lv_sub hl [1, 2] rfl) hR
    · rw [if_neg c_6] at hR
      refine lv_lload_n hx hb dX1_end_54 rfl (lv_at hl 2 rfl) ?_
      refine lv_lload_n hx hb dX1_end_55 rfl (lv_at hl 1 rfl) ?_
      refine lv_iload hx hb dX1_end_56 (lv_at hl 3 rfl) ?_
      refine rd_calli (va_runS (As := [.long x1, .int (1 : Int32)]) (rest := [.long x3]) ⟨hx, hb, hml, hown, hts⟩ (c_X4_inRoot l x1 (1 : Int32)) (va_cwS 2 hts gX1_end_X4_inRoot rfl rfl rfl (by decide +kernel) ⟨Nat.le_of_ble_eq_true rfl, Nat.le_of_ble_eq_true rfl⟩) ⟨pu_blind, fun U hU hW => rfl⟩ rfl rfl hl.1 rfl (lv_room (Nat.le_of_ble_eq_true rfl)) dX1_end_58 ⟨Nat.le_refl _, Nat.le_refl _⟩) ?_
      refine rd_calll (va_runS (As := [.long x3, .int (cf_X4_inRoot x1 (1 : Int32))]) (rest := []) ⟨hx, hb, hml, hown, hts⟩ (c_X4_greyIfWhite l x3 (cf_X4_inRoot x1 (1 : Int32))) (va_cwS 2 hts gX1_end_X4_greyIfWhite rfl rfl rfl (by decide +kernel) ⟨Nat.le_of_ble_eq_true rfl, Nat.le_of_ble_eq_true rfl⟩) ⟨pu_blind, fun U hU hW => rfl⟩ rfl rfl hl.1 rfl (lv_room (Nat.le_of_ble_eq_true rfl)) dX1_end_61 ⟨Nat.le_refl _, Nat.le_refl _⟩) ?_
      refine lv_lstore_n (lv' := [(3, .long (cf_X4_greyIfWhite x3 (cf_X4_inRoot x1 (1 : Int32)))), (0, .ref q1), (1, .long x1), (5, .int (1 : Int32))]) hx hb dX1_end_64 rfl hl (by decide) rfl (fun ls hl => ?_)
      refine lv_iinc (v := (2 : Int32)) (lv' := [(5, .int (2 : Int32)), (3, .long (cf_X4_greyIfWhite x3 (cf_X4_inRoot x1 (1 : Int32)))), (0, .ref q1), (1, .long x1)]) hx hb dX1_end_65 hl (k := 3) rfl (by decide +kernel) (by decide) rfl (fun ls hl => ?_)
      refine lv_goto (tgt := 42) hx hb dX1_end_68 (by decide) ?_
      exact K42_2 x1 (cf_X4_greyIfWhite x3 (cf_X4_inRoot x1 (1 : Int32))) ls (lv_sub hl [2, 3, 1, 0] rfl) hR
  have K42_0 : ∀ (x1 : Int64) (x3 : Int64) (ls : Array Slot), lv_has ls 6 [(0, .ref q1), (1, .long x1), (3, .long x3), (5, .int (0 : Int32))] → cf_X1_end_s42_0 w_o w_f w_r w_b w_a w_l x1 x3 = R → W p l e (headSpec wsX1_end ({ frames := 2, cells := 0, slots := 0, locals := 42 })).room s m ([.ref q1, .long a0] : List Value).toArray below meth c s.heap [] 0 0 (MQ below (rd_Q (some (.long R))) ([.ref q1, .long a0] : List Value).toArray s 0 0 (fun _ => False)) (F0 m 42 ls []) := by
    intro x1 x3 ls hl hR
    unfold cf_X1_end_s42_0 at hR
    refine lv_iload hx hb dX1_end_42 (lv_at hl 3 rfl) ?_
    refine lv_aload_n hx hb dX1_end_44 rfl (lv_at hl 0 rfl) ?_
    refine va_get (D := (dC, dI)) (ci := 0) (v := .ref q3) (C := RX1) (T := TX1) (N := 1) hx hb hts h1_ hown hK hP 0 rfl rfl 0 (by decide) h0_ (fun _ h9 => h9) rfl dX1_end_45 ?_
    refine va_get (D := (dC, dI)) (ci := 2) (v := .int w_r) (C := RX3) (T := TX3) (N := 6) hx hb hts h3_ hown hK hP 1 rfl rfl 2 (by decide) h2_ (fun _ h9 => h9) rfl dX1_end_48 ?_
    refine lv_icmp_ge (tgt := 71) hx hb dX1_end_51 (by decide) (fun c_5 => ?_) (fun c_5 => ?_)
    · rw [if_pos c_5] at hR
      exact K71 x1 x3 ls (lv_sub hl [1, 2] rfl) hR
    · rw [if_neg c_5] at hR
      refine lv_lload_n hx hb dX1_end_54 rfl (lv_at hl 2 rfl) ?_
      refine lv_lload_n hx hb dX1_end_55 rfl (lv_at hl 1 rfl) ?_
      refine lv_iload hx hb dX1_end_56 (lv_at hl 3 rfl) ?_
      refine rd_calli (va_runS (As := [.long x1, .int (0 : Int32)]) (rest := [.long x3]) ⟨hx, hb, hml, hown, hts⟩ (c_X4_inRoot l x1 (0 : Int32)) (va_cwS 2 hts gX1_end_X4_inRoot rfl rfl rfl (by decide +kernel) ⟨Nat.le_of_ble_eq_true rfl, Nat.le_of_ble_eq_true rfl⟩) ⟨pu_blind, fun U hU hW => rfl⟩ rfl rfl hl.1 rfl (lv_room (Nat.le_of_ble_eq_true rfl)) dX1_end_58 ⟨Nat.le_refl _, Nat.le_refl _⟩) ?_
      refine rd_calll (va_runS (As := [.long x3, .int (cf_X4_inRoot x1 (0 : Int32))]) (rest := []) ⟨hx, hb, hml, hown, hts⟩ (c_X4_greyIfWhite l x3 (cf_X4_inRoot x1 (0 : Int32))) (va_cwS 2 hts gX1_end_X4_greyIfWhite rfl rfl rfl (by decide +kernel) ⟨Nat.le_of_ble_eq_true rfl, Nat.le_of_ble_eq_true rfl⟩) ⟨pu_blind, fun U hU hW => rfl⟩ rfl rfl hl.1 rfl (lv_room (Nat.le_of_ble_eq_true rfl)) dX1_end_61 ⟨Nat.le_refl _, Nat.le_refl _⟩) ?_
      refine lv_lstore_n (lv' := [(3, .long (cf_X4_greyIfWhite x3 (cf_X4_inRoot x1 (0 : Int32)))), (0, .ref q1), (1, .long x1), (5, .int (0 : Int32))]) hx hb dX1_end_64 rfl hl (by decide) rfl (fun ls hl => ?_)
      refine lv_iinc (v := (1 : Int32)) (lv' := [(5, .int (1 : Int32)), (3, .long (cf_X4_greyIfWhite x3 (cf_X4_inRoot x1 (0 : Int32)))), (0, .ref q1), (1, .long x1)]) hx hb dX1_end_65 hl (k := 3) rfl (by decide +kernel) (by decide) rfl (fun ls hl => ?_)
      refine lv_goto (tgt := 42) hx hb dX1_end_68 (by decide) ?_
      exact K42_1 x1 (cf_X4_greyIfWhite x3 (cf_X4_inRoot x1 (0 : Int32))) ls (lv_sub hl [2, 3, 1, 0] rfl) hR
  have hl := lv_entry ([.ref q1, .long a0]) (n := 6) (Nat.le_of_ble_eq_true rfl)
  rw [lg_entry_eq]
  generalize (lg_sl ([.ref q1, .long a0]) ++ List.replicate (6 - (lg_sl ([.ref q1, .long a0])).length) Slot.unset).toArray = ls at hl ⊢
  have hl : lv_has ls 6 [(0, .ref q1), (1, .long a0)] := hl
  unfold cf_X1_end at hR
  refine lv_lload_n hx hb dX1_end_0 rfl (lv_at hl 1 rfl) ?_
  refine rd_calli (va_runS (As := [.long a0]) (rest := []) ⟨hx, hb, hml, hown, hts⟩ (c_X4_rootsLookedAt l a0) (va_cwS 1 hts gX1_end_X4_rootsLookedAt rfl rfl rfl (by decide +kernel) ⟨Nat.le_of_ble_eq_true rfl, Nat.le_of_ble_eq_true rfl⟩) ⟨pu_blind, fun U hU hW => rfl⟩ rfl rfl hl.1 rfl (lv_room (Nat.le_of_ble_eq_true rfl)) dX1_end_1 ⟨Nat.le_refl _, Nat.le_refl _⟩) ?_
  refine lv_aload_n hx hb dX1_end_4 rfl (lv_at hl 0 rfl) ?_
  refine va_get (D := (dC, dI)) (ci := 0) (v := .ref q3) (C := RX1) (T := TX1) (N := 1) hx hb hts h1_ hown hK hP 0 rfl rfl 0 (by decide) h0_ (fun _ h9 => h9) rfl dX1_end_5 ?_
  refine va_get (D := (dC, dI)) (ci := 2) (v := .int w_r) (C := RX3) (T := TX3) (N := 6) hx hb hts h3_ hown hK hP 1 rfl rfl 2 (by decide) h2_ (fun _ h9 => h9) rfl dX1_end_8 ?_
  refine lv_icmp_lt (tgt := 21) hx hb dX1_end_11 (by decide) (fun c_1 => ?_) (fun c_1 => ?_)
  · rw [if_pos c_1] at hR
    exact K21  ls (lv_sub hl [] rfl) hR
  · rw [if_neg c_1] at hR
    refine lv_lload_n hx hb dX1_end_14 rfl (lv_at hl 1 rfl) ?_
    refine rd_calli (va_runS (As := [.long a0]) (rest := []) ⟨hx, hb, hml, hown, hts⟩ (c_X4_greys l a0) (va_cwS 1 hts gX1_end_X4_greys rfl rfl rfl (by decide +kernel) ⟨Nat.le_of_ble_eq_true rfl, Nat.le_of_ble_eq_true rfl⟩) ⟨pu_blind, fun U hU hW => rfl⟩ rfl rfl hl.1 rfl (lv_room (Nat.le_of_ble_eq_true rfl)) dX1_end_15 ⟨Nat.le_refl _, Nat.le_refl _⟩) ?_
    refine lv_if_eq (tgt := 25) hx hb dX1_end_18 (by decide) (fun c_2 => ?_) (fun c_2 => ?_)
    · rw [if_pos c_2] at hR
      refine lv_lload_n hx hb dX1_end_25 rfl (lv_at hl 1 rfl) ?_
      refine lv_lstore_n (lv' := [(3, .long a0), (0, .ref q1), (1, .long a0)]) hx hb dX1_end_26 rfl hl (by decide) rfl (fun ls hl => ?_)
      refine lv_aload_n hx hb dX1_end_27 rfl (lv_at hl 1 rfl) ?_
      refine va_get (D := (dC, dI)) (ci := 0) (v := .ref q3) (C := RX1) (T := TX1) (N := 1) hx hb hts h1_ hown hK hP 0 rfl rfl 0 (by decide) h0_ (fun _ h9 => h9) rfl dX1_end_28 ?_
      refine lv_bipush (v := (32 : Int32)) hx hb dX1_end_31 (by decide +kernel) ?_
      refine rd_calli (va_runV (As := [.int (32 : Int32)]) (rest := []) ⟨hx, hb, hml, hown, hts⟩ (c_X3_hasBarrier l dC dI q3 w_o w_f w_r w_b w_a w_l (32 : Int32) ) (cwV 1 hts gX1_end_X3_hasBarrier rfl rfl rfl (by decide +kernel) ⟨Nat.le_of_ble_eq_true rfl, Nat.le_of_ble_eq_true rfl⟩) ⟨rd_blind, va_recv hK hP (ci := 2) (q0 := 1) rfl rfl, fun U hU hW => ⟨rfl, by rw [hU]; exact (hP.sub (ws' := [(q3, .inr (2, [.int w_o, .int w_f, .int w_r, .int w_b, .int w_a, .long w_l]))]) [1] rfl), va_K.moved hW.alike hK⟩⟩ rfl rfl hl.1 rfl (lv_room (Nat.le_of_ble_eq_true rfl)) dX1_end_33 ⟨Nat.le_refl _, Nat.le_refl _⟩) ?_
      refine lv_if_eq (tgt := 71) hx hb dX1_end_36 (by decide) (fun c_3 => ?_) (fun c_3 => ?_)
      · rw [if_pos c_3] at hR
        exact K71 a0 a0 ls (lv_sub hl [2, 0] rfl) hR
      · rw [if_neg c_3] at hR
        refine lv_iconst (v := (0 : Int32)) hx hb dX1_end_39 (by decide +kernel) ?_
        refine lv_istore (lv' := [(5, .int (0 : Int32)), (3, .long a0), (0, .ref q1), (1, .long a0)]) hx hb dX1_end_40 hl (by decide) rfl (fun ls hl => ?_)
        exact K42_0 a0 a0 ls (lv_sub hl [2, 3, 1, 0] rfl) hR
    · rw [if_neg c_2] at hR
      exact K21  ls (lv_sub hl [] rfl) hR
def cf_X1_lastActToTry_s19 (w_o w_f w_r w_b w_a : Int32) (w_l : Int64)  : Int32 :=
  (1 : Int32)
def cf_X1_lastActToTry (w_o w_f w_r w_b w_a : Int32) (w_l : Int64) (a0 : Int64) : Int32 :=
  (if (cf_X4_actsLeft a0) ≤ 0 then cf_X1_lastActToTry_s19 w_o w_f w_r w_b w_a w_l  else (if (cf_X4_isOver a0) = 0 then (49 : Int32) else cf_X1_lastActToTry_s19 w_o w_f w_r w_b w_a w_l ))
set_option maxHeartbeats 4000000 in
set_option maxRecDepth 100000 in
theorem c_X1_lastActToTry (l : Launch) (dC : Nat → ClassId) (dI : Nat → Nat → Nat) (q1 q3 : Nat) (w_o w_f w_r w_b w_a : Int32) (w_l : Int64) (a0 : Int64)  : Met l yX1_lastActToTry wsX1_lastActToTry ({ frames := 1, cells := 0, slots := 0, locals := 21 }) (rd_P [.ref q1, .long a0] (dC, dI) kcl [(q1, .inr (0, [.ref q3])), (q3, .inr (2, [.int w_o, .int w_f, .int w_r, .int w_b, .int w_a, .long w_l]))] []) (rd_Q (some (.int (cf_X1_lastActToTry w_o w_f w_r w_b w_a w_l a0)))) 0 0 (fun _ => False) := by
  refine Met.ofW (cc := cX1_lastActToTry) (maxL := 3) (ret := (some .int)) (by decide) rfl ?_
  intro p e s m args below meth c s₁ B hml hv
  obtain ⟨rfl, hP, hK⟩ := hv
  have hx := B.exec
  have hb := B.bytes
  have hr := B.returns
  have hts := atoms_spec (ws := wsX1_lastActToTry) B.pre
  have hown : s.vm.findClass RX1 = some m.cls := findClass_of_methodNamed B.named
  have hlocks := B.notSynchronized
  have hP : va_P (dC, dI) kcl [(q1, .inr (0, [.ref q3])), (q3, .inr (2, [.int w_o, .int w_f, .int w_r, .int w_b, .int w_a, .long w_l]))] s.heap := hP
  generalize hR : cf_X1_lastActToTry w_o w_f w_r w_b w_a w_l a0 = R
  have K19 : ∀  (ls : Array Slot), lv_has ls 3 [] → cf_X1_lastActToTry_s19 w_o w_f w_r w_b w_a w_l  = R → W p l e (headSpec wsX1_lastActToTry ({ frames := 1, cells := 0, slots := 0, locals := 21 })).room s m ([.ref q1, .long a0] : List Value).toArray below meth c s.heap [] 0 0 (MQ below (rd_Q (some (.int R))) ([.ref q1, .long a0] : List Value).toArray s 0 0 (fun _ => False)) (F0 m 19 ls []) := by
    intro  ls hl hR
    unfold cf_X1_lastActToTry_s19 at hR
    refine lv_iconst (v := (1 : Int32)) hx hb dX1_lastActToTry_19 (by decide +kernel) ?_
    exact W.iret (v := (1 : Int32)) hx hb hr (fun t ht _ => ⟨congrArg (fun z => Outcome.returned (some (Value.int z))) hR, ht⟩) t_nil dX1_lastActToTry_20
  have hl := lv_entry ([.ref q1, .long a0]) (n := 3) (Nat.le_of_ble_eq_true rfl)
  rw [lg_entry_eq]
  generalize (lg_sl ([.ref q1, .long a0]) ++ List.replicate (3 - (lg_sl ([.ref q1, .long a0])).length) Slot.unset).toArray = ls at hl ⊢
  have hl : lv_has ls 3 [(0, .ref q1), (1, .long a0)] := hl
  unfold cf_X1_lastActToTry at hR
  refine lv_lload_n hx hb dX1_lastActToTry_0 rfl (lv_at hl 1 rfl) ?_
  refine rd_calli (va_runS (As := [.long a0]) (rest := []) ⟨hx, hb, hml, hown, hts⟩ (c_X4_actsLeft l a0) (va_cwS 1 hts gX1_lastActToTry_X4_actsLeft rfl rfl rfl (by decide +kernel) ⟨Nat.le_of_ble_eq_true rfl, Nat.le_of_ble_eq_true rfl⟩) ⟨pu_blind, fun U hU hW => rfl⟩ rfl rfl hl.1 rfl (lv_room (Nat.le_of_ble_eq_true rfl)) dX1_lastActToTry_1 ⟨Nat.le_refl _, Nat.le_refl _⟩) ?_
  refine lv_if_le (tgt := 19) hx hb dX1_lastActToTry_4 (by decide) (fun c_1 => ?_) (fun c_1 => ?_)
  · rw [if_pos c_1] at hR
    exact K19  ls (lv_sub hl [] rfl) hR
  · rw [if_neg c_1] at hR
    refine lv_lload_n hx hb dX1_lastActToTry_7 rfl (lv_at hl 1 rfl) ?_
    refine rd_calli (va_runS (As := [.long a0]) (rest := []) ⟨hx, hb, hml, hown, hts⟩ (c_X4_isOver l a0) (va_cwS 1 hts gX1_lastActToTry_X4_isOver rfl rfl rfl (by decide +kernel) ⟨Nat.le_of_ble_eq_true rfl, Nat.le_of_ble_eq_true rfl⟩) ⟨pu_blind, fun U hU hW => rfl⟩ rfl rfl hl.1 rfl (lv_room (Nat.le_of_ble_eq_true rfl)) dX1_lastActToTry_8 ⟨Nat.le_refl _, Nat.le_refl _⟩) ?_
    refine lv_if_ne (tgt := 19) hx hb dX1_lastActToTry_11 (by decide) (fun c_2 => ?_) (fun c_2 => ?_)
    · rw [if_neg c_2] at hR
      exact K19  ls (lv_sub hl [] rfl) hR
    · rw [if_pos c_2] at hR
      refine lv_bipush (v := (49 : Int32)) hx hb dX1_lastActToTry_14 (by decide +kernel) ?_
      refine lv_goto (tgt := 20) hx hb dX1_lastActToTry_16 (by decide) ?_
      exact W.iret (v := (49 : Int32)) hx hb hr (fun t ht _ => ⟨congrArg (fun z => Outcome.returned (some (Value.int z))) hR, ht⟩) t_nil dX1_lastActToTry_20
def cf_X1_behind (w_o w_f w_r w_b w_a : Int32) (w_l : Int64) (a0 : Int64) (a1 : Int32) : Int64 :=
  (if (cf_X4_isOver a0) = 0 then (if a1 = 0 then (cf_X1_look w_o w_f w_r w_b w_a w_l a0) else (if a1 = (1 : Int32) then (cf_X1_end w_o w_f w_r w_b w_a w_l a0) else (if (cf_X4_actsLeft a0) = 0 then (-1 : Int64) else (if (11 : Int32) ≤ a1 then (if (29 : Int32) ≤ a1 then (if (47 : Int32) ≤ a1 then (cf_X1_clear w_o w_f w_r w_b w_a w_l (cf_X4_withActsLeft a0 ((cf_X4_actsLeft a0) - (1 : Int32))) (a1 - (47 : Int32))) else (cf_X1_store w_o w_f w_r w_b w_a w_l (cf_X4_withActsLeft a0 ((cf_X4_actsLeft a0) - (1 : Int32))) ((a1 - (29 : Int32)) / (6 : Int32)) (((a1 - (29 : Int32)) / (2 : Int32)) - ((a1 - (29 : Int32)) / (2 : Int32)) / (3 : Int32) * (3 : Int32)) ((a1 - (29 : Int32)) - (a1 - (29 : Int32)) / (2 : Int32) * (2 : Int32)))) else (cf_X1_load w_o w_f w_r w_b w_a w_l (cf_X4_withActsLeft a0 ((cf_X4_actsLeft a0) - (1 : Int32))) ((a1 - (11 : Int32)) / (6 : Int32)) (((a1 - (11 : Int32)) / (2 : Int32)) - ((a1 - (11 : Int32)) / (2 : Int32)) / (3 : Int32) * (3 : Int32)) ((a1 - (11 : Int32)) - (a1 - (11 : Int32)) / (2 : Int32) * (2 : Int32)))) else (cf_X1_copy w_o w_f w_r w_b w_a w_l (cf_X4_withActsLeft a0 ((cf_X4_actsLeft a0) - (1 : Int32))) ((a1 - (2 : Int32)) / (3 : Int32)) ((a1 - (2 : Int32)) - (a1 - (2 : Int32)) / (3 : Int32) * (3 : Int32))))))) else (-1 : Int64))
set_option maxHeartbeats 4000000 in
set_option maxRecDepth 100000 in
theorem c_X1_behind (l : Launch) (dC : Nat → ClassId) (dI : Nat → Nat → Nat) (q1 q3 : Nat) (w_o w_f w_r w_b w_a : Int32) (w_l : Int64) (a0 : Int64) (a1 : Int32) (hw_r : w_r ≤ 3) : Met l yX1_behind wsX1_behind ({ frames := 4, cells := 0, slots := 0, locals := 96 }) (rd_P [.ref q1, .long a0, .int a1] (dC, dI) kcl [(q1, .inr (0, [.ref q3])), (q3, .inr (2, [.int w_o, .int w_f, .int w_r, .int w_b, .int w_a, .long w_l]))] []) (rd_Q (some (.long (cf_X1_behind w_o w_f w_r w_b w_a w_l a0 a1)))) 0 0 (fun _ => False) := by
  refine Met.ofW (cc := cX1_behind) (maxL := 8) (ret := (some .long)) (by decide) rfl ?_
  intro p e s m args below meth c s₁ B hml hv
  obtain ⟨rfl, hP, hK⟩ := hv
  have hx := B.exec
  have hb := B.bytes
  have hr := B.returns
  have hts := atoms_spec (ws := wsX1_behind) B.pre
  have hown : s.vm.findClass RX1 = some m.cls := findClass_of_methodNamed B.named
  have hlocks := B.notSynchronized
  have hP : va_P (dC, dI) kcl [(q1, .inr (0, [.ref q3])), (q3, .inr (2, [.int w_o, .int w_f, .int w_r, .int w_b, .int w_a, .long w_l]))] s.heap := hP
  have h0_ : (Cond.constantLong RX1 23 (-1)).before _ s = true := hts _ (by decide +kernel)
  generalize hR : cf_X1_behind w_o w_f w_r w_b w_a w_l a0 a1 = R
  have hl := lv_entry ([.ref q1, .long a0, .int a1]) (n := 8) (Nat.le_of_ble_eq_true rfl)
  rw [lg_entry_eq]
  generalize (lg_sl ([.ref q1, .long a0, .int a1]) ++ List.replicate (8 - (lg_sl ([.ref q1, .long a0, .int a1])).length) Slot.unset).toArray = ls at hl ⊢
  have hl : lv_has ls 8 [(0, .ref q1), (1, .long a0), (3, .int a1)] := hl
  unfold cf_X1_behind at hR
  refine lv_lload_n hx hb dX1_behind_0 rfl (lv_at hl 1 rfl) ?_
  refine rd_calli (va_runS (As := [.long a0]) (rest := []) ⟨hx, hb, hml, hown, hts⟩ (c_X4_isOver l a0) (va_cwS 1 hts gX1_behind_X4_isOver rfl rfl rfl (by decide +kernel) ⟨Nat.le_of_ble_eq_true rfl, Nat.le_of_ble_eq_true rfl⟩) ⟨pu_blind, fun U hU hW => rfl⟩ rfl rfl hl.1 rfl (lv_room (Nat.le_of_ble_eq_true rfl)) dX1_behind_1 ⟨Nat.le_refl _, Nat.le_refl _⟩) ?_
  refine lv_if_eq (tgt := 11) hx hb dX1_behind_4 (by decide) (fun c_1 => ?_) (fun c_1 => ?_)
  · rw [if_pos c_1] at hR
    refine lv_iload_n hx hb dX1_behind_11 rfl (lv_at hl 2 rfl) ?_
    refine lv_if_ne (tgt := 21) hx hb dX1_behind_12 (by decide) (fun c_2 => ?_) (fun c_2 => ?_)
    · rw [if_neg c_2] at hR
      refine lv_iload_n hx hb dX1_behind_21 rfl (lv_at hl 2 rfl) ?_
      refine lv_iconst (v := (1 : Int32)) hx hb dX1_behind_22 (by decide +kernel) ?_
      refine lv_icmp_ne (tgt := 32) hx hb dX1_behind_23 (by decide) (fun c_3 => ?_) (fun c_3 => ?_)
      · rw [if_neg c_3] at hR
        refine lv_lload_n hx hb dX1_behind_32 rfl (lv_at hl 1 rfl) ?_
        refine rd_calli (va_runS (As := [.long a0]) (rest := []) ⟨hx, hb, hml, hown, hts⟩ (c_X4_actsLeft l a0) (va_cwS 1 hts gX1_behind_X4_actsLeft rfl rfl rfl (by decide +kernel) ⟨Nat.le_of_ble_eq_true rfl, Nat.le_of_ble_eq_true rfl⟩) ⟨pu_blind, fun U hU hW => rfl⟩ rfl rfl hl.1 rfl (lv_room (Nat.le_of_ble_eq_true rfl)) dX1_behind_33 ⟨Nat.le_refl _, Nat.le_refl _⟩) ?_
        refine lv_istore (lv' := [(4, .int (cf_X4_actsLeft a0)), (0, .ref q1), (1, .long a0), (3, .int a1)]) hx hb dX1_behind_36 hl (by decide) rfl (fun ls hl => ?_)
        refine lv_iload hx hb dX1_behind_38 (lv_at hl 0 rfl) ?_
        refine lv_if_ne (tgt := 47) hx hb dX1_behind_40 (by decide) (fun c_4 => ?_) (fun c_4 => ?_)
        · rw [if_neg c_4] at hR
          refine lv_lload_n hx hb dX1_behind_47 rfl (lv_at hl 2 rfl) ?_
          refine lv_iload hx hb dX1_behind_48 (lv_at hl 0 rfl) ?_
          refine lv_iconst (v := (1 : Int32)) hx hb dX1_behind_50 (by decide +kernel) ?_
          refine lv_isub hx hb dX1_behind_51 ?_
          refine rd_calll (va_runS (As := [.long a0, .int ((cf_X4_actsLeft a0) - (1 : Int32))]) (rest := []) ⟨hx, hb, hml, hown, hts⟩ (c_X4_withActsLeft l a0 ((cf_X4_actsLeft a0) - (1 : Int32))) (va_cwS 2 hts gX1_behind_X4_withActsLeft rfl rfl rfl (by decide +kernel) ⟨Nat.le_of_ble_eq_true rfl, Nat.le_of_ble_eq_true rfl⟩) ⟨pu_blind, fun U hU hW => rfl⟩ rfl rfl hl.1 rfl (lv_room (Nat.le_of_ble_eq_true rfl)) dX1_behind_52 ⟨Nat.le_refl _, Nat.le_refl _⟩) ?_
          refine lv_lstore (lv' := [(5, .long (cf_X4_withActsLeft a0 ((cf_X4_actsLeft a0) - (1 : Int32)))), (4, .int (cf_X4_actsLeft a0)), (0, .ref q1), (1, .long a0), (3, .int a1)]) hx hb dX1_behind_55 hl (by decide) rfl (fun ls hl => ?_)
          refine lv_iload_n hx hb dX1_behind_57 rfl (lv_at hl 4 rfl) ?_
          refine lv_bipush (v := (11 : Int32)) hx hb dX1_behind_58 (by decide +kernel) ?_
          refine lv_icmp_ge (tgt := 83) hx hb dX1_behind_60 (by decide) (fun c_5 => ?_) (fun c_5 => ?_)
          · rw [if_pos c_5] at hR
            refine lv_iload_n hx hb dX1_behind_83 rfl (lv_at hl 4 rfl) ?_
            refine lv_bipush (v := (29 : Int32)) hx hb dX1_behind_84 (by decide +kernel) ?_
            refine lv_icmp_ge (tgt := 117) hx hb dX1_behind_86 (by decide) (fun c_6 => ?_) (fun c_6 => ?_)
            · rw [if_pos c_6] at hR
              refine lv_iload_n hx hb dX1_behind_117 rfl (lv_at hl 4 rfl) ?_
              refine lv_bipush (v := (47 : Int32)) hx hb dX1_behind_118 (by decide +kernel) ?_
              refine lv_icmp_ge (tgt := 151) hx hb dX1_behind_120 (by decide) (fun c_7 => ?_) (fun c_7 => ?_)
              · rw [if_pos c_7] at hR
                refine lv_aload_n hx hb dX1_behind_151 rfl (lv_at hl 2 rfl) ?_
                refine lv_lload hx hb dX1_behind_152 (lv_at hl 0 rfl) ?_
                refine lv_iload_n hx hb dX1_behind_154 rfl (lv_at hl 4 rfl) ?_
                refine lv_bipush (v := (47 : Int32)) hx hb dX1_behind_155 (by decide +kernel) ?_
                refine lv_isub hx hb dX1_behind_157 ?_
                refine rd_calll (va_runV (As := [.long (cf_X4_withActsLeft a0 ((cf_X4_actsLeft a0) - (1 : Int32))), .int (a1 - (47 : Int32))]) (rest := []) ⟨hx, hb, hml, hown, hts⟩ (c_X1_clear l dC dI q1 q3 w_o w_f w_r w_b w_a w_l (cf_X4_withActsLeft a0 ((cf_X4_actsLeft a0) - (1 : Int32))) (a1 - (47 : Int32)) ) (cwV 2 hts gX1_behind_X1_clear rfl rfl rfl (by decide +kernel) ⟨Nat.le_of_ble_eq_true rfl, Nat.le_of_ble_eq_true rfl⟩) ⟨rd_blind, va_recv hK hP (ci := 0) (q0 := 0) rfl rfl, fun U hU hW => ⟨rfl, by rw [hU]; exact hP, va_K.moved hW.alike hK⟩⟩ rfl rfl hl.1 rfl (lv_room (Nat.le_of_ble_eq_true rfl)) dX1_behind_158 ⟨Nat.le_refl _, Nat.le_refl _⟩) ?_
                exact W.lret (v := (cf_X1_clear w_o w_f w_r w_b w_a w_l (cf_X4_withActsLeft a0 ((cf_X4_actsLeft a0) - (1 : Int32))) (a1 - (47 : Int32)))) hx hb hr (fun t ht _ => ⟨congrArg (fun z => Outcome.returned (some (Value.long z))) hR, ht⟩) t_nil dX1_behind_161
              · rw [if_neg c_7] at hR
                refine lv_iload_n hx hb dX1_behind_123 rfl (lv_at hl 4 rfl) ?_
                refine lv_bipush (v := (29 : Int32)) hx hb dX1_behind_124 (by decide +kernel) ?_
                refine lv_isub hx hb dX1_behind_126 ?_
                refine lv_istore (lv' := [(7, .int (a1 - (29 : Int32))), (5, .long (cf_X4_withActsLeft a0 ((cf_X4_actsLeft a0) - (1 : Int32)))), (4, .int (cf_X4_actsLeft a0)), (0, .ref q1), (1, .long a0), (3, .int a1)]) hx hb dX1_behind_127 hl (by decide) rfl (fun ls hl => ?_)
                refine lv_aload_n hx hb dX1_behind_129 rfl (lv_at hl 3 rfl) ?_
                refine lv_lload hx hb dX1_behind_130 (lv_at hl 1 rfl) ?_
                refine lv_iload hx hb dX1_behind_132 (lv_at hl 0 rfl) ?_
                refine lv_bipush (v := (6 : Int32)) hx hb dX1_behind_134 (by decide +kernel) ?_
                refine lv_idiv hx hb dX1_behind_136 (by decide +kernel) ?_
                refine lv_iload hx hb dX1_behind_137 (lv_at hl 0 rfl) ?_
                refine lv_iconst (v := (2 : Int32)) hx hb dX1_behind_139 (by decide +kernel) ?_
                refine lv_idiv hx hb dX1_behind_140 (by decide +kernel) ?_
                refine lv_iconst (v := (3 : Int32)) hx hb dX1_behind_141 (by decide +kernel) ?_
                refine lv_irem hx hb dX1_behind_142 (by decide +kernel) ?_
                refine lv_iload hx hb dX1_behind_143 (lv_at hl 0 rfl) ?_
                refine lv_iconst (v := (2 : Int32)) hx hb dX1_behind_145 (by decide +kernel) ?_
                refine lv_irem hx hb dX1_behind_146 (by decide +kernel) ?_
                refine rd_calll (va_runV (As := [.long (cf_X4_withActsLeft a0 ((cf_X4_actsLeft a0) - (1 : Int32))), .int ((a1 - (29 : Int32)) / (6 : Int32)), .int (((a1 - (29 : Int32)) / (2 : Int32)) - ((a1 - (29 : Int32)) / (2 : Int32)) / (3 : Int32) * (3 : Int32)), .int ((a1 - (29 : Int32)) - (a1 - (29 : Int32)) / (2 : Int32) * (2 : Int32))]) (rest := []) ⟨hx, hb, hml, hown, hts⟩ (c_X1_store l dC dI q1 q3 w_o w_f w_r w_b w_a w_l (cf_X4_withActsLeft a0 ((cf_X4_actsLeft a0) - (1 : Int32))) ((a1 - (29 : Int32)) / (6 : Int32)) (((a1 - (29 : Int32)) / (2 : Int32)) - ((a1 - (29 : Int32)) / (2 : Int32)) / (3 : Int32) * (3 : Int32)) ((a1 - (29 : Int32)) - (a1 - (29 : Int32)) / (2 : Int32) * (2 : Int32)) ) (cwV 4 hts gX1_behind_X1_store rfl rfl rfl (by decide +kernel) ⟨Nat.le_of_ble_eq_true rfl, Nat.le_of_ble_eq_true rfl⟩) ⟨rd_blind, va_recv hK hP (ci := 0) (q0 := 0) rfl rfl, fun U hU hW => ⟨rfl, by rw [hU]; exact hP, va_K.moved hW.alike hK⟩⟩ rfl rfl hl.1 rfl (lv_room (Nat.le_of_ble_eq_true rfl)) dX1_behind_147 ⟨Nat.le_refl _, Nat.le_refl _⟩) ?_
                exact W.lret (v := (cf_X1_store w_o w_f w_r w_b w_a w_l (cf_X4_withActsLeft a0 ((cf_X4_actsLeft a0) - (1 : Int32))) ((a1 - (29 : Int32)) / (6 : Int32)) (((a1 - (29 : Int32)) / (2 : Int32)) - ((a1 - (29 : Int32)) / (2 : Int32)) / (3 : Int32) * (3 : Int32)) ((a1 - (29 : Int32)) - (a1 - (29 : Int32)) / (2 : Int32) * (2 : Int32)))) hx hb hr (fun t ht _ => ⟨congrArg (fun z => Outcome.returned (some (Value.long z))) hR, ht⟩) t_nil dX1_behind_150
            · rw [if_neg c_6] at hR
              refine lv_iload_n hx hb dX1_behind_89 rfl (lv_at hl 4 rfl) ?_
              refine lv_bipush (v := (11 : Int32)) hx hb dX1_behind_90 (by decide +kernel) ?_
              refine lv_isub hx hb dX1_behind_92 ?_
              refine lv_istore (lv' := [(7, .int (a1 - (11 : Int32))), (5, .long (cf_X4_withActsLeft a0 ((cf_X4_actsLeft a0) - (1 : Int32)))), (4, .int (cf_X4_actsLeft a0)), (0, .ref q1), (1, .long a0), (3, .int a1)]) hx hb dX1_behind_93 hl (by decide) rfl (fun ls hl => ?_)
              refine lv_aload_n hx hb dX1_behind_95 rfl (lv_at hl 3 rfl) ?_
              refine lv_lload hx hb dX1_behind_96 (lv_at hl 1 rfl) ?_
              refine lv_iload hx hb dX1_behind_98 (lv_at hl 0 rfl) ?_
              refine lv_bipush (v := (6 : Int32)) hx hb dX1_behind_100 (by decide +kernel) ?_
              refine lv_idiv hx hb dX1_behind_102 (by decide +kernel) ?_
              refine lv_iload hx hb dX1_behind_103 (lv_at hl 0 rfl) ?_
              refine lv_iconst (v := (2 : Int32)) hx hb dX1_behind_105 (by decide +kernel) ?_
              refine lv_idiv hx hb dX1_behind_106 (by decide +kernel) ?_
              refine lv_iconst (v := (3 : Int32)) hx hb dX1_behind_107 (by decide +kernel) ?_
              refine lv_irem hx hb dX1_behind_108 (by decide +kernel) ?_
              refine lv_iload hx hb dX1_behind_109 (lv_at hl 0 rfl) ?_
              refine lv_iconst (v := (2 : Int32)) hx hb dX1_behind_111 (by decide +kernel) ?_
              refine lv_irem hx hb dX1_behind_112 (by decide +kernel) ?_
              refine rd_calll (va_runV (As := [.long (cf_X4_withActsLeft a0 ((cf_X4_actsLeft a0) - (1 : Int32))), .int ((a1 - (11 : Int32)) / (6 : Int32)), .int (((a1 - (11 : Int32)) / (2 : Int32)) - ((a1 - (11 : Int32)) / (2 : Int32)) / (3 : Int32) * (3 : Int32)), .int ((a1 - (11 : Int32)) - (a1 - (11 : Int32)) / (2 : Int32) * (2 : Int32))]) (rest := []) ⟨hx, hb, hml, hown, hts⟩ (c_X1_load l dC dI q1 q3 w_o w_f w_r w_b w_a w_l (cf_X4_withActsLeft a0 ((cf_X4_actsLeft a0) - (1 : Int32))) ((a1 - (11 : Int32)) / (6 : Int32)) (((a1 - (11 : Int32)) / (2 : Int32)) - ((a1 - (11 : Int32)) / (2 : Int32)) / (3 : Int32) * (3 : Int32)) ((a1 - (11 : Int32)) - (a1 - (11 : Int32)) / (2 : Int32) * (2 : Int32)) ) (cwV 4 hts gX1_behind_X1_load rfl rfl rfl (by decide +kernel) ⟨Nat.le_of_ble_eq_true rfl, Nat.le_of_ble_eq_true rfl⟩) ⟨rd_blind, va_recv hK hP (ci := 0) (q0 := 0) rfl rfl, fun U hU hW => ⟨rfl, by rw [hU]; exact hP, va_K.moved hW.alike hK⟩⟩ rfl rfl hl.1 rfl (lv_room (Nat.le_of_ble_eq_true rfl)) dX1_behind_113 ⟨Nat.le_refl _, Nat.le_refl _⟩) ?_
              exact W.lret (v := (cf_X1_load w_o w_f w_r w_b w_a w_l (cf_X4_withActsLeft a0 ((cf_X4_actsLeft a0) - (1 : Int32))) ((a1 - (11 : Int32)) / (6 : Int32)) (((a1 - (11 : Int32)) / (2 : Int32)) - ((a1 - (11 : Int32)) / (2 : Int32)) / (3 : Int32) * (3 : Int32)) ((a1 - (11 : Int32)) - (a1 - (11 : Int32)) / (2 : Int32) * (2 : Int32)))) hx hb hr (fun t ht _ => ⟨congrArg (fun z => Outcome.returned (some (Value.long z))) hR, ht⟩) t_nil dX1_behind_116
          · rw [if_neg c_5] at hR
            refine lv_iload_n hx hb dX1_behind_63 rfl (lv_at hl 4 rfl) ?_
            refine lv_iconst (v := (2 : Int32)) hx hb dX1_behind_64 (by decide +kernel) ?_
            refine lv_isub hx hb dX1_behind_65 ?_
            refine lv_istore (lv' := [(7, .int (a1 - (2 : Int32))), (5, .long (cf_X4_withActsLeft a0 ((cf_X4_actsLeft a0) - (1 : Int32)))), (4, .int (cf_X4_actsLeft a0)), (0, .ref q1), (1, .long a0), (3, .int a1)]) hx hb dX1_behind_66 hl (by decide) rfl (fun ls hl => ?_)
            refine lv_aload_n hx hb dX1_behind_68 rfl (lv_at hl 3 rfl) ?_
            refine lv_lload hx hb dX1_behind_69 (lv_at hl 1 rfl) ?_
            refine lv_iload hx hb dX1_behind_71 (lv_at hl 0 rfl) ?_
            refine lv_iconst (v := (3 : Int32)) hx hb dX1_behind_73 (by decide +kernel) ?_
            refine lv_idiv hx hb dX1_behind_74 (by decide +kernel) ?_
            refine lv_iload hx hb dX1_behind_75 (lv_at hl 0 rfl) ?_
            refine lv_iconst (v := (3 : Int32)) hx hb dX1_behind_77 (by decide +kernel) ?_
            refine lv_irem hx hb dX1_behind_78 (by decide +kernel) ?_
            refine rd_calll (va_runV (As := [.long (cf_X4_withActsLeft a0 ((cf_X4_actsLeft a0) - (1 : Int32))), .int ((a1 - (2 : Int32)) / (3 : Int32)), .int ((a1 - (2 : Int32)) - (a1 - (2 : Int32)) / (3 : Int32) * (3 : Int32))]) (rest := []) ⟨hx, hb, hml, hown, hts⟩ (c_X1_copy l dC dI q1 q3 w_o w_f w_r w_b w_a w_l (cf_X4_withActsLeft a0 ((cf_X4_actsLeft a0) - (1 : Int32))) ((a1 - (2 : Int32)) / (3 : Int32)) ((a1 - (2 : Int32)) - (a1 - (2 : Int32)) / (3 : Int32) * (3 : Int32)) ) (cwV 3 hts gX1_behind_X1_copy rfl rfl rfl (by decide +kernel) ⟨Nat.le_of_ble_eq_true rfl, Nat.le_of_ble_eq_true rfl⟩) ⟨rd_blind, va_recv hK hP (ci := 0) (q0 := 0) rfl rfl, fun U hU hW => ⟨rfl, by rw [hU]; exact hP, va_K.moved hW.alike hK⟩⟩ rfl rfl hl.1 rfl (lv_room (Nat.le_of_ble_eq_true rfl)) dX1_behind_79 ⟨Nat.le_refl _, Nat.le_refl _⟩) ?_
            exact W.lret (v := (cf_X1_copy w_o w_f w_r w_b w_a w_l (cf_X4_withActsLeft a0 ((cf_X4_actsLeft a0) - (1 : Int32))) ((a1 - (2 : Int32)) / (3 : Int32)) ((a1 - (2 : Int32)) - (a1 - (2 : Int32)) / (3 : Int32) * (3 : Int32)))) hx hb hr (fun t ht _ => ⟨congrArg (fun z => Outcome.returned (some (Value.long z))) hR, ht⟩) t_nil dX1_behind_82
        · rw [if_pos c_4] at hR
          refine lv_ldc2 (v := (-1 : Int64)) hx hb hown h0_ dX1_behind_43 ?_
          exact W.lret (v := (-1 : Int64)) hx hb hr (fun t ht _ => ⟨congrArg (fun z => Outcome.returned (some (Value.long z))) hR, ht⟩) t_nil dX1_behind_46
      · rw [if_pos c_3] at hR
        refine lv_aload_n hx hb dX1_behind_26 rfl (lv_at hl 0 rfl) ?_
        refine lv_lload_n hx hb dX1_behind_27 rfl (lv_at hl 1 rfl) ?_
        refine rd_calll (va_runV (As := [.long a0]) (rest := []) ⟨hx, hb, hml, hown, hts⟩ (c_X1_end l dC dI q1 q3 w_o w_f w_r w_b w_a w_l a0 hw_r) (cwV 1 hts gX1_behind_X1_end rfl rfl rfl (by decide +kernel) ⟨Nat.le_of_ble_eq_true rfl, Nat.le_of_ble_eq_true rfl⟩) ⟨rd_blind, va_recv hK hP (ci := 0) (q0 := 0) rfl rfl, fun U hU hW => ⟨rfl, by rw [hU]; exact hP, va_K.moved hW.alike hK⟩⟩ rfl rfl hl.1 rfl (lv_room (Nat.le_of_ble_eq_true rfl)) dX1_behind_28 ⟨Nat.le_refl _, Nat.le_refl _⟩) ?_
        exact W.lret (v := (cf_X1_end w_o w_f w_r w_b w_a w_l a0)) hx hb hr (fun t ht _ => ⟨congrArg (fun z => Outcome.returned (some (Value.long z))) hR, ht⟩) t_nil dX1_behind_31
    · rw [if_pos c_2] at hR
      refine lv_aload_n hx hb dX1_behind_15 rfl (lv_at hl 0 rfl) ?_
      refine lv_lload_n hx hb dX1_behind_16 rfl (lv_at hl 1 rfl) ?_
      refine rd_calll (va_runV (As := [.long a0]) (rest := []) ⟨hx, hb, hml, hown, hts⟩ (c_X1_look l dC dI q1 q3 w_o w_f w_r w_b w_a w_l a0 ) (cwV 1 hts gX1_behind_X1_look rfl rfl rfl (by decide +kernel) ⟨Nat.le_of_ble_eq_true rfl, Nat.le_of_ble_eq_true rfl⟩) ⟨rd_blind, va_recv hK hP (ci := 0) (q0 := 0) rfl rfl, fun U hU hW => ⟨rfl, by rw [hU]; exact hP, va_K.moved hW.alike hK⟩⟩ rfl rfl hl.1 rfl (lv_room (Nat.le_of_ble_eq_true rfl)) dX1_behind_17 ⟨Nat.le_refl _, Nat.le_refl _⟩) ?_
      exact W.lret (v := (cf_X1_look w_o w_f w_r w_b w_a w_l a0)) hx hb hr (fun t ht _ => ⟨congrArg (fun z => Outcome.returned (some (Value.long z))) hR, ht⟩) t_nil dX1_behind_20
  · rw [if_neg c_1] at hR
    refine lv_ldc2 (v := (-1 : Int64)) hx hb hown h0_ dX1_behind_7 ?_
    exact W.lret (v := (-1 : Int64)) hx hb hr (fun t ht _ => ⟨congrArg (fun z => Outcome.returned (some (Value.long z))) hR, ht⟩) t_nil dX1_behind_10

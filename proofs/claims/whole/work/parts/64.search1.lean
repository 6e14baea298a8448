def cf_J7_fill_53178_L5 (fu : Nat)  : Nat → (Nat → Int32) → Int32 → Int32 → Int32 → (Nat → Int32)
  | 0, t_H, _, _, _ => t_H
  | n + 1, t_H, x1, x2, x3 => (if x3 ≤ x2 then t_H else (cf_J7_fill_53178_L5 fu n) (upd t_H (x2).toNatClampNeg x1) x1 (x2 + (1 : Int32)) x3)
def vc_J7_fill_53178_L5 (fu : Nat)  : Nat → (Nat → Int32) → Int32 → Int32 → Int32 → Prop
  | 0, _, _, _, _ => False
  | n + 1, t_H, x1, x2, x3 => ((x3 ≤ x2 → True) ∧ (¬ x3 ≤ x2 → (vp_in x2 32768 ∧ (vc_J7_fill_53178_L5 fu n) (upd t_H (x2).toNatClampNeg x1) x1 (x2 + (1 : Int32)) x3)))
def cf_J7_fill_53178 (fu : Nat) (t_H : Nat → Int32) (a1 : Int32) : (Nat → Int32) :=
  cf_J7_fill_53178_L5 fu  fu t_H a1 (0 : Int32) (32768 : Int32)
def vc_J7_fill_53178 (fu : Nat) (t_H : Nat → Int32) (a1 : Int32) : Prop :=
  vc_J7_fill_53178_L5 fu  fu t_H a1 (0 : Int32) (32768 : Int32)
set_option maxHeartbeats 4000000 in
set_option maxRecDepth 100000 in
theorem c_J7_fill_53178 (l : Launch) (dC : Nat → ClassId) (dI : Nat → Nat → Nat) (qh : Nat) (cyI : ClassId) (t_H : Nat → Int32) (sz : Nat) (fu : Nat) (a1 : Int32)  (hV : vc_J7_fill_53178 fu t_H a1) : Met l yJ7_fill_53178 wsJ7_fill_53178 ({ frames := 0, cells := 0, slots := 0, locals := 0 }) (mu_P [.ref qh, .int a1] sz (dC, dI) kcl (ar_W qh cyI t_H) [(cyI, .int)]) (mu_Q none (dC, dI) kcl (ar_W qh cyI (cf_J7_fill_53178 fu t_H a1)) (va_A (ar_W qh cyI t_H) sz)) 0 0 (va_A (ar_W qh cyI t_H) sz) := by
  refine Met.ofW (cc := cJ7_fill_53178) (maxL := 4) (ret := none) (by decide) rfl ?_
  intro p e s m args below meth c s₁ B hml hv
  obtain ⟨rfl, hsz, hP, hK, hD0⟩ := hv
  have hx := B.exec
  have hb := B.bytes
  have hr := B.returns
  have hts := atoms_spec (ws := wsJ7_fill_53178) B.pre
  have hown : s.vm.findClass RJ7 = some m.cls := findClass_of_methodNamed B.named
  have hlocks := B.notSynchronized
  subst hsz
  have hD := hD0.self (sz := s.heap.size)
  generalize hAe : va_A (ar_W qh cyI t_H) s.heap.size = A at hD ⊢
  have hA : ∀ q : Nat, s.heap.size ≤ q → A q := fun q h => by rw [← hAe]; exact Or.inr h
  have hP : va_P (dC, dI) kcl (ar_W qh cyI t_H) s.heap := hP
  generalize hR : (cf_J7_fill_53178 fu t_H a1) = R
  have KL5 : ∀ (n : Nat), ∀ (t_H : Nat → Int32) (x1 : Int32) (x2 : Int32) (x3 : Int32) (H : Heap) (locs : List Loc) (ls : Array Slot), va_P (dC, dI) kcl (ar_W qh cyI t_H) H → va_D A (ar_W qh cyI t_H) → va_S A s.heap H locs → lv_has ls 4 [(0, .ref qh), (1, .int x1), (2, .int x2), (3, .int x3)] → vc_J7_fill_53178_L5 fu  n t_H x1 x2 x3 → cf_J7_fill_53178_L5 fu  n t_H x1 x2 x3 = R → W p l e (headSpec wsJ7_fill_53178 ({ frames := 0, cells := 0, slots := 0, locals := 0 })).room s m ([.ref qh, .int a1] : List Value).toArray below meth c H locs 0 0 (MQ below (mu_Q none (dC, dI) kcl (ar_W qh cyI R) A) ([.ref qh, .int a1] : List Value).toArray s 0 0 A) (F0 m 5 ls []) := by
    intro n
    induction n with
    | zero =>
      intro t_H x1 x2 x3 H locs ls hP hD hS hl hV hR
      exact absurd hV id
    | succ n ih =>
      intro t_H x1 x2 x3 H locs ls hP hD hS hl hV hR
      have hR : (if x3 ≤ x2 then t_H else (cf_J7_fill_53178_L5 fu n) (upd t_H (x2).toNatClampNeg x1) x1 (x2 + (1 : Int32)) x3) = R := hR
      have hV : ((x3 ≤ x2 → True) ∧ (¬ x3 ≤ x2 → (vp_in x2 32768 ∧ (vc_J7_fill_53178_L5 fu n) (upd t_H (x2).toNatClampNeg x1) x1 (x2 + (1 : Int32)) x3))) := hV
      refine lv_iload_n hx hb dJ7_fill_53178_5 rfl (lv_at hl 2 rfl) ?_
      refine lv_iload_n hx hb dJ7_fill_53178_6 rfl (lv_at hl 3 rfl) ?_
      refine lv_icmp_ge (tgt := 20) hx hb dJ7_fill_53178_7 (by decide) (fun c_1 => ?_) (fun c_1 => ?_)
      · rw [if_pos c_1] at hR
        rw [← hR]
        exact W.vret hx hb hr (fun t ht _ => ⟨rfl, by rw [ht]; exact hP, hS.F ht⟩) hS.2.2 dJ7_fill_53178_20
      · rw [if_neg c_1] at hR
        have hV := hV.2 c_1
        refine lv_aload_n hx hb dJ7_fill_53178_10 rfl (lv_at hl 0 rfl) ?_
        refine lv_iload_n hx hb dJ7_fill_53178_11 rfl (lv_at hl 2 rfl) ?_
        refine lv_iload_n hx hb dJ7_fill_53178_12 rfl (lv_at hl 1 rfl) ?_
        obtain ⟨hi2, hV⟩ := hV
        refine va_iast hx hb hK hP hD hS 0 0 rfl rfl hi2 dJ7_fill_53178_13 (fun H locs hP hD hS => ?_)
        have hP : va_P (dC, dI) kcl (ar_W qh cyI (upd t_H (x2).toNatClampNeg x1)) H := hP
        have hD : va_D A (ar_W qh cyI (upd t_H (x2).toNatClampNeg x1)) := hD
        refine lv_iinc (v := (x2 + (1 : Int32))) (lv' := [(2, .int (x2 + (1 : Int32))), (0, .ref qh), (1, .int x1), (3, .int x3)]) hx hb dJ7_fill_53178_14 hl (k := 2) rfl rfl (by decide) rfl (fun ls hl => ?_)
        refine lv_goto (tgt := 5) hx hb dJ7_fill_53178_17 (by decide) ?_
        exact ih (upd t_H (x2).toNatClampNeg x1) x1 (x2 + (1 : Int32)) x3 H locs ls hP hD hS (lv_sub hl [1, 2, 0, 3] rfl) hV hR
  have hl := lv_entry ([.ref qh, .int a1]) (n := 4) (Nat.le_of_ble_eq_true rfl)
  rw [lg_entry_eq]
  generalize (lg_sl ([.ref qh, .int a1]) ++ List.replicate (4 - (lg_sl ([.ref qh, .int a1])).length) Slot.unset).toArray = ls at hl ⊢
  have hl : lv_has ls 4 [(0, .ref qh), (1, .int a1)] := hl
  unfold cf_J7_fill_53178 at hR
  unfold vc_J7_fill_53178 at hV
  refine mu_start (A := A) (fun H locs hP hS => ?_) hP
  refine lv_iconst (v := (0 : Int32)) hx hb dJ7_fill_53178_0 (by decide +kernel) ?_
  refine lv_istore_n (lv' := [(2, .int (0 : Int32)), (0, .ref qh), (1, .int a1)]) hx hb dJ7_fill_53178_1 rfl hl (by decide) rfl (fun ls hl => ?_)
  refine lv_aload_n hx hb dJ7_fill_53178_2 rfl (lv_at hl 1 rfl) ?_
  refine va_alen hx hb hK hP 0 0 rfl rfl (v := (32768 : Int32)) rfl dJ7_fill_53178_3 ?_
  refine lv_istore_n (lv' := [(3, .int (32768 : Int32)), (2, .int (0 : Int32)), (0, .ref qh), (1, .int a1)]) hx hb dJ7_fill_53178_4 rfl hl (by decide) rfl (fun ls hl => ?_)
  exact KL5  fu t_H a1 (0 : Int32) (32768 : Int32) H locs ls hP hD hS (lv_sub hl [2, 3, 1, 0] rfl) hV hR
def cf_X1_possibleActs_i12_s36 (fu : Nat) (k_12 : Int32 → Int32 → Int32 → Int32 → Int32 → Int64 → Int64 → Int32 → Int32 → Int32 → Int32) (w_o : Int32) (w_f : Int32) (w_r : Int32) (w_b : Int32) (w_a : Int32) (w_l : Int64) (x1 : Int64) (x3 : Int32) (x4 : Int32) (x5 : Int32) : Int32 :=
  k_12 w_o w_f w_r w_b w_a w_l x1 x3 x4 (x5 + (1 : Int32))
def vc_X1_possibleActs_i12_s36 (fu : Nat) (v_12 : Int32 → Int32 → Int32 → Int32 → Int32 → Int64 → Int64 → Int32 → Int32 → Int32 → Prop) (w_o : Int32) (w_f : Int32) (w_r : Int32) (w_b : Int32) (w_a : Int32) (w_l : Int64) (x1 : Int64) (x3 : Int32) (x4 : Int32) (x5 : Int32) : Prop :=
  v_12 w_o w_f w_r w_b w_a w_l x1 x3 x4 (x5 + (1 : Int32))
def cf_X1_possibleActs_L12 (fu : Nat)  : Nat → Int32 → Int32 → Int32 → Int32 → Int32 → Int64 → Int64 → Int32 → Int32 → Int32 → Int32
  | 0, _, _, _, _, _, _, _, _, _, _ => 0
  | n + 1, w_o, w_f, w_r, w_b, w_a, w_l, x1, x3, x4, x5 => (if x4 < x5 then x3 else (if (lg_cmp (cf_X1_behind w_o w_f w_r w_b w_a w_l x1 x5) (-1 : Int64)) = 0 then cf_X1_possibleActs_i12_s36 fu (cf_X1_possibleActs_L12 fu n) w_o w_f w_r w_b w_a w_l x1 x3 x4 x5 else cf_X1_possibleActs_i12_s36 fu (cf_X1_possibleActs_L12 fu n) w_o w_f w_r w_b w_a w_l x1 (x3 + (1 : Int32)) x4 x5))
def vc_X1_possibleActs_L12 (fu : Nat)  : Nat → Int32 → Int32 → Int32 → Int32 → Int32 → Int64 → Int64 → Int32 → Int32 → Int32 → Prop
  | 0, _, _, _, _, _, _, _, _, _, _ => False
  | n + 1, w_o, w_f, w_r, w_b, w_a, w_l, x1, x3, x4, x5 => ((x4 < x5 → True) ∧ (¬ x4 < x5 → (((lg_cmp (cf_X1_behind w_o w_f w_r w_b w_a w_l x1 x5) (-1 : Int64)) = 0 → vc_X1_possibleActs_i12_s36 fu (vc_X1_possibleActs_L12 fu n) w_o w_f w_r w_b w_a w_l x1 x3 x4 x5) ∧ (¬ (lg_cmp (cf_X1_behind w_o w_f w_r w_b w_a w_l x1 x5) (-1 : Int64)) = 0 → vc_X1_possibleActs_i12_s36 fu (vc_X1_possibleActs_L12 fu n) w_o w_f w_r w_b w_a w_l x1 (x3 + (1 : Int32)) x4 x5))))
def cf_X1_possibleActs (fu : Nat) (w_o : Int32) (w_f : Int32) (w_r : Int32) (w_b : Int32) (w_a : Int32) (w_l : Int64) (a0 : Int64) : Int32 :=
  cf_X1_possibleActs_L12 fu  fu w_o w_f w_r w_b w_a w_l a0 (0 : Int32) (cf_X1_lastActToTry w_o w_f w_r w_b w_a w_l a0) (0 : Int32)
def vc_X1_possibleActs (fu : Nat) (w_o : Int32) (w_f : Int32) (w_r : Int32) (w_b : Int32) (w_a : Int32) (w_l : Int64) (a0 : Int64) : Prop :=
  vc_X1_possibleActs_L12 fu  fu w_o w_f w_r w_b w_a w_l a0 (0 : Int32) (cf_X1_lastActToTry w_o w_f w_r w_b w_a w_l a0) (0 : Int32)
set_option maxHeartbeats 4000000 in
set_option maxRecDepth 100000 in
theorem c_X1_possibleActs (l : Launch) (dC : Nat → ClassId) (dI : Nat → Nat → Nat) (q1 q3 : Nat) (w_o : Int32) (w_f : Int32) (w_r : Int32) (w_b : Int32) (w_a : Int32) (w_l : Int64) (fu : Nat) (a0 : Int64) (hw_r : w_r ≤ 3) (hV : vc_X1_possibleActs fu w_o w_f w_r w_b w_a w_l a0) : Met l yX1_possibleActs wsX1_possibleActs ({ frames := 5, cells := 0, slots := 0, locals := 123 }) (rd_P [.ref q1, .long a0] (dC, dI) kcl (mv_W q1 q3  w_o w_f w_r w_b w_a w_l) []) (rd_Q (some (.int (cf_X1_possibleActs fu w_o w_f w_r w_b w_a w_l a0)))) 0 0 (fun _ => False) := by
  refine Met.ofW (cc := cX1_possibleActs) (maxL := 6) (ret := (some .int)) (by decide) rfl ?_
  intro p e s m args below meth c s₁ B hml hv
  obtain ⟨rfl, hP, hK⟩ := hv
  have hx := B.exec
  have hb := B.bytes
  have hr := B.returns
  have hts := atoms_spec (ws := wsX1_possibleActs) B.pre
  have hown : s.vm.findClass RX1 = some m.cls := findClass_of_methodNamed B.named
  have hlocks := B.notSynchronized
  have hP : va_P (dC, dI) kcl (mv_W q1 q3  w_o w_f w_r w_b w_a w_l) s.heap := hP
  have h0_ : (Cond.constantLong RX1 23 (-1)).before _ s = true := hts _ (by decide +kernel)
  generalize hR : (cf_X1_possibleActs fu w_o w_f w_r w_b w_a w_l a0) = R
  have Ki12_s36 : ∀ (k_12 : Int32 → Int32 → Int32 → Int32 → Int32 → Int64 → Int64 → Int32 → Int32 → Int32 → Int32) (v_12 : Int32 → Int32 → Int32 → Int32 → Int32 → Int64 → Int64 → Int32 → Int32 → Int32 → Prop) (H_12 : ∀ (x1 : Int64) (x3 : Int32) (x4 : Int32) (x5 : Int32) (ls : Array Slot), lv_has ls 6 [(0, .ref q1), (1, .long x1), (3, .int x3), (4, .int x4), (5, .int x5)] → v_12 w_o w_f w_r w_b w_a w_l x1 x3 x4 x5 → k_12 w_o w_f w_r w_b w_a w_l x1 x3 x4 x5 = R → W p l e (headSpec wsX1_possibleActs ({ frames := 5, cells := 0, slots := 0, locals := 123 })).room s m ([.ref q1, .long a0] : List Value).toArray below meth c s.heap [] 0 0 (MQ below (rd_Q (some (.int R))) ([.ref q1, .long a0] : List Value).toArray s 0 0 (fun _ => False)) (F0 m 12 ls [])) (x1 : Int64) (x3 : Int32) (x4 : Int32) (x5 : Int32) (ls : Array Slot), lv_has ls 6 [(0, .ref q1), (1, .long x1), (3, .int x3), (4, .int x4), (5, .int x5)] → vc_X1_possibleActs_i12_s36 fu v_12 w_o w_f w_r w_b w_a w_l x1 x3 x4 x5 → cf_X1_possibleActs_i12_s36 fu k_12 w_o w_f w_r w_b w_a w_l x1 x3 x4 x5 = R → W p l e (headSpec wsX1_possibleActs ({ frames := 5, cells := 0, slots := 0, locals := 123 })).room s m ([.ref q1, .long a0] : List Value).toArray below meth c s.heap [] 0 0 (MQ below (rd_Q (some (.int R))) ([.ref q1, .long a0] : List Value).toArray s 0 0 (fun _ => False)) (F0 m 36 ls []) := by
    intro k_12 v_12 H_12 x1 x3 x4 x5 ls hl hV hR
    unfold cf_X1_possibleActs_i12_s36 at hR
    unfold vc_X1_possibleActs_i12_s36 at hV
    refine lv_iinc (v := (x5 + (1 : Int32))) (lv' := [(5, .int (x5 + (1 : Int32))), (0, .ref q1), (1, .long x1), (3, .int x3), (4, .int x4)]) hx hb dX1_possibleActs_36 hl (k := 4) rfl rfl (by decide) rfl (fun ls hl => ?_)
    refine lv_goto (tgt := 12) hx hb dX1_possibleActs_39 (by decide) ?_
    exact H_12 x1 x3 x4 (x5 + (1 : Int32)) ls (lv_sub hl [1, 2, 3, 4, 0] rfl) hV hR
  have KL12 : ∀ (n : Nat), ∀ (x1 : Int64) (x3 : Int32) (x4 : Int32) (x5 : Int32) (ls : Array Slot), lv_has ls 6 [(0, .ref q1), (1, .long x1), (3, .int x3), (4, .int x4), (5, .int x5)] → vc_X1_possibleActs_L12 fu  n w_o w_f w_r w_b w_a w_l x1 x3 x4 x5 → cf_X1_possibleActs_L12 fu  n w_o w_f w_r w_b w_a w_l x1 x3 x4 x5 = R → W p l e (headSpec wsX1_possibleActs ({ frames := 5, cells := 0, slots := 0, locals := 123 })).room s m ([.ref q1, .long a0] : List Value).toArray below meth c s.heap [] 0 0 (MQ below (rd_Q (some (.int R))) ([.ref q1, .long a0] : List Value).toArray s 0 0 (fun _ => False)) (F0 m 12 ls []) := by
    intro n
    induction n with
    | zero =>
      intro x1 x3 x4 x5 ls hl hV hR
      exact absurd hV id
    | succ n ih =>
      intro x1 x3 x4 x5 ls hl hV hR
      have hR : (if x4 < x5 then x3 else (if (lg_cmp (cf_X1_behind w_o w_f w_r w_b w_a w_l x1 x5) (-1 : Int64)) = 0 then cf_X1_possibleActs_i12_s36 fu (cf_X1_possibleActs_L12 fu n) w_o w_f w_r w_b w_a w_l x1 x3 x4 x5 else cf_X1_possibleActs_i12_s36 fu (cf_X1_possibleActs_L12 fu n) w_o w_f w_r w_b w_a w_l x1 (x3 + (1 : Int32)) x4 x5)) = R := hR
      have hV : ((x4 < x5 → True) ∧ (¬ x4 < x5 → (((lg_cmp (cf_X1_behind w_o w_f w_r w_b w_a w_l x1 x5) (-1 : Int64)) = 0 → vc_X1_possibleActs_i12_s36 fu (vc_X1_possibleActs_L12 fu n) w_o w_f w_r w_b w_a w_l x1 x3 x4 x5) ∧ (¬ (lg_cmp (cf_X1_behind w_o w_f w_r w_b w_a w_l x1 x5) (-1 : Int64)) = 0 → vc_X1_possibleActs_i12_s36 fu (vc_X1_possibleActs_L12 fu n) w_o w_f w_r w_b w_a w_l x1 (x3 + (1 : Int32)) x4 x5)))) := hV
      refine lv_iload hx hb dX1_possibleActs_12 (lv_at hl 4 rfl) ?_
      refine lv_iload hx hb dX1_possibleActs_14 (lv_at hl 3 rfl) ?_
      refine lv_icmp_gt (tgt := 42) hx hb dX1_possibleActs_16 (by decide) (fun c_1 => ?_) (fun c_1 => ?_)
      · rw [if_pos c_1] at hR
        refine lv_iload_n hx hb dX1_possibleActs_42 rfl (lv_at hl 2 rfl) ?_
        exact W.iret (v := x3) hx hb hr (fun t ht _ => ⟨congrArg (fun z => Outcome.returned (some (Value.int z))) hR, ht⟩) t_nil dX1_possibleActs_43
      · rw [if_neg c_1] at hR
        have hV := hV.2 c_1
        refine lv_aload_n hx hb dX1_possibleActs_19 rfl (lv_at hl 0 rfl) ?_
        refine lv_lload_n hx hb dX1_possibleActs_20 rfl (lv_at hl 1 rfl) ?_
        refine lv_iload hx hb dX1_possibleActs_21 (lv_at hl 4 rfl) ?_
        refine rd_calll (va_runV (As := [.long x1, .int x5]) (rest := []) ⟨hx, hb, hml, hown, hts⟩ (c_X1_behind l dC dI q1 q3 w_o w_f w_r w_b w_a w_l x1 x5 hw_r) (cwV 2 hts gX1_possibleActs_X1_behind rfl rfl rfl (by decide +kernel) ⟨Nat.le_of_ble_eq_true rfl, Nat.le_of_ble_eq_true rfl⟩) ⟨rd_blind, va_recv hK hP (ci := 0) (q0 := 0) rfl rfl, fun U hU hW => ⟨rfl, by rw [hU]; exact (hP.sub [0, 1] rfl), va_K.moved hW.alike (hK.sub [] rfl)⟩⟩ rfl rfl hl.1 rfl (lv_room (Nat.le_of_ble_eq_true rfl)) dX1_possibleActs_23 ⟨Nat.le_refl _, Nat.le_refl _⟩) ?_
        refine lv_ldc2 (v := (-1 : Int64)) hx hb hown h0_ dX1_possibleActs_26 ?_
        refine W.lcmp hx hb dX1_possibleActs_29 ?_
        refine lv_if_eq (tgt := 36) hx hb dX1_possibleActs_30 (by decide) (fun c_2 => ?_) (fun c_2 => ?_)
        · rw [if_pos c_2] at hR
          have hV := hV.1 c_2
          exact Ki12_s36 (cf_X1_possibleActs_L12 fu n) (vc_X1_possibleActs_L12 fu n) ih x1 x3 x4 x5 ls (lv_sub hl [0, 1, 2, 3, 4] rfl) hV hR
        · rw [if_neg c_2] at hR
          have hV := hV.2 c_2
          refine lv_iinc (v := (x3 + (1 : Int32))) (lv' := [(3, .int (x3 + (1 : Int32))), (0, .ref q1), (1, .long x1), (4, .int x4), (5, .int x5)]) hx hb dX1_possibleActs_33 hl (k := 2) rfl rfl (by decide) rfl (fun ls hl => ?_)
          exact Ki12_s36 (cf_X1_possibleActs_L12 fu n) (vc_X1_possibleActs_L12 fu n) ih x1 (x3 + (1 : Int32)) x4 x5 ls (lv_sub hl [1, 2, 0, 3, 4] rfl) hV hR
  have hl := lv_entry ([.ref q1, .long a0]) (n := 6) (Nat.le_of_ble_eq_true rfl)
  rw [lg_entry_eq]
  generalize (lg_sl ([.ref q1, .long a0]) ++ List.replicate (6 - (lg_sl ([.ref q1, .long a0])).length) Slot.unset).toArray = ls at hl ⊢
  have hl : lv_has ls 6 [(0, .ref q1), (1, .long a0)] := hl
  unfold cf_X1_possibleActs at hR
  unfold vc_X1_possibleActs at hV
  refine lv_iconst (v := (0 : Int32)) hx hb dX1_possibleActs_0 (by decide +kernel) ?_
  refine lv_istore_n (lv' := [(3, .int (0 : Int32)), (0, .ref q1), (1, .long a0)]) hx hb dX1_possibleActs_1 rfl hl (by decide) rfl (fun ls hl => ?_)
  refine lv_aload_n hx hb dX1_possibleActs_2 rfl (lv_at hl 1 rfl) ?_
  refine lv_lload_n hx hb dX1_possibleActs_3 rfl (lv_at hl 2 rfl) ?_
  refine rd_calli (va_runV (As := [.long a0]) (rest := []) ⟨hx, hb, hml, hown, hts⟩ (c_X1_lastActToTry l dC dI q1 q3 w_o w_f w_r w_b w_a w_l a0 ) (cwV 1 hts gX1_possibleActs_X1_lastActToTry rfl rfl rfl (by decide +kernel) ⟨Nat.le_of_ble_eq_true rfl, Nat.le_of_ble_eq_true rfl⟩) ⟨rd_blind, va_recv hK hP (ci := 0) (q0 := 0) rfl rfl, fun U hU hW => ⟨rfl, by rw [hU]; exact (hP.sub [0, 1] rfl), va_K.moved hW.alike (hK.sub [] rfl)⟩⟩ rfl rfl hl.1 rfl (lv_room (Nat.le_of_ble_eq_true rfl)) dX1_possibleActs_4 ⟨Nat.le_refl _, Nat.le_refl _⟩) ?_
  refine lv_istore (lv' := [(4, .int (cf_X1_lastActToTry w_o w_f w_r w_b w_a w_l a0)), (3, .int (0 : Int32)), (0, .ref q1), (1, .long a0)]) hx hb dX1_possibleActs_7 hl (by decide) rfl (fun ls hl => ?_)
  refine lv_iconst (v := (0 : Int32)) hx hb dX1_possibleActs_9 (by decide +kernel) ?_
  refine lv_istore (lv' := [(5, .int (0 : Int32)), (4, .int (cf_X1_lastActToTry w_o w_f w_r w_b w_a w_l a0)), (3, .int (0 : Int32)), (0, .ref q1), (1, .long a0)]) hx hb dX1_possibleActs_10 hl (by decide) rfl (fun ls hl => ?_)
  exact KL12  fu a0 (0 : Int32) (cf_X1_lastActToTry w_o w_f w_r w_b w_a w_l a0) (0 : Int32) ls (lv_sub hl [3, 4, 2, 1, 0] rfl) hV hR
def cf_X2_keep (t_S : Nat → Int64) (t_O : Nat → Int32) (t_H : Nat → Int32) (s_n : Int32) (a0 : Int64) (a1 : Int32) (a2 : Int32) (a3 : Int32) : (Nat → Int64) × (Nat → Int32) × (Nat → Int32) × Int32 × Int32 :=
  (if s_n < (20000 : Int32) then ((vp_updL t_S (s_n).toNatClampNeg a0), (upd t_O (s_n).toNatClampNeg ((a2 * (64 : Int32)) + a3)), (upd t_H (a1).toNatClampNeg (s_n + (1 : Int32))), (s_n + (1 : Int32)), (1 : Int32)) else (t_S, t_O, t_H, s_n, (0 : Int32)))
def vc_X2_keep (t_S : Nat → Int64) (t_O : Nat → Int32) (t_H : Nat → Int32) (s_n : Int32) (a0 : Int64) (a1 : Int32) (a2 : Int32) (a3 : Int32) : Prop :=
  ((s_n < (20000 : Int32) → (vp_in s_n 20000 ∧ (vp_in s_n 20000 ∧ (vp_in a1 32768 ∧ True)))) ∧ (¬ s_n < (20000 : Int32) → True))
set_option maxHeartbeats 4000000 in
set_option maxRecDepth 100000 in
theorem c_X2_keep (l : Launch) (dC : Nat → ClassId) (dI : Nat → Nat → Nat) (q2 q1 q3 qs qo qh qw : Nat) (cyI cyJ : ClassId) (w_o : Int32) (w_f : Int32) (w_r : Int32) (w_b : Int32) (w_a : Int32) (w_l : Int64) (t_S : Nat → Int64) (t_O : Nat → Int32) (t_H : Nat → Int32) (s_n : Int32) (t_W : Nat → Int32) (s_k : Int32) (sz : Nat) (a0 : Int64) (a1 : Int32) (a2 : Int32) (a3 : Int32)  (hV : vc_X2_keep t_S t_O t_H s_n a0 a1 a2 a3) : Met l yX2_keep wsX2_keep ({ frames := 0, cells := 0, slots := 0, locals := 0 }) (mu_P [.ref q2, .long a0, .int a1, .int a2, .int a3] sz (dC, dI) kcl (se_W q2 q1 q3 qs qo qh qw cyI cyJ w_o w_f w_r w_b w_a w_l t_S t_O t_H s_n t_W s_k) [(cyI, .int), (cyJ, .long)]) (mu_Q (some (.int ((cf_X2_keep t_S t_O t_H s_n a0 a1 a2 a3).2.2.2.2))) (dC, dI) kcl (se_W q2 q1 q3 qs qo qh qw cyI cyJ w_o w_f w_r w_b w_a w_l ((cf_X2_keep t_S t_O t_H s_n a0 a1 a2 a3).1) ((cf_X2_keep t_S t_O t_H s_n a0 a1 a2 a3).2.1) ((cf_X2_keep t_S t_O t_H s_n a0 a1 a2 a3).2.2.1) ((cf_X2_keep t_S t_O t_H s_n a0 a1 a2 a3).2.2.2.1) t_W s_k) (va_A (se_W q2 q1 q3 qs qo qh qw cyI cyJ w_o w_f w_r w_b w_a w_l t_S t_O t_H s_n t_W s_k) sz)) 0 0 (va_A (se_W q2 q1 q3 qs qo qh qw cyI cyJ w_o w_f w_r w_b w_a w_l t_S t_O t_H s_n t_W s_k) sz) := by
  refine Met.ofW (cc := cX2_keep) (maxL := 6) (ret := (some .boolean)) (by decide) rfl ?_
  intro p e s m args below meth c s₁ B hml hv
  obtain ⟨rfl, hsz, hP, hK, hD0⟩ := hv
  have hx := B.exec
  have hb := B.bytes
  have hr := B.returns
  have hts := atoms_spec (ws := wsX2_keep) B.pre
  have hown : s.vm.findClass RX2 = some m.cls := findClass_of_methodNamed B.named
  have hlocks := B.notSynchronized
  subst hsz
  have hD := hD0.self (sz := s.heap.size)
  generalize hAe : va_A (se_W q2 q1 q3 qs qo qh qw cyI cyJ w_o w_f w_r w_b w_a w_l t_S t_O t_H s_n t_W s_k) s.heap.size = A at hD ⊢
  have hA : ∀ q : Nat, s.heap.size ≤ q → A q := fun q h => by rw [← hAe]; exact Or.inr h
  have hP : va_P (dC, dI) kcl (se_W q2 q1 q3 qs qo qh qw cyI cyJ w_o w_f w_r w_b w_a w_l t_S t_O t_H s_n t_W s_k) s.heap := hP
  have h0_ : (Cond.fieldLink RX2 21 "ColourTrier$Search" "stateCount" "I").before _ s = true := hts _ (by decide +kernel)
  have h1_ : ∀ w ∈ u_ws RX2 TX2 7, w ∈ wsX2_keep := fun w h => List.mem_cons_of_mem _ (List.mem_append_right _ h)
  have h2_ : (Cond.fieldLink RX2 9 "ColourTrier$Search" "states" "[J").before _ s = true := hts _ (by decide +kernel)
  have h3_ : (Cond.fieldLink RX2 13 "ColourTrier$Search" "origins" "[I").before _ s = true := hts _ (by decide +kernel)
  have h4_ : (Cond.fieldLink RX2 18 "ColourTrier$Search" "slots" "[I").before _ s = true := hts _ (by decide +kernel)
  generalize hR : (cf_X2_keep t_S t_O t_H s_n a0 a1 a2 a3) = R
  have hl := lv_entry ([.ref q2, .long a0, .int a1, .int a2, .int a3]) (n := 6) (Nat.le_of_ble_eq_true rfl)
  rw [lg_entry_eq]
  generalize (lg_sl ([.ref q2, .long a0, .int a1, .int a2, .int a3]) ++ List.replicate (6 - (lg_sl ([.ref q2, .long a0, .int a1, .int a2, .int a3])).length) Slot.unset).toArray = ls at hl ⊢
  have hl : lv_has ls 6 [(0, .ref q2), (1, .long a0), (3, .int a1), (4, .int a2), (5, .int a3)] := hl
  unfold cf_X2_keep at hR
  unfold vc_X2_keep at hV
  refine mu_start (A := A) (fun H locs hP hS => ?_) hP
  refine lv_aload_n hx hb dX2_keep_0 rfl (lv_at hl 0 rfl) ?_
  refine va_get (D := (dC, dI)) (ci := 1) (v := .int s_n) (C := RX2) (T := TX2) (N := 7) hx hb hts h1_ hown hK hP 0 rfl rfl 4 (by decide) h0_ (fun _ h9 => h9) rfl dX2_keep_1 ?_
  refine lv_sipush (v := (20000 : Int32)) hx hb dX2_keep_4 (by decide +kernel) ?_
  refine lv_icmp_lt (tgt := 12) hx hb dX2_keep_7 (by decide) (fun c_1 => ?_) (fun c_1 => ?_)
  · rw [if_pos c_1] at hR
    have hV := hV.1 c_1
    refine lv_aload_n hx hb dX2_keep_12 rfl (lv_at hl 0 rfl) ?_
    refine va_get (D := (dC, dI)) (ci := 1) (v := .ref qs) (C := RX2) (T := TX2) (N := 7) hx hb hts h1_ hown hK hP 0 rfl rfl 1 (by decide) h2_ (fun _ h9 => h9) rfl dX2_keep_13 ?_
    refine lv_aload_n hx hb dX2_keep_16 rfl (lv_at hl 0 rfl) ?_
    refine va_get (D := (dC, dI)) (ci := 1) (v := .int s_n) (C := RX2) (T := TX2) (N := 7) hx hb hts h1_ hown hK hP 0 rfl rfl 4 (by decide) h0_ (fun _ h9 => h9) rfl dX2_keep_17 ?_
    refine lv_lload_n hx hb dX2_keep_20 rfl (lv_at hl 1 rfl) ?_
    obtain ⟨hi2, hV⟩ := hV
    refine va_last hx hb hK hP hD hS 3 1 rfl rfl hi2 dX2_keep_21 (fun H locs hP hD hS => ?_)
    have hP : va_P (dC, dI) kcl (se_W q2 q1 q3 qs qo qh qw cyI cyJ w_o w_f w_r w_b w_a w_l (vp_updL t_S (s_n).toNatClampNeg a0) t_O t_H s_n t_W s_k) H := hP
    have hD : va_D A (se_W q2 q1 q3 qs qo qh qw cyI cyJ w_o w_f w_r w_b w_a w_l (vp_updL t_S (s_n).toNatClampNeg a0) t_O t_H s_n t_W s_k) := hD
    refine lv_aload_n hx hb dX2_keep_22 rfl (lv_at hl 0 rfl) ?_
    refine va_get (D := (dC, dI)) (ci := 1) (v := .ref qo) (C := RX2) (T := TX2) (N := 7) hx hb hts h1_ hown hK hP 0 rfl rfl 2 (by decide) h3_ (fun _ h9 => h9) rfl dX2_keep_23 ?_
    refine lv_aload_n hx hb dX2_keep_26 rfl (lv_at hl 0 rfl) ?_
    refine va_get (D := (dC, dI)) (ci := 1) (v := .int s_n) (C := RX2) (T := TX2) (N := 7) hx hb hts h1_ hown hK hP 0 rfl rfl 4 (by decide) h0_ (fun _ h9 => h9) rfl dX2_keep_27 ?_
    refine lv_iload hx hb dX2_keep_30 (lv_at hl 3 rfl) ?_
    refine lv_bipush (v := (64 : Int32)) hx hb dX2_keep_32 (by decide +kernel) ?_
    refine lv_imul hx hb dX2_keep_34 ?_
    refine lv_iload hx hb dX2_keep_35 (lv_at hl 4 rfl) ?_
    refine lv_iadd hx hb dX2_keep_37 ?_
    obtain ⟨hi3, hV⟩ := hV
    refine va_iast hx hb hK hP hD hS 4 0 rfl rfl hi3 dX2_keep_38 (fun H locs hP hD hS => ?_)
    have hP : va_P (dC, dI) kcl (se_W q2 q1 q3 qs qo qh qw cyI cyJ w_o w_f w_r w_b w_a w_l (vp_updL t_S (s_n).toNatClampNeg a0) (upd t_O (s_n).toNatClampNeg ((a2 * (64 : Int32)) + a3)) t_H s_n t_W s_k) H := hP
    have hD : va_D A (se_W q2 q1 q3 qs qo qh qw cyI cyJ w_o w_f w_r w_b w_a w_l (vp_updL t_S (s_n).toNatClampNeg a0) (upd t_O (s_n).toNatClampNeg ((a2 * (64 : Int32)) + a3)) t_H s_n t_W s_k) := hD
    refine lv_aload_n hx hb dX2_keep_39 rfl (lv_at hl 0 rfl) ?_
    refine lv_dup hx hb dX2_keep_40 rfl ?_
    refine va_get (D := (dC, dI)) (ci := 1) (v := .int s_n) (C := RX2) (T := TX2) (N := 7) hx hb hts h1_ hown hK hP 0 rfl rfl 4 (by decide) h0_ (fun _ h9 => h9) rfl dX2_keep_41 ?_
    refine lv_iconst (v := (1 : Int32)) hx hb dX2_keep_44 (by decide +kernel) ?_
    refine lv_iadd hx hb dX2_keep_45 ?_
    refine va_put (D := (dC, dI)) (ci := 1) (v := .int (s_n + (1 : Int32))) (ty := .int) (C := RX2) (T := TX2) (N := 7) hx hb hts h1_ tyX2 tyX2_ok nmX2 hown hK hP hD hS 0 rfl rfl 4 (by decide) h0_ (fun _ h9 => h9) rfl (by decide +kernel) rfl rfl (Nat.le_of_ble_eq_true rfl) dX2_keep_46 (fun H locs hP hD hS => ?_)
    have hP : va_P (dC, dI) kcl (se_W q2 q1 q3 qs qo qh qw cyI cyJ w_o w_f w_r w_b w_a w_l (vp_updL t_S (s_n).toNatClampNeg a0) (upd t_O (s_n).toNatClampNeg ((a2 * (64 : Int32)) + a3)) t_H (s_n + (1 : Int32)) t_W s_k) H := hP
    have hD : va_D A (se_W q2 q1 q3 qs qo qh qw cyI cyJ w_o w_f w_r w_b w_a w_l (vp_updL t_S (s_n).toNatClampNeg a0) (upd t_O (s_n).toNatClampNeg ((a2 * (64 : Int32)) + a3)) t_H (s_n + (1 : Int32)) t_W s_k) := hD
    refine lv_aload_n hx hb dX2_keep_49 rfl (lv_at hl 0 rfl) ?_
    refine va_get (D := (dC, dI)) (ci := 1) (v := .ref qh) (C := RX2) (T := TX2) (N := 7) hx hb hts h1_ hown hK hP 0 rfl rfl 3 (by decide) h4_ (fun _ h9 => h9) rfl dX2_keep_50 ?_
    refine lv_iload_n hx hb dX2_keep_53 rfl (lv_at hl 2 rfl) ?_
    refine lv_aload_n hx hb dX2_keep_54 rfl (lv_at hl 0 rfl) ?_
    refine va_get (D := (dC, dI)) (ci := 1) (v := .int (s_n + (1 : Int32))) (C := RX2) (T := TX2) (N := 7) hx hb hts h1_ hown hK hP 0 rfl rfl 4 (by decide) h0_ (fun _ h9 => h9) rfl dX2_keep_55 ?_
    obtain ⟨hi4, hV⟩ := hV
    refine va_iast hx hb hK hP hD hS 5 0 rfl rfl hi4 dX2_keep_58 (fun H locs hP hD hS => ?_)
    have hP : va_P (dC, dI) kcl (se_W q2 q1 q3 qs qo qh qw cyI cyJ w_o w_f w_r w_b w_a w_l (vp_updL t_S (s_n).toNatClampNeg a0) (upd t_O (s_n).toNatClampNeg ((a2 * (64 : Int32)) + a3)) (upd t_H (a1).toNatClampNeg (s_n + (1 : Int32))) (s_n + (1 : Int32)) t_W s_k) H := hP
    have hD : va_D A (se_W q2 q1 q3 qs qo qh qw cyI cyJ w_o w_f w_r w_b w_a w_l (vp_updL t_S (s_n).toNatClampNeg a0) (upd t_O (s_n).toNatClampNeg ((a2 * (64 : Int32)) + a3)) (upd t_H (a1).toNatClampNeg (s_n + (1 : Int32))) (s_n + (1 : Int32)) t_W s_k) := hD
    refine lv_iconst (v := (1 : Int32)) hx hb dX2_keep_59 (by decide +kernel) ?_
    rw [← hR]
    exact W.zret (ty := .boolean) (v := (1 : Int32)) hx hb hr (by decide +kernel) (fun t ht _ => ⟨rfl, by rw [ht]; exact hP, hS.F ht⟩) hS.2.2 dX2_keep_60
  · rw [if_neg c_1] at hR
    refine lv_iconst (v := (0 : Int32)) hx hb dX2_keep_10 (by decide +kernel) ?_
    rw [← hR]
    exact W.zret (ty := .boolean) (v := (0 : Int32)) hx hb hr (by decide +kernel) (fun t ht _ => ⟨rfl, by rw [ht]; exact hP, hS.F ht⟩) hS.2.2 dX2_keep_11
def cf_X2_slotFor_i13_s47 (fu : Nat) (k_13 : (Nat → Int64) → (Nat → Int32) → Int64 → Int32 → Int32 → Int32) (t_S : Nat → Int64) (t_H : Nat → Int32) (x3 : Int32) : Int32 :=
  x3
def cf_X2_slotFor_L13 (fu : Nat)  : Nat → (Nat → Int64) → (Nat → Int32) → Int64 → Int32 → Int32 → Int32
  | 0, _, _, _, _, _ => 0
  | n + 1, t_S, t_H, x1, x3, x4 => (if (32768 : Int32) ≤ x4 then x3 else (if (t_H (x3).toNatClampNeg) = 0 then cf_X2_slotFor_i13_s47 fu (cf_X2_slotFor_L13 fu n) t_S t_H x3 else (if (lg_cmp (t_S (((t_H (x3).toNatClampNeg) - (1 : Int32))).toNatClampNeg) x1) = 0 then cf_X2_slotFor_i13_s47 fu (cf_X2_slotFor_L13 fu n) t_S t_H x3 else (cf_X2_slotFor_L13 fu n) t_S t_H x1 ((x3 + (1 : Int32)) &&& (32767 : Int32)) (x4 + (1 : Int32)))))
def vc_X2_slotFor_L13 (fu : Nat)  : Nat → (Nat → Int64) → (Nat → Int32) → Int64 → Int32 → Int32 → Prop
  | 0, _, _, _, _, _ => False
  | n + 1, t_S, t_H, x1, x3, x4 => (((32768 : Int32) ≤ x4 → True) ∧ (¬ (32768 : Int32) ≤ x4 → (vp_in x3 32768 ∧ (((t_H (x3).toNatClampNeg) = 0 → True) ∧ (¬ (t_H (x3).toNatClampNeg) = 0 → (vp_in ((t_H (x3).toNatClampNeg) - (1 : Int32)) 20000 ∧ (((lg_cmp (t_S (((t_H (x3).toNatClampNeg) - (1 : Int32))).toNatClampNeg) x1) = 0 → True) ∧ (¬ (lg_cmp (t_S (((t_H (x3).toNatClampNeg) - (1 : Int32))).toNatClampNeg) x1) = 0 → (vc_X2_slotFor_L13 fu n) t_S t_H x1 ((x3 + (1 : Int32)) &&& (32767 : Int32)) (x4 + (1 : Int32))))))))))
def cf_X2_slotFor (fu : Nat) (t_S : Nat → Int64) (t_H : Nat → Int32) (a0 : Int64) : Int32 :=
  cf_X2_slotFor_L13 fu  fu t_S t_H a0 ((jl_ushr (a0 * (-7046029254386353131 : Int64)) (49 : Int32)).toInt32) (0 : Int32)
def vc_X2_slotFor (fu : Nat) (t_S : Nat → Int64) (t_H : Nat → Int32) (a0 : Int64) : Prop :=
  vc_X2_slotFor_L13 fu  fu t_S t_H a0 ((jl_ushr (a0 * (-7046029254386353131 : Int64)) (49 : Int32)).toInt32) (0 : Int32)
set_option maxHeartbeats 4000000 in
set_option maxRecDepth 100000 in
theorem c_X2_slotFor (l : Launch) (dC : Nat → ClassId) (dI : Nat → Nat → Nat) (q2 q1 q3 qs qo qh qw : Nat) (cyI cyJ : ClassId) (w_o : Int32) (w_f : Int32) (w_r : Int32) (w_b : Int32) (w_a : Int32) (w_l : Int64) (t_S : Nat → Int64) (t_O : Nat → Int32) (t_H : Nat → Int32) (s_n : Int32) (t_W : Nat → Int32) (s_k : Int32) (fu : Nat) (a0 : Int64)  (hV : vc_X2_slotFor fu t_S t_H a0) : Met l yX2_slotFor wsX2_slotFor ({ frames := 0, cells := 0, slots := 0, locals := 0 }) (rd_P [.ref q2, .long a0] (dC, dI) kcl (se_W q2 q1 q3 qs qo qh qw cyI cyJ w_o w_f w_r w_b w_a w_l t_S t_O t_H s_n t_W s_k) [(cyI, .int), (cyJ, .long)]) (rd_Q (some (.int (cf_X2_slotFor fu t_S t_H a0)))) 0 0 (fun _ => False) := by
  refine Met.ofW (cc := cX2_slotFor) (maxL := 6) (ret := (some .int)) (by decide) rfl ?_
  intro p e s m args below meth c s₁ B hml hv
  obtain ⟨rfl, hP, hK⟩ := hv
  have hx := B.exec
  have hb := B.bytes
  have hr := B.returns
  have hts := atoms_spec (ws := wsX2_slotFor) B.pre
  have hown : s.vm.findClass RX2 = some m.cls := findClass_of_methodNamed B.named
  have hlocks := B.notSynchronized
  have hP : va_P (dC, dI) kcl (se_W q2 q1 q3 qs qo qh qw cyI cyJ w_o w_f w_r w_b w_a w_l t_S t_O t_H s_n t_W s_k) s.heap := hP
  have h0_ : (Cond.constantLong RX2 73 (-7046029254386353131)).before _ s = true := hts _ (by decide +kernel)
  have h1_ : (Cond.constant RX2 17 (32768)).before _ s = true := hts _ (by decide +kernel)
  have h2_ : (Cond.fieldLink RX2 18 "ColourTrier$Search" "slots" "[I").before _ s = true := hts _ (by decide +kernel)
  have h3_ : ∀ w ∈ u_ws RX2 TX2 7, w ∈ wsX2_slotFor := fun w h => List.mem_cons_of_mem _ (List.mem_append_right _ h)
  have h4_ : (Cond.fieldLink RX2 9 "ColourTrier$Search" "states" "[J").before _ s = true := hts _ (by decide +kernel)
  generalize hR : (cf_X2_slotFor fu t_S t_H a0) = R
  have Ki13_s47 : ∀ (k_13 : (Nat → Int64) → (Nat → Int32) → Int64 → Int32 → Int32 → Int32) (v_13 : (Nat → Int64) → (Nat → Int32) → Int64 → Int32 → Int32 → Prop) (H_13 : ∀ (x1 : Int64) (x3 : Int32) (x4 : Int32) (ls : Array Slot), lv_has ls 6 [(0, .ref q2), (1, .long x1), (3, .int x3), (4, .int x4)] → v_13 t_S t_H x1 x3 x4 → k_13 t_S t_H x1 x3 x4 = R → W p l e (headSpec wsX2_slotFor ({ frames := 0, cells := 0, slots := 0, locals := 0 })).room s m ([.ref q2, .long a0] : List Value).toArray below meth c s.heap [] 0 0 (MQ below (rd_Q (some (.int R))) ([.ref q2, .long a0] : List Value).toArray s 0 0 (fun _ => False)) (F0 m 13 ls [])) (x3 : Int32) (ls : Array Slot), lv_has ls 6 [(3, .int x3)] → cf_X2_slotFor_i13_s47 fu k_13 t_S t_H x3 = R → W p l e (headSpec wsX2_slotFor ({ frames := 0, cells := 0, slots := 0, locals := 0 })).room s m ([.ref q2, .long a0] : List Value).toArray below meth c s.heap [] 0 0 (MQ below (rd_Q (some (.int R))) ([.ref q2, .long a0] : List Value).toArray s 0 0 (fun _ => False)) (F0 m 47 ls []) := by
    intro k_13 v_13 H_13 x3 ls hl hR
    unfold cf_X2_slotFor_i13_s47 at hR
    refine lv_iload_n hx hb dX2_slotFor_47 rfl (lv_at hl 0 rfl) ?_
    exact W.iret (v := x3) hx hb hr (fun t ht _ => ⟨congrArg (fun z => Outcome.returned (some (Value.int z))) hR, ht⟩) t_nil dX2_slotFor_48
  have KL13 : ∀ (n : Nat), ∀ (x1 : Int64) (x3 : Int32) (x4 : Int32) (ls : Array Slot), lv_has ls 6 [(0, .ref q2), (1, .long x1), (3, .int x3), (4, .int x4)] → vc_X2_slotFor_L13 fu  n t_S t_H x1 x3 x4 → cf_X2_slotFor_L13 fu  n t_S t_H x1 x3 x4 = R → W p l e (headSpec wsX2_slotFor ({ frames := 0, cells := 0, slots := 0, locals := 0 })).room s m ([.ref q2, .long a0] : List Value).toArray below meth c s.heap [] 0 0 (MQ below (rd_Q (some (.int R))) ([.ref q2, .long a0] : List Value).toArray s 0 0 (fun _ => False)) (F0 m 13 ls []) := by
    intro n
    induction n with
    | zero =>
      intro x1 x3 x4 ls hl hV hR
      exact absurd hV id
    | succ n ih =>
      intro x1 x3 x4 ls hl hV hR
      have hR : (if (32768 : Int32) ≤ x4 then x3 else (if (t_H (x3).toNatClampNeg) = 0 then cf_X2_slotFor_i13_s47 fu (cf_X2_slotFor_L13 fu n) t_S t_H x3 else (if (lg_cmp (t_S (((t_H (x3).toNatClampNeg) - (1 : Int32))).toNatClampNeg) x1) = 0 then cf_X2_slotFor_i13_s47 fu (cf_X2_slotFor_L13 fu n) t_S t_H x3 else (cf_X2_slotFor_L13 fu n) t_S t_H x1 ((x3 + (1 : Int32)) &&& (32767 : Int32)) (x4 + (1 : Int32))))) = R := hR
      have hV : (((32768 : Int32) ≤ x4 → True) ∧ (¬ (32768 : Int32) ≤ x4 → (vp_in x3 32768 ∧ (((t_H (x3).toNatClampNeg) = 0 → True) ∧ (¬ (t_H (x3).toNatClampNeg) = 0 → (vp_in ((t_H (x3).toNatClampNeg) - (1 : Int32)) 20000 ∧ (((lg_cmp (t_S (((t_H (x3).toNatClampNeg) - (1 : Int32))).toNatClampNeg) x1) = 0 → True) ∧ (¬ (lg_cmp (t_S (((t_H (x3).toNatClampNeg) - (1 : Int32))).toNatClampNeg) x1) = 0 → (vc_X2_slotFor_L13 fu n) t_S t_H x1 ((x3 + (1 : Int32)) &&& (32767 : Int32)) (x4 + (1 : Int32)))))))))) := hV
      refine lv_iload hx hb dX2_slotFor_13 (lv_at hl 3 rfl) ?_
      refine lv_ldc (v := (32768 : Int32)) hx hb hown h1_ dX2_slotFor_15 ?_
      refine lv_icmp_ge (tgt := 63) hx hb dX2_slotFor_17 (by decide) (fun c_1 => ?_) (fun c_1 => ?_)
      · rw [if_pos c_1] at hR
        refine lv_iload_n hx hb dX2_slotFor_63 rfl (lv_at hl 2 rfl) ?_
        exact W.iret (v := x3) hx hb hr (fun t ht _ => ⟨congrArg (fun z => Outcome.returned (some (Value.int z))) hR, ht⟩) t_nil dX2_slotFor_64
      · rw [if_neg c_1] at hR
        have hV := hV.2 c_1
        refine lv_aload_n hx hb dX2_slotFor_20 rfl (lv_at hl 0 rfl) ?_
        refine va_get (D := (dC, dI)) (ci := 1) (v := .ref qh) (C := RX2) (T := TX2) (N := 7) hx hb hts h3_ hown hK hP 0 rfl rfl 3 (by decide) h2_ (fun _ h9 => h9) rfl dX2_slotFor_21 ?_
        refine lv_iload_n hx hb dX2_slotFor_24 rfl (lv_at hl 2 rfl) ?_
        obtain ⟨hi2, hV⟩ := hV
        refine va_iald hx hb hK hP 5 0 rfl rfl hi2 dX2_slotFor_25 ?_
        refine lv_istore (lv' := [(5, .int (t_H (x3).toNatClampNeg)), (0, .ref q2), (1, .long x1), (3, .int x3), (4, .int x4)]) hx hb dX2_slotFor_26 hl (by decide) rfl (fun ls hl => ?_)
        refine lv_iload hx hb dX2_slotFor_28 (lv_at hl 0 rfl) ?_
        refine lv_if_eq (tgt := 47) hx hb dX2_slotFor_30 (by decide) (fun c_3 => ?_) (fun c_3 => ?_)
        · rw [if_pos c_3] at hR
          exact Ki13_s47 (cf_X2_slotFor_L13 fu n) (vc_X2_slotFor_L13 fu n) ih x3 ls (lv_sub hl [3] rfl) hR
        · rw [if_neg c_3] at hR
          have hV := hV.2 c_3
          refine lv_aload_n hx hb dX2_slotFor_33 rfl (lv_at hl 1 rfl) ?_
          refine va_get (D := (dC, dI)) (ci := 1) (v := .ref qs) (C := RX2) (T := TX2) (N := 7) hx hb hts h3_ hown hK hP 0 rfl rfl 1 (by decide) h4_ (fun _ h9 => h9) rfl dX2_slotFor_34 ?_
          refine lv_iload hx hb dX2_slotFor_37 (lv_at hl 0 rfl) ?_
          refine lv_iconst (v := (1 : Int32)) hx hb dX2_slotFor_39 (by decide +kernel) ?_
          refine lv_isub hx hb dX2_slotFor_40 ?_
          obtain ⟨hi4, hV⟩ := hV
          refine va_lald hx hb hK hP 3 1 rfl rfl hi4 dX2_slotFor_41 ?_
          refine lv_lload_n hx hb dX2_slotFor_42 rfl (lv_at hl 2 rfl) ?_
          refine W.lcmp hx hb dX2_slotFor_43 ?_
          refine lv_if_ne (tgt := 49) hx hb dX2_slotFor_44 (by decide) (fun c_5 => ?_) (fun c_5 => ?_)
          · rw [if_neg c_5] at hR
            have hV := hV.2 c_5
            refine lv_iload_n hx hb dX2_slotFor_49 rfl (lv_at hl 3 rfl) ?_
            refine lv_iconst (v := (1 : Int32)) hx hb dX2_slotFor_50 (by decide +kernel) ?_
            refine lv_iadd hx hb dX2_slotFor_51 ?_
            refine lv_sipush (v := (32767 : Int32)) hx hb dX2_slotFor_52 (by decide +kernel) ?_
            refine lv_iand hx hb dX2_slotFor_55 ?_
            refine lv_istore_n (lv' := [(3, .int ((x3 + (1 : Int32)) &&& (32767 : Int32))), (5, .int (t_H (x3).toNatClampNeg)), (0, .ref q2), (1, .long x1), (4, .int x4)]) hx hb dX2_slotFor_56 rfl hl (by decide) rfl (fun ls hl => ?_)
            refine lv_iinc (v := (x4 + (1 : Int32))) (lv' := [(4, .int (x4 + (1 : Int32))), (3, .int ((x3 + (1 : Int32)) &&& (32767 : Int32))), (5, .int (t_H (x3).toNatClampNeg)), (0, .ref q2), (1, .long x1)]) hx hb dX2_slotFor_57 hl (k := 4) rfl rfl (by decide) rfl (fun ls hl => ?_)
            refine lv_goto (tgt := 13) hx hb dX2_slotFor_60 (by decide) ?_
            exact ih x1 ((x3 + (1 : Int32)) &&& (32767 : Int32)) (x4 + (1 : Int32)) ls (lv_sub hl [3, 4, 1, 0] rfl) hV hR
          · rw [if_pos c_5] at hR
            exact Ki13_s47 (cf_X2_slotFor_L13 fu n) (vc_X2_slotFor_L13 fu n) ih x3 ls (lv_sub hl [3] rfl) hR
  have hl := lv_entry ([.ref q2, .long a0]) (n := 6) (Nat.le_of_ble_eq_true rfl)
  rw [lg_entry_eq]
  generalize (lg_sl ([.ref q2, .long a0]) ++ List.replicate (6 - (lg_sl ([.ref q2, .long a0])).length) Slot.unset).toArray = ls at hl ⊢
  have hl : lv_has ls 6 [(0, .ref q2), (1, .long a0)] := hl
  unfold cf_X2_slotFor at hR
  unfold vc_X2_slotFor at hV
  refine lv_lload_n hx hb dX2_slotFor_0 rfl (lv_at hl 1 rfl) ?_
  refine lv_ldc2 (v := (-7046029254386353131 : Int64)) hx hb hown h0_ dX2_slotFor_1 ?_
  refine lv_lmul hx hb dX2_slotFor_4 ?_
  refine lv_bipush (v := (49 : Int32)) hx hb dX2_slotFor_5 (by decide +kernel) ?_
  refine lv_lushr (v := (jl_ushr (a0 * (-7046029254386353131 : Int64)) (49 : Int32))) hx hb dX2_slotFor_7 rfl ?_
  refine lv_l2i (v := ((jl_ushr (a0 * (-7046029254386353131 : Int64)) (49 : Int32)).toInt32)) hx hb dX2_slotFor_8 rfl ?_
  refine lv_istore_n (lv' := [(3, .int ((jl_ushr (a0 * (-7046029254386353131 : Int64)) (49 : Int32)).toInt32)), (0, .ref q2), (1, .long a0)]) hx hb dX2_slotFor_9 rfl hl (by decide) rfl (fun ls hl => ?_)
  refine lv_iconst (v := (0 : Int32)) hx hb dX2_slotFor_10 (by decide +kernel) ?_
  refine lv_istore (lv' := [(4, .int (0 : Int32)), (3, .int ((jl_ushr (a0 * (-7046029254386353131 : Int64)) (49 : Int32)).toInt32)), (0, .ref q2), (1, .long a0)]) hx hb dX2_slotFor_11 hl (by decide) rfl (fun ls hl => ?_)
  exact KL13  fu a0 ((jl_ushr (a0 * (-7046029254386353131 : Int64)) (49 : Int32)).toInt32) (0 : Int32) ls (lv_sub hl [2, 3, 1, 0] rfl) hV hR
def cf_X2_keepRow_L46 (fu : Nat) (k_9 : (Nat → Int32) → Int32 → (Nat → Int32) → Int32 → Int32 → Int32 → (Nat → Int32) × Int32) : Nat → (Nat → Int32) → Int32 → (Nat → Int32) → Int32 → Int32 → Int32 → Int32 → (Nat → Int32) × Int32
  | 0, _, _, t_W, s_k, _, _, _ => (t_W, s_k)
  | n + 1, t_O, s_n, t_W, s_k, x1, x2, x3 => (if x3 < 0 then (t_W, x1) else (cf_X2_keepRow_L46 fu k_9 n) t_O s_n (upd t_W (x3).toNatClampNeg ((t_O (x2).toNatClampNeg) - (t_O (x2).toNatClampNeg) / (64 : Int32) * (64 : Int32))) s_k x1 ((t_O (x2).toNatClampNeg) / (64 : Int32)) (x3 + (-1 : Int32)))
def vc_X2_keepRow_L46 (fu : Nat) (v_9 : (Nat → Int32) → Int32 → (Nat → Int32) → Int32 → Int32 → Int32 → Prop) : Nat → (Nat → Int32) → Int32 → (Nat → Int32) → Int32 → Int32 → Int32 → Int32 → Prop
  | 0, _, _, _, _, _, _, _ => False
  | n + 1, t_O, s_n, t_W, s_k, x1, x2, x3 => ((x3 < 0 → True) ∧ (¬ x3 < 0 → (vp_in x2 20000 ∧ (vp_in x3 40 ∧ (vp_in x2 20000 ∧ (vc_X2_keepRow_L46 fu v_9 n) t_O s_n (upd t_W (x3).toNatClampNeg ((t_O (x2).toNatClampNeg) - (t_O (x2).toNatClampNeg) / (64 : Int32) * (64 : Int32))) s_k x1 ((t_O (x2).toNatClampNeg) / (64 : Int32)) (x3 + (-1 : Int32)))))))
def cf_X2_keepRow_i9_s35 (fu : Nat) (k_9 : (Nat → Int32) → Int32 → (Nat → Int32) → Int32 → Int32 → Int32 → (Nat → Int32) × Int32) (t_O : Nat → Int32) (s_n : Int32) (t_W : Nat → Int32) (s_k : Int32) (x1 : Int32) : (Nat → Int32) × Int32 :=
  cf_X2_keepRow_L46 fu k_9 fu t_O s_n t_W s_k x1 (s_n - (1 : Int32)) (x1 - (1 : Int32))
def vc_X2_keepRow_i9_s35 (fu : Nat) (v_9 : (Nat → Int32) → Int32 → (Nat → Int32) → Int32 → Int32 → Int32 → Prop) (t_O : Nat → Int32) (s_n : Int32) (t_W : Nat → Int32) (s_k : Int32) (x1 : Int32) : Prop :=
  vc_X2_keepRow_L46 fu v_9 fu t_O s_n t_W s_k x1 (s_n - (1 : Int32)) (x1 - (1 : Int32))
def cf_X2_keepRow_L9 (fu : Nat)  : Nat → (Nat → Int32) → Int32 → (Nat → Int32) → Int32 → Int32 → Int32 → (Nat → Int32) × Int32
  | 0, _, _, t_W, s_k, _, _ => (t_W, s_k)
  | n + 1, t_O, s_n, t_W, s_k, x1, x2 => (if x2 ≤ 0 then cf_X2_keepRow_i9_s35 fu (cf_X2_keepRow_L9 fu n) t_O s_n t_W s_k x1 else (if (40 : Int32) ≤ x1 then cf_X2_keepRow_i9_s35 fu (cf_X2_keepRow_L9 fu n) t_O s_n t_W s_k x1 else (cf_X2_keepRow_L9 fu n) t_O s_n t_W s_k (x1 + (1 : Int32)) ((t_O (x2).toNatClampNeg) / (64 : Int32))))
def vc_X2_keepRow_L9 (fu : Nat)  : Nat → (Nat → Int32) → Int32 → (Nat → Int32) → Int32 → Int32 → Int32 → Prop
  | 0, _, _, _, _, _, _ => False
  | n + 1, t_O, s_n, t_W, s_k, x1, x2 => ((x2 ≤ 0 → vc_X2_keepRow_i9_s35 fu (vc_X2_keepRow_L9 fu n) t_O s_n t_W s_k x1) ∧ (¬ x2 ≤ 0 → (((40 : Int32) ≤ x1 → vc_X2_keepRow_i9_s35 fu (vc_X2_keepRow_L9 fu n) t_O s_n t_W s_k x1) ∧ (¬ (40 : Int32) ≤ x1 → (vp_in x2 20000 ∧ (vc_X2_keepRow_L9 fu n) t_O s_n t_W s_k (x1 + (1 : Int32)) ((t_O (x2).toNatClampNeg) / (64 : Int32)))))))
def cf_X2_keepRow (fu : Nat) (t_O : Nat → Int32) (s_n : Int32) (t_W : Nat → Int32) (s_k : Int32)  : (Nat → Int32) × Int32 :=
  cf_X2_keepRow_L9 fu  fu t_O s_n t_W s_k (0 : Int32) (s_n - (1 : Int32))
def vc_X2_keepRow (fu : Nat) (t_O : Nat → Int32) (s_n : Int32) (t_W : Nat → Int32) (s_k : Int32)  : Prop :=
  vc_X2_keepRow_L9 fu  fu t_O s_n t_W s_k (0 : Int32) (s_n - (1 : Int32))
set_option maxHeartbeats 4000000 in
set_option maxRecDepth 100000 in
theorem c_X2_keepRow (l : Launch) (dC : Nat → ClassId) (dI : Nat → Nat → Nat) (q2 q1 q3 qs qo qh qw : Nat) (cyI cyJ : ClassId) (w_o : Int32) (w_f : Int32) (w_r : Int32) (w_b : Int32) (w_a : Int32) (w_l : Int64) (t_S : Nat → Int64) (t_O : Nat → Int32) (t_H : Nat → Int32) (s_n : Int32) (t_W : Nat → Int32) (s_k : Int32) (sz : Nat) (fu : Nat)   (hV : vc_X2_keepRow fu t_O s_n t_W s_k ) : Met l yX2_keepRow wsX2_keepRow ({ frames := 0, cells := 0, slots := 0, locals := 0 }) (mu_P [.ref q2] sz (dC, dI) kcl (se_W q2 q1 q3 qs qo qh qw cyI cyJ w_o w_f w_r w_b w_a w_l t_S t_O t_H s_n t_W s_k) [(cyI, .int), (cyJ, .long)]) (mu_Q none (dC, dI) kcl (se_W q2 q1 q3 qs qo qh qw cyI cyJ w_o w_f w_r w_b w_a w_l t_S t_O t_H s_n ((cf_X2_keepRow fu t_O s_n t_W s_k ).1) ((cf_X2_keepRow fu t_O s_n t_W s_k ).2)) (va_A (se_W q2 q1 q3 qs qo qh qw cyI cyJ w_o w_f w_r w_b w_a w_l t_S t_O t_H s_n t_W s_k) sz)) 0 0 (va_A (se_W q2 q1 q3 qs qo qh qw cyI cyJ w_o w_f w_r w_b w_a w_l t_S t_O t_H s_n t_W s_k) sz) := by
  refine Met.ofW (cc := cX2_keepRow) (maxL := 4) (ret := none) (by decide) rfl ?_
  intro p e s m args below meth c s₁ B hml hv
  obtain ⟨rfl, hsz, hP, hK, hD0⟩ := hv
  have hx := B.exec
  have hb := B.bytes
  have hr := B.returns
  have hts := atoms_spec (ws := wsX2_keepRow) B.pre
  have hown : s.vm.findClass RX2 = some m.cls := findClass_of_methodNamed B.named
  have hlocks := B.notSynchronized
  subst hsz
  have hD := hD0.self (sz := s.heap.size)
  generalize hAe : va_A (se_W q2 q1 q3 qs qo qh qw cyI cyJ w_o w_f w_r w_b w_a w_l t_S t_O t_H s_n t_W s_k) s.heap.size = A at hD ⊢
  have hA : ∀ q : Nat, s.heap.size ≤ q → A q := fun q h => by rw [← hAe]; exact Or.inr h
  have hP : va_P (dC, dI) kcl (se_W q2 q1 q3 qs qo qh qw cyI cyJ w_o w_f w_r w_b w_a w_l t_S t_O t_H s_n t_W s_k) s.heap := hP
  have h0_ : (Cond.fieldLink RX2 21 "ColourTrier$Search" "stateCount" "I").before _ s = true := hts _ (by decide +kernel)
  have h1_ : ∀ w ∈ u_ws RX2 TX2 7, w ∈ wsX2_keepRow := fun w h => List.mem_cons_of_mem _ (List.mem_append_right _ h)
  have h2_ : (Cond.fieldLink RX2 28 "ColourTrier$Search" "rowLength" "I").before _ s = true := hts _ (by decide +kernel)
  have h3_ : (Cond.fieldLink RX2 25 "ColourTrier$Search" "row" "[I").before _ s = true := hts _ (by decide +kernel)
  have h4_ : (Cond.fieldLink RX2 13 "ColourTrier$Search" "origins" "[I").before _ s = true := hts _ (by decide +kernel)
  generalize hR : (cf_X2_keepRow fu t_O s_n t_W s_k ) = R
  have KL46 : ∀ (k_9 : (Nat → Int32) → Int32 → (Nat → Int32) → Int32 → Int32 → Int32 → (Nat → Int32) × Int32) (v_9 : (Nat → Int32) → Int32 → (Nat → Int32) → Int32 → Int32 → Int32 → Prop) (H_9 : ∀ (t_W : Nat → Int32) (s_k : Int32) (x1 : Int32) (x2 : Int32) (H : Heap) (locs : List Loc) (ls : Array Slot), va_P (dC, dI) kcl (se_W q2 q1 q3 qs qo qh qw cyI cyJ w_o w_f w_r w_b w_a w_l t_S t_O t_H s_n t_W s_k) H → va_D A (se_W q2 q1 q3 qs qo qh qw cyI cyJ w_o w_f w_r w_b w_a w_l t_S t_O t_H s_n t_W s_k) → va_S A s.heap H locs → lv_has ls 4 [(0, .ref q2), (1, .int x1), (2, .int x2)] → v_9 t_O s_n t_W s_k x1 x2 → k_9 t_O s_n t_W s_k x1 x2 = R → W p l e (headSpec wsX2_keepRow ({ frames := 0, cells := 0, slots := 0, locals := 0 })).room s m ([.ref q2] : List Value).toArray below meth c H locs 0 0 (MQ below (mu_Q none (dC, dI) kcl (se_W q2 q1 q3 qs qo qh qw cyI cyJ w_o w_f w_r w_b w_a w_l t_S t_O t_H s_n R.1 R.2) A) ([.ref q2] : List Value).toArray s 0 0 A) (F0 m 9 ls [])) (n : Nat), ∀ (t_W : Nat → Int32) (s_k : Int32) (x1 : Int32) (x2 : Int32) (x3 : Int32) (H : Heap) (locs : List Loc) (ls : Array Slot), va_P (dC, dI) kcl (se_W q2 q1 q3 qs qo qh qw cyI cyJ w_o w_f w_r w_b w_a w_l t_S t_O t_H s_n t_W s_k) H → va_D A (se_W q2 q1 q3 qs qo qh qw cyI cyJ w_o w_f w_r w_b w_a w_l t_S t_O t_H s_n t_W s_k) → va_S A s.heap H locs → lv_has ls 4 [(0, .ref q2), (1, .int x1), (2, .int x2), (3, .int x3)] → vc_X2_keepRow_L46 fu v_9 n t_O s_n t_W s_k x1 x2 x3 → cf_X2_keepRow_L46 fu k_9 n t_O s_n t_W s_k x1 x2 x3 = R → W p l e (headSpec wsX2_keepRow ({ frames := 0, cells := 0, slots := 0, locals := 0 })).room s m ([.ref q2] : List Value).toArray below meth c H locs 0 0 (MQ below (mu_Q none (dC, dI) kcl (se_W q2 q1 q3 qs qo qh qw cyI cyJ w_o w_f w_r w_b w_a w_l t_S t_O t_H s_n R.1 R.2) A) ([.ref q2] : List Value).toArray s 0 0 A) (F0 m 46 ls []) := by
    intro k_9 v_9 H_9 n
    induction n with
    | zero =>
      intro t_W s_k x1 x2 x3 H locs ls hP hD hS hl hV hR
      exact absurd hV id
    | succ n ih =>
      intro t_W s_k x1 x2 x3 H locs ls hP hD hS hl hV hR
      have hR : (if x3 < 0 then (t_W, x1) else (cf_X2_keepRow_L46 fu k_9 n) t_O s_n (upd t_W (x3).toNatClampNeg ((t_O (x2).toNatClampNeg) - (t_O (x2).toNatClampNeg) / (64 : Int32) * (64 : Int32))) s_k x1 ((t_O (x2).toNatClampNeg) / (64 : Int32)) (x3 + (-1 : Int32))) = R := hR
      have hV : ((x3 < 0 → True) ∧ (¬ x3 < 0 → (vp_in x2 20000 ∧ (vp_in x3 40 ∧ (vp_in x2 20000 ∧ (vc_X2_keepRow_L46 fu v_9 n) t_O s_n (upd t_W (x3).toNatClampNeg ((t_O (x2).toNatClampNeg) - (t_O (x2).toNatClampNeg) / (64 : Int32) * (64 : Int32))) s_k x1 ((t_O (x2).toNatClampNeg) / (64 : Int32)) (x3 + (-1 : Int32))))))) := hV
      refine lv_iload_n hx hb dX2_keepRow_46 rfl (lv_at hl 3 rfl) ?_
      refine lv_if_lt (tgt := 81) hx hb dX2_keepRow_47 (by decide) (fun c_2 => ?_) (fun c_2 => ?_)
      · rw [if_pos c_2] at hR
        refine lv_aload_n hx hb dX2_keepRow_81 rfl (lv_at hl 0 rfl) ?_
        refine lv_iload_n hx hb dX2_keepRow_82 rfl (lv_at hl 1 rfl) ?_
        refine va_put (D := (dC, dI)) (ci := 1) (v := .int x1) (ty := .int) (C := RX2) (T := TX2) (N := 7) hx hb hts h1_ tyX2 tyX2_ok nmX2 hown hK hP hD hS 0 rfl rfl 6 (by decide) h2_ (fun _ h9 => h9) rfl (by decide +kernel) rfl rfl (Nat.le_of_ble_eq_true rfl) dX2_keepRow_83 (fun H locs hP hD hS => ?_)
        have hP : va_P (dC, dI) kcl (se_W q2 q1 q3 qs qo qh qw cyI cyJ w_o w_f w_r w_b w_a w_l t_S t_O t_H s_n t_W x1) H := hP
        have hD : va_D A (se_W q2 q1 q3 qs qo qh qw cyI cyJ w_o w_f w_r w_b w_a w_l t_S t_O t_H s_n t_W x1) := hD
        rw [← hR]
        exact W.vret hx hb hr (fun t ht _ => ⟨rfl, by rw [ht]; exact hP, hS.F ht⟩) hS.2.2 dX2_keepRow_86
      · rw [if_neg c_2] at hR
        have hV := hV.2 c_2
        refine lv_aload_n hx hb dX2_keepRow_50 rfl (lv_at hl 0 rfl) ?_
        refine va_get (D := (dC, dI)) (ci := 1) (v := .ref qw) (C := RX2) (T := TX2) (N := 7) hx hb hts h1_ hown hK hP 0 rfl rfl 5 (by decide) h3_ (fun _ h9 => h9) rfl dX2_keepRow_51 ?_
        refine lv_iload_n hx hb dX2_keepRow_54 rfl (lv_at hl 3 rfl) ?_
        refine lv_aload_n hx hb dX2_keepRow_55 rfl (lv_at hl 0 rfl) ?_
        refine va_get (D := (dC, dI)) (ci := 1) (v := .ref qo) (C := RX2) (T := TX2) (N := 7) hx hb hts h1_ hown hK hP 0 rfl rfl 2 (by decide) h4_ (fun _ h9 => h9) rfl dX2_keepRow_56 ?_
        refine lv_iload_n hx hb dX2_keepRow_59 rfl (lv_at hl 2 rfl) ?_
        obtain ⟨hi3, hV⟩ := hV
        refine va_iald hx hb hK hP 4 0 rfl rfl hi3 dX2_keepRow_60 ?_
        refine lv_bipush (v := (64 : Int32)) hx hb dX2_keepRow_61 (by decide +kernel) ?_
        refine lv_irem hx hb dX2_keepRow_63 (by decide +kernel) ?_
        obtain ⟨hi4, hV⟩ := hV
        refine va_iast hx hb hK hP hD hS 6 0 rfl rfl hi4 dX2_keepRow_64 (fun H locs hP hD hS => ?_)
        have hP : va_P (dC, dI) kcl (se_W q2 q1 q3 qs qo qh qw cyI cyJ w_o w_f w_r w_b w_a w_l t_S t_O t_H s_n (upd t_W (x3).toNatClampNeg ((t_O (x2).toNatClampNeg) - (t_O (x2).toNatClampNeg) / (64 : Int32) * (64 : Int32))) s_k) H := hP
        have hD : va_D A (se_W q2 q1 q3 qs qo qh qw cyI cyJ w_o w_f w_r w_b w_a w_l t_S t_O t_H s_n (upd t_W (x3).toNatClampNeg ((t_O (x2).toNatClampNeg) - (t_O (x2).toNatClampNeg) / (64 : Int32) * (64 : Int32))) s_k) := hD
        refine lv_aload_n hx hb dX2_keepRow_65 rfl (lv_at hl 0 rfl) ?_
        refine va_get (D := (dC, dI)) (ci := 1) (v := .ref qo) (C := RX2) (T := TX2) (N := 7) hx hb hts h1_ hown hK hP 0 rfl rfl 2 (by decide) h4_ (fun _ h9 => h9) rfl dX2_keepRow_66 ?_
        refine lv_iload_n hx hb dX2_keepRow_69 rfl (lv_at hl 2 rfl) ?_
        obtain ⟨hi5, hV⟩ := hV
        refine va_iald hx hb hK hP 4 0 rfl rfl hi5 dX2_keepRow_70 ?_
        refine lv_bipush (v := (64 : Int32)) hx hb dX2_keepRow_71 (by decide +kernel) ?_
        refine lv_idiv hx hb dX2_keepRow_73 (by decide +kernel) ?_
        refine lv_istore_n (lv' := [(2, .int ((t_O (x2).toNatClampNeg) / (64 : Int32))), (0, .ref q2), (1, .int x1), (3, .int x3)]) hx hb dX2_keepRow_74 rfl hl (by decide) rfl (fun ls hl => ?_)
        refine lv_iinc (v := (x3 + (-1 : Int32))) (lv' := [(3, .int (x3 + (-1 : Int32))), (2, .int ((t_O (x2).toNatClampNeg) / (64 : Int32))), (0, .ref q2), (1, .int x1)]) hx hb dX2_keepRow_75 hl (k := 3) rfl rfl (by decide) rfl (fun ls hl => ?_)
        refine lv_goto (tgt := 46) hx hb dX2_keepRow_78 (by decide) ?_
        exact ih (upd t_W (x3).toNatClampNeg ((t_O (x2).toNatClampNeg) - (t_O (x2).toNatClampNeg) / (64 : Int32) * (64 : Int32))) s_k x1 ((t_O (x2).toNatClampNeg) / (64 : Int32)) (x3 + (-1 : Int32)) H locs ls hP hD hS (lv_sub hl [2, 3, 1, 0] rfl) hV hR
  have Ki9_s35 : ∀ (k_9 : (Nat → Int32) → Int32 → (Nat → Int32) → Int32 → Int32 → Int32 → (Nat → Int32) × Int32) (v_9 : (Nat → Int32) → Int32 → (Nat → Int32) → Int32 → Int32 → Int32 → Prop) (H_9 : ∀ (t_W : Nat → Int32) (s_k : Int32) (x1 : Int32) (x2 : Int32) (H : Heap) (locs : List Loc) (ls : Array Slot), va_P (dC, dI) kcl (se_W q2 q1 q3 qs qo qh qw cyI cyJ w_o w_f w_r w_b w_a w_l t_S t_O t_H s_n t_W s_k) H → va_D A (se_W q2 q1 q3 qs qo qh qw cyI cyJ w_o w_f w_r w_b w_a w_l t_S t_O t_H s_n t_W s_k) → va_S A s.heap H locs → lv_has ls 4 [(0, .ref q2), (1, .int x1), (2, .int x2)] → v_9 t_O s_n t_W s_k x1 x2 → k_9 t_O s_n t_W s_k x1 x2 = R → W p l e (headSpec wsX2_keepRow ({ frames := 0, cells := 0, slots := 0, locals := 0 })).room s m ([.ref q2] : List Value).toArray below meth c H locs 0 0 (MQ below (mu_Q none (dC, dI) kcl (se_W q2 q1 q3 qs qo qh qw cyI cyJ w_o w_f w_r w_b w_a w_l t_S t_O t_H s_n R.1 R.2) A) ([.ref q2] : List Value).toArray s 0 0 A) (F0 m 9 ls [])) (t_W : Nat → Int32) (s_k : Int32) (x1 : Int32) (H : Heap) (locs : List Loc) (ls : Array Slot), va_P (dC, dI) kcl (se_W q2 q1 q3 qs qo qh qw cyI cyJ w_o w_f w_r w_b w_a w_l t_S t_O t_H s_n t_W s_k) H → va_D A (se_W q2 q1 q3 qs qo qh qw cyI cyJ w_o w_f w_r w_b w_a w_l t_S t_O t_H s_n t_W s_k) → va_S A s.heap H locs → lv_has ls 4 [(0, .ref q2), (1, .int x1)] → vc_X2_keepRow_i9_s35 fu v_9 t_O s_n t_W s_k x1 → cf_X2_keepRow_i9_s35 fu k_9 t_O s_n t_W s_k x1 = R → W p l e (headSpec wsX2_keepRow ({ frames := 0, cells := 0, slots := 0, locals := 0 })).room s m ([.ref q2] : List Value).toArray below meth c H locs 0 0 (MQ below (mu_Q none (dC, dI) kcl (se_W q2 q1 q3 qs qo qh qw cyI cyJ w_o w_f w_r w_b w_a w_l t_S t_O t_H s_n R.1 R.2) A) ([.ref q2] : List Value).toArray s 0 0 A) (F0 m 35 ls []) := by
    intro k_9 v_9 H_9 t_W s_k x1 H locs ls hP hD hS hl hV hR
    unfold cf_X2_keepRow_i9_s35 at hR
    unfold vc_X2_keepRow_i9_s35 at hV
    refine lv_aload_n hx hb dX2_keepRow_35 rfl (lv_at hl 0 rfl) ?_
    refine va_get (D := (dC, dI)) (ci := 1) (v := .int s_n) (C := RX2) (T := TX2) (N := 7) hx hb hts h1_ hown hK hP 0 rfl rfl 4 (by decide) h0_ (fun _ h9 => h9) rfl dX2_keepRow_36 ?_
    refine lv_iconst (v := (1 : Int32)) hx hb dX2_keepRow_39 (by decide +kernel) ?_
    refine lv_isub hx hb dX2_keepRow_40 ?_
    refine lv_istore_n (lv' := [(2, .int (s_n - (1 : Int32))), (0, .ref q2), (1, .int x1)]) hx hb dX2_keepRow_41 rfl hl (by decide) rfl (fun ls hl => ?_)
    refine lv_iload_n hx hb dX2_keepRow_42 rfl (lv_at hl 2 rfl) ?_
    refine lv_iconst (v := (1 : Int32)) hx hb dX2_keepRow_43 (by decide +kernel) ?_
    refine lv_isub hx hb dX2_keepRow_44 ?_
    refine lv_istore_n (lv' := [(3, .int (x1 - (1 : Int32))), (2, .int (s_n - (1 : Int32))), (0, .ref q2), (1, .int x1)]) hx hb dX2_keepRow_45 rfl hl (by decide) rfl (fun ls hl => ?_)
    exact KL46 k_9 v_9 H_9 fu t_W s_k x1 (s_n - (1 : Int32)) (x1 - (1 : Int32)) H locs ls hP hD hS (lv_sub hl [2, 3, 1, 0] rfl) hV hR
  have KL9 : ∀ (n : Nat), ∀ (t_W : Nat → Int32) (s_k : Int32) (x1 : Int32) (x2 : Int32) (H : Heap) (locs : List Loc) (ls : Array Slot), va_P (dC, dI) kcl (se_W q2 q1 q3 qs qo qh qw cyI cyJ w_o w_f w_r w_b w_a w_l t_S t_O t_H s_n t_W s_k) H → va_D A (se_W q2 q1 q3 qs qo qh qw cyI cyJ w_o w_f w_r w_b w_a w_l t_S t_O t_H s_n t_W s_k) → va_S A s.heap H locs → lv_has ls 4 [(0, .ref q2), (1, .int x1), (2, .int x2)] → vc_X2_keepRow_L9 fu  n t_O s_n t_W s_k x1 x2 → cf_X2_keepRow_L9 fu  n t_O s_n t_W s_k x1 x2 = R → W p l e (headSpec wsX2_keepRow ({ frames := 0, cells := 0, slots := 0, locals := 0 })).room s m ([.ref q2] : List Value).toArray below meth c H locs 0 0 (MQ below (mu_Q none (dC, dI) kcl (se_W q2 q1 q3 qs qo qh qw cyI cyJ w_o w_f w_r w_b w_a w_l t_S t_O t_H s_n R.1 R.2) A) ([.ref q2] : List Value).toArray s 0 0 A) (F0 m 9 ls []) := by
    intro n
    induction n with
    | zero =>
      intro t_W s_k x1 x2 H locs ls hP hD hS hl hV hR
      exact absurd hV id
    | succ n ih =>
      intro t_W s_k x1 x2 H locs ls hP hD hS hl hV hR
      have hR : (if x2 ≤ 0 then cf_X2_keepRow_i9_s35 fu (cf_X2_keepRow_L9 fu n) t_O s_n t_W s_k x1 else (if (40 : Int32) ≤ x1 then cf_X2_keepRow_i9_s35 fu (cf_X2_keepRow_L9 fu n) t_O s_n t_W s_k x1 else (cf_X2_keepRow_L9 fu n) t_O s_n t_W s_k (x1 + (1 : Int32)) ((t_O (x2).toNatClampNeg) / (64 : Int32)))) = R := hR
      have hV : ((x2 ≤ 0 → vc_X2_keepRow_i9_s35 fu (vc_X2_keepRow_L9 fu n) t_O s_n t_W s_k x1) ∧ (¬ x2 ≤ 0 → (((40 : Int32) ≤ x1 → vc_X2_keepRow_i9_s35 fu (vc_X2_keepRow_L9 fu n) t_O s_n t_W s_k x1) ∧ (¬ (40 : Int32) ≤ x1 → (vp_in x2 20000 ∧ (vc_X2_keepRow_L9 fu n) t_O s_n t_W s_k (x1 + (1 : Int32)) ((t_O (x2).toNatClampNeg) / (64 : Int32))))))) := hV
      refine lv_iload_n hx hb dX2_keepRow_9 rfl (lv_at hl 2 rfl) ?_
      refine lv_if_le (tgt := 35) hx hb dX2_keepRow_10 (by decide) (fun c_1 => ?_) (fun c_1 => ?_)
      · rw [if_pos c_1] at hR
        have hV := hV.1 c_1
        exact Ki9_s35 (cf_X2_keepRow_L9 fu n) (vc_X2_keepRow_L9 fu n) ih t_W s_k x1 H locs ls hP hD hS (lv_sub hl [0, 1] rfl) hV hR
      · rw [if_neg c_1] at hR
        have hV := hV.2 c_1
        refine lv_iload_n hx hb dX2_keepRow_13 rfl (lv_at hl 1 rfl) ?_
        refine lv_bipush (v := (40 : Int32)) hx hb dX2_keepRow_14 (by decide +kernel) ?_
        refine lv_icmp_ge (tgt := 35) hx hb dX2_keepRow_16 (by decide) (fun c_6 => ?_) (fun c_6 => ?_)
        · rw [if_pos c_6] at hR
          have hV := hV.1 c_6
          exact Ki9_s35 (cf_X2_keepRow_L9 fu n) (vc_X2_keepRow_L9 fu n) ih t_W s_k x1 H locs ls hP hD hS (lv_sub hl [0, 1] rfl) hV hR
        · rw [if_neg c_6] at hR
          have hV := hV.2 c_6
          refine lv_iinc (v := (x1 + (1 : Int32))) (lv' := [(1, .int (x1 + (1 : Int32))), (0, .ref q2), (2, .int x2)]) hx hb dX2_keepRow_19 hl (k := 1) rfl rfl (by decide) rfl (fun ls hl => ?_)
          refine lv_aload_n hx hb dX2_keepRow_22 rfl (lv_at hl 1 rfl) ?_
          refine va_get (D := (dC, dI)) (ci := 1) (v := .ref qo) (C := RX2) (T := TX2) (N := 7) hx hb hts h1_ hown hK hP 0 rfl rfl 2 (by decide) h4_ (fun _ h9 => h9) rfl dX2_keepRow_23 ?_
          refine lv_iload_n hx hb dX2_keepRow_26 rfl (lv_at hl 2 rfl) ?_
          obtain ⟨hi7, hV⟩ := hV
          refine va_iald hx hb hK hP 4 0 rfl rfl hi7 dX2_keepRow_27 ?_
          refine lv_bipush (v := (64 : Int32)) hx hb dX2_keepRow_28 (by decide +kernel) ?_
          refine lv_idiv hx hb dX2_keepRow_30 (by decide +kernel) ?_
          refine lv_istore_n (lv' := [(2, .int ((t_O (x2).toNatClampNeg) / (64 : Int32))), (1, .int (x1 + (1 : Int32))), (0, .ref q2)]) hx hb dX2_keepRow_31 rfl hl (by decide) rfl (fun ls hl => ?_)
          refine lv_goto (tgt := 9) hx hb dX2_keepRow_32 (by decide) ?_
          exact ih t_W s_k (x1 + (1 : Int32)) ((t_O (x2).toNatClampNeg) / (64 : Int32)) H locs ls hP hD hS (lv_sub hl [2, 1, 0] rfl) hV hR
  have hl := lv_entry ([.ref q2]) (n := 4) (Nat.le_of_ble_eq_true rfl)
  rw [lg_entry_eq]
  generalize (lg_sl ([.ref q2]) ++ List.replicate (4 - (lg_sl ([.ref q2])).length) Slot.unset).toArray = ls at hl ⊢
  have hl : lv_has ls 4 [(0, .ref q2)] := hl
  unfold cf_X2_keepRow at hR
  unfold vc_X2_keepRow at hV
  refine mu_start (A := A) (fun H locs hP hS => ?_) hP
  refine lv_iconst (v := (0 : Int32)) hx hb dX2_keepRow_0 (by decide +kernel) ?_
  refine lv_istore_n (lv' := [(1, .int (0 : Int32)), (0, .ref q2)]) hx hb dX2_keepRow_1 rfl hl (by decide) rfl (fun ls hl => ?_)
  refine lv_aload_n hx hb dX2_keepRow_2 rfl (lv_at hl 1 rfl) ?_
  refine va_get (D := (dC, dI)) (ci := 1) (v := .int s_n) (C := RX2) (T := TX2) (N := 7) hx hb hts h1_ hown hK hP 0 rfl rfl 4 (by decide) h0_ (fun _ h9 => h9) rfl dX2_keepRow_3 ?_
  refine lv_iconst (v := (1 : Int32)) hx hb dX2_keepRow_6 (by decide +kernel) ?_
  refine lv_isub hx hb dX2_keepRow_7 ?_
  refine lv_istore_n (lv' := [(2, .int (s_n - (1 : Int32))), (1, .int (0 : Int32)), (0, .ref q2)]) hx hb dX2_keepRow_8 rfl hl (by decide) rfl (fun ls hl => ?_)
  exact KL9  fu t_W s_k (0 : Int32) (s_n - (1 : Int32)) H locs ls hP hD hS (lv_sub hl [2, 1, 0] rfl) hV hR

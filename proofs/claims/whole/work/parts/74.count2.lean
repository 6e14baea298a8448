/-! the class counts the same acts; its first STATE -/
section CQ
variable {o f r b fu : Nat} {D : ab_D} {wo wa : Int32} {wl : Int64}
theorem ab_s_m1 (h : ab_B D) : ab_s D ≠ -1 := by
  intro e
  have h1 : (ab_s D).toInt = (ab_sN D : Int) := pk_lT (Nat.lt_trans (ab_s_lt h) (by decide))
  rw [e] at h1
  have h2 : ((-1 : Int64)).toInt = -1 := by decide +kernel
  rw [h2] at h1
  omega
theorem ab_s_inj {D' : ab_D} (h : ab_B D) (h' : ab_B D') : ab_s D = ab_s D' ↔ ab_nN D = ab_nN D' := (pk_lEQ (Nat.lt_trans (ab_s_lt h) (by decide)) (Nat.lt_trans (ab_s_lt h') (by decide))).trans (ab_iff h h')
theorem ab_n_inj {D' : ab_D} (h : ab_B D) (h' : ab_B D') : ab_n D = ab_n D' ↔ ab_nN D = ab_nN D' := pk_lEQ (Nat.lt_trans (ab_n_lt h) (by decide)) (Nat.lt_trans (ab_n_lt h') (by decide))
/-- the last act that is tried -/
def sp_last (D : ab_D) : Nat := if D 4 1 = 0 ∨ D 4 2 = 1 then 1 else 49
theorem sp_last_lt : sp_last D < 50 := by unfold sp_last; split <;> omega
theorem sp_last_no {k : Nat} (h1 : sp_last D < k) (h2 : k < 50) : sp_can f r D k = false := by
  unfold sp_last at h1
  split at h1
  · rename_i q
    unfold sp_can
    by_cases z : D 4 2 = 1
    · rw [if_pos z]
    · rw [if_neg z, if_neg (by omega), if_neg (by omega), if_pos (q.resolve_right z)]
  · omega
theorem cs_last {wf wr wb : Int32} (h : ab_B D) : cf_X1_lastActToTry wo wf wr wb wa wl (ab_s D) = nI (sp_last D) := by
  have h1 := h.2.2.2.2.1
  unfold cf_X1_lastActToTry cf_X1_lastActToTry_s19 sp_last
  rw [cs_actsLeft h, cs_isOver h]
  by_cases a : D 4 1 = 0
  · rw [a, if_pos (by decide +kernel), if_pos (Or.inl rfl)]; rfl
  · rw [if_neg (fun y => a (by have := (nl_le (c := 0) (show D 4 1 < 200 by omega) (by omega)).mp y; omega))]
    by_cases z : D 4 2 = 1
    · rw [if_pos z, if_neg (by decide +kernel), if_pos (Or.inr z)]; rfl
    · rw [if_neg z, if_pos rfl, if_neg (fun q => q.elim a z)]; rfl
theorem cq_L (hw : ab_W o f r) (h : ab_V o f r D) (hb : b < 128) {last : Nat} (hl : last < 50) : ∀ (j k n m : Nat), k + j = last + 1 → j < m →
    cf_X1_possibleActs_L12 fu m wo (nI f) (nI r) (nI b) wa wl (ab_s D) (nI n) (nI last) (nI k) = nI (sp_c f r D j k n) ∧ vc_X1_possibleActs_L12 fu m wo (nI f) (nI r) (nI b) wa wl (ab_s D) (nI n) (nI last) (nI k)
  | _, _, _, 0, _, hm => absurd hm (Nat.not_lt_zero _)
  | 0, k, n, m + 1, hk, _ => by
    have y : nI last < nI k := nI_lt (by omega) (by omega)
    refine ⟨?_, fun _ => trivial, fun q => absurd y q⟩
    show (if nI last < nI k then nI n else _) = nI n
    rw [if_pos y]
  | j + 1, k, n, m + 1, hk, hm => by
    have y : ¬ nI last < nI k := nI_nlt (by omega) (by omega)
    have e := cs_behind (wo := wo) (wa := wa) (wl := wl) hw h hb (show k < 50 by omega)
    by_cases c : sp_can f r D k = true
    · rw [if_pos c] at e
      have y2 : ¬ lg_cmp (cf_X1_behind wo (nI f) (nI r) (nI b) wa wl (ab_s D) (nI k)) (-1 : Int64) = 0 := by
        rw [e, lg_cmp_eq]; exact ab_s_m1 ((sp_act_V hw h (by omega) c).B hw)
      have ih := cq_L hw h hb hl j (k + 1) (n + 1) m (by omega) (by omega)
      rw [← nI_1 k, ← nI_1 n] at ih
      have z : sp_c f r D (j + 1) k n = sp_c f r D j (k + 1) (n + 1) := by show sp_c f r D j (k + 1) _ = _; rw [if_pos c]
      rw [z]
      refine ⟨?_, fun q => absurd q y, fun _ => ⟨fun q => absurd q y2, fun _ => ih.2⟩⟩
      show (if nI last < nI k then _ else if lg_cmp _ _ = 0 then _ else _) = _
      rw [if_neg y, if_neg y2]
      exact ih.1
    · rw [if_neg c] at e
      have y2 : lg_cmp (cf_X1_behind wo (nI f) (nI r) (nI b) wa wl (ab_s D) (nI k)) (-1 : Int64) = 0 := by rw [e, lg_cmp_eq]
      have ih := cq_L hw h hb hl j (k + 1) n m (by omega) (by omega)
      rw [← nI_1 k] at ih
      have z : sp_c f r D (j + 1) k n = sp_c f r D j (k + 1) n := by show sp_c f r D j (k + 1) _ = _; rw [if_neg c]
      rw [z]
      refine ⟨?_, fun q => absurd q y, fun _ => ⟨fun _ => ih.2, fun q => absurd y2 q⟩⟩
      show (if nI last < nI k then _ else if lg_cmp _ _ = 0 then _ else _) = _
      rw [if_neg y, if_pos y2]
      exact ih.1
theorem sp_n_last : sp_n f r D = sp_c f r D (sp_last D + 1) 0 0 := by
  have hl := sp_last_lt (D := D)
  unfold sp_n
  rw [show 50 = (sp_last D + 1) + (49 - sp_last D) by omega, sp_c_add]
  exact sp_c_z _ _ _ (fun i h1 h2 => sp_last_no (by omega) (by omega))
theorem cs_many (hw : ab_W o f r) (h : ab_V o f r D) (hb : b < 128) (hfu : 51 < fu) : cf_X1_possibleActs fu wo (nI f) (nI r) (nI b) wa wl (ab_s D) = nI (sp_n f r D) ∧ vc_X1_possibleActs fu wo (nI f) (nI r) (nI b) wa wl (ab_s D) := by
  have hl := sp_last_lt (D := D)
  have q := cq_L (fu := fu) (wo := wo) (wa := wa) (wl := wl) hw h hb hl (sp_last D + 1) 0 0 fu (by omega) (by omega)
  unfold cf_X1_possibleActs vc_X1_possibleActs
  rw [cs_last (h.B hw), sp_n_last]
  exact q
theorem sp_n_le : ∀ (m k n : Nat), sp_c f r D m k n ≤ n + m
  | 0, _, n => Nat.le_refl n
  | m + 1, k, n => by
    have := sp_n_le m (k + 1) (if sp_can f r D k = true then n + 1 else n)
    show sp_c f r D m (k + 1) _ ≤ _
    split at this <;> split <;> first | omega | (rename_i q1 q2; exact absurd q1 q2) | (rename_i q1 q2; exact absurd q2 q1)
end CQ
/-- the class's first STATE -/
theorem cs_firstState {o f r a : Nat} {E : ab_D} {wo wf wr wb : Int32} (hw : ab_W o f r) (h : ab_L o f r E) (ha : a ≤ 8) : cf_X3_firstState wo wf wr wb (nI a) (ab_s (ab_1 E 0)) = ab_s (ab_1 E a) := by
  unfold cf_X3_firstState
  rw [cs_withActsLeft ((ab_1V hw h (Nat.zero_le 8)).B hw) (by omega)]
  exact congrArg lN (ab_E.sN (D' := ab_1 E a) ⟨fun _ _ => rfl, fun _ _ => rfl, fun _ _ => ⟨rfl, rfl⟩, rfl, rfl, rfl⟩)

/-! the acts keep a STATE a STATE of its set-up -/
theorem ab_V.F {o f r k : Nat} {D : ab_D} (h : ab_V o f r D) (hk : k < 8) : D 0 k ≤ o := (h.1 k hk).1
theorem ab_V.F0 {o f r k : Nat} {D : ab_D} (h : ab_V o f r D) (hk : k < 8) (h2 : o ≤ k / 2 ∨ f ≤ k % 2) : D 0 k = 0 := (h.1 k hk).2 h2
theorem ab_V.R {o f r k : Nat} {D : ab_D} (h : ab_V o f r D) (hk : k < 3) : D 1 k ≤ o := (h.2.1 k hk).1
theorem ab_V.R0 {o f r k : Nat} {D : ab_D} (h : ab_V o f r D) (hk : k < 3) (h2 : r ≤ k) : D 1 k = 0 := (h.2.1 k hk).2 h2
theorem ab_V.C {o f r k : Nat} {D : ab_D} (h : ab_V o f r D) (hk : k < 4) : D 2 k ≤ 2 := (h.2.2.1 k hk).1
theorem ab_V.C0 {o f r k : Nat} {D : ab_D} (h : ab_V o f r D) (hk : k < 4) (h2 : o ≤ k) : D 2 k = 0 := (h.2.2.1 k hk).2.1 h2
theorem ab_V.L {o f r k : Nat} {D : ab_D} (h : ab_V o f r D) (hk : k < 4) : D 3 k < f := (h.2.2.1 k hk).2.2.1
theorem ab_V.L0 {o f r k : Nat} {D : ab_D} (h : ab_V o f r D) (hk : k < 4) (h2 : D 2 k ≠ 1) : D 3 k = 0 := (h.2.2.1 k hk).2.2.2 h2
/-- FIELDS alone -/
theorem ab_V.setF {o f r j v : Nat} {D : ab_D} (h : ab_V o f r D) (hv : v ≤ o) (hz : o ≤ j / 2 ∨ f ≤ j % 2 → v = 0) : ab_V o f r (ab_up D 0 j v) := by
  obtain ⟨h1, h2, h3, h4⟩ := h
  refine ⟨fun k hk => ?_, fun k hk => ?_, fun k hk => ?_, ?_⟩
  · by_cases e : k = j
    · subst e; rw [ab_us]; exact ⟨hv, hz⟩
    · rw [ab_un _ _ (by omega)]; exact h1 k hk
  · rw [ab_un _ _ (by omega)]; exact h2 k hk
  · rw [ab_un _ _ (by omega), ab_un _ _ (by omega)]; exact h3 k hk
  · rw [ab_un _ _ (by omega), ab_un _ _ (by omega), ab_un _ _ (by omega)]; exact h4
theorem ab_V.setR {o f r j v : Nat} {D : ab_D} (h : ab_V o f r D) (hv : v ≤ o) (hz : r ≤ j → v = 0) : ab_V o f r (ab_up D 1 j v) := by
  obtain ⟨h1, h2, h3, h4⟩ := h
  refine ⟨fun k hk => ?_, fun k hk => ?_, fun k hk => ?_, ?_⟩
  · rw [ab_un _ _ (by omega)]; exact h1 k hk
  · by_cases e : k = j
    · subst e; rw [ab_us]; exact ⟨hv, hz⟩
    · rw [ab_un _ _ (by omega)]; exact h2 k hk
  · rw [ab_un _ _ (by omega), ab_un _ _ (by omega)]; exact h3 k hk
  · rw [ab_un _ _ (by omega), ab_un _ _ (by omega), ab_un _ _ (by omega)]; exact h4
/-- a colour, and how many FIELDS were looked at -/
theorem ab_V.setC {o f r j v w : Nat} {D : ab_D} (h : ab_V o f r D) (hv : v ≤ 2) (hz : o ≤ j → v = 0) (hw : w < f) (hw2 : v ≠ 1 → w = 0) : ab_V o f r (ab_up (ab_up D 2 j v) 3 j w) := by
  obtain ⟨h1, h2, h3, h4⟩ := h
  refine ⟨fun k hk => ?_, fun k hk => ?_, fun k hk => ?_, ?_⟩
  · rw [ab_un _ _ (by omega), ab_un _ _ (by omega)]; exact h1 k hk
  · rw [ab_un _ _ (by omega), ab_un _ _ (by omega)]; exact h2 k hk
  · by_cases e : k = j
    · subst e; rw [ab_us, ab_un _ _ (by omega), ab_us]; exact ⟨hv, hz, hw, hw2⟩
    · rw [ab_un _ _ (by omega), ab_un _ _ (by omega), ab_un _ _ (by omega), ab_un _ _ (by omega)]; exact h3 k hk
  · rw [ab_un _ _ (by omega), ab_un _ _ (by omega), ab_un _ _ (by omega), ab_un _ _ (by omega), ab_un _ _ (by omega), ab_un _ _ (by omega)]; exact h4
theorem ab_V.setX {o f r j v : Nat} {D : ab_D} (h : ab_V o f r D) (h0 : j = 0 → v ≤ r) (h1 : j = 1 → v ≤ 8) (h2 : j = 2 → v ≤ 1) : ab_V o f r (ab_up D 4 j v) := by
  obtain ⟨a1, a2, a3, a4, a5, a6⟩ := h
  refine ⟨fun k hk => ?_, fun k hk => ?_, fun k hk => ?_, ?_, ?_, ?_⟩
  · rw [ab_un _ _ (by omega)]; exact a1 k hk
  · rw [ab_un _ _ (by omega)]; exact a2 k hk
  · rw [ab_un _ _ (by omega), ab_un _ _ (by omega)]; exact a3 k hk
  · by_cases e : j = 0
    · subst e; rw [ab_us]; exact h0 rfl
    · rw [ab_un _ _ (by omega)]; exact a4
  · by_cases e : j = 1
    · subst e; rw [ab_us]; exact h1 rfl
    · rw [ab_un _ _ (by omega)]; exact a5
  · by_cases e : j = 2
    · subst e; rw [ab_us]; exact h2 rfl
    · rw [ab_un _ _ (by omega)]; exact a6
theorem sp_w_iff {D : ab_D} {t : Nat} : sp_w D t = true ↔ t ≠ 0 ∧ D 2 (t - 1) = 0 := by simp [sp_w]
theorem sp_g_V {o f r t : Nat} {D : ab_D} (hw : ab_W o f r) (h : ab_V o f r D) (ht : t ≤ o) : ab_V o f r (sp_g D t) := by
  unfold sp_g
  split
  · rename_i hx
    obtain ⟨x1, x2⟩ := sp_w_iff.mp hx
    exact h.setC (by omega) (fun q => by omega) (by have := hw.2.2.1; omega) (fun q => absurd rfl q)
  · exact h
theorem sp_gb_V {o f r t b i : Nat} {D : ab_D} (hw : ab_W o f r) (h : ab_V o f r D) (ht : t ≤ o) : ab_V o f r (sp_gb b i D t) := by
  unfold sp_gb
  split
  · exact sp_g_V hw h ht
  · exact h
/-- what a greying leaves -/
theorem sp_g_ne {D : ab_D} {t a b : Nat} (h2 : a ≠ 2) (h3 : a ≠ 3) : sp_g D t a b = D a b := by
  unfold sp_g
  split
  · rw [ab_un _ _ (by omega), ab_un _ _ (by omega)]
  · rfl
theorem sp_gb_ne {D : ab_D} {t a b c i : Nat} (h2 : a ≠ 2) (h3 : a ≠ 3) : sp_gb c i D t a b = D a b := by
  unfold sp_gb
  split
  · exact sp_g_ne h2 h3
  · rfl
theorem sp_g_nw {D : ab_D} {t j : Nat} (h : D 2 j ≠ 0) : sp_g D t 2 j = D 2 j ∧ sp_g D t 3 j = D 3 j := by
  unfold sp_g
  split
  · rename_i hx
    obtain ⟨x1, x2⟩ := sp_w_iff.mp hx
    have : j ≠ t - 1 := fun q => h (by rw [q]; exact x2)
    rw [ab_un _ _ (by omega), ab_un _ _ (by omega), ab_un _ _ (by omega), ab_un _ _ (by omega)]
    exact ⟨rfl, rfl⟩
  · exact ⟨rfl, rfl⟩
theorem sp_lg_spec (D : ab_D) : (sp_lg D < 4 ∧ D 2 (sp_lg D) = 1 ∧ ∀ j, j < sp_lg D → D 2 j ≠ 1) ∨ (sp_lg D = 4 ∧ ∀ j, j < 4 → D 2 j ≠ 1) := by
  unfold sp_lg
  by_cases h0 : D 2 0 = 1
  · left; rw [if_pos h0]; exact ⟨by omega, h0, fun j hj => by omega⟩
  rw [if_neg h0]
  by_cases h1 : D 2 1 = 1
  · left; rw [if_pos h1]; exact ⟨by omega, h1, fun j hj => by rw [show j = 0 by omega]; exact h0⟩
  rw [if_neg h1]
  by_cases h2 : D 2 2 = 1
  · left; rw [if_pos h2]; exact ⟨by omega, h2, fun j hj => by rcases (show j = 0 ∨ j = 1 by omega) with rfl | rfl <;> assumption⟩
  rw [if_neg h2]
  by_cases h3 : D 2 3 = 1
  · left; rw [if_pos h3]; exact ⟨by omega, h3, fun j hj => by rcases (show j = 0 ∨ j = 1 ∨ j = 2 by omega) with rfl | rfl | rfl <;> assumption⟩
  rw [if_neg h3]
  right
  exact ⟨rfl, fun j hj => by rcases (show j = 0 ∨ j = 1 ∨ j = 2 ∨ j = 3 by omega) with rfl | rfl | rfl | rfl <;> assumption⟩
theorem sp_look_V {o f r : Nat} {D : ab_D} (hw : ab_W o f r) (h : ab_V o f r D) (hc : D 4 0 < r ∨ sp_lg D < 4) : ab_V o f r (sp_look f r D) := by
  unfold sp_look
  split
  · rename_i hr
    have hw3 := hw.2.2.2.2.2
    exact (sp_g_V hw h (h.R (by omega))).setX (fun _ => by omega) (fun q => by omega) (fun q => by omega)
  · rename_i hr
    have hk : sp_lg D < 4 := by omega
    obtain ⟨-, hg, -⟩ | ⟨q, -⟩ := sp_lg_spec D
    · have hl := h.L hk
      have hf2 := hw.2.2.2.1
      have hj : 2 * sp_lg D + D 3 (sp_lg D) < 8 := by omega
      have h1 := sp_g_V hw h (h.F hj)
      obtain ⟨e1, e2⟩ := sp_g_nw (D := D) (t := D 0 (2 * sp_lg D + D 3 (sp_lg D))) (j := sp_lg D) (by omega)
      have ho : sp_lg D < o := by
        rcases Nat.lt_or_ge (sp_lg D) o with q | q
        · exact q
        · have := h.C0 hk q; omega
      split
      · rename_i hlt
        have h2 := h1.setC (j := sp_lg D) (v := 1) (w := D 3 (sp_lg D) + 1) (by omega) (fun q => by omega) hlt (fun q => absurd rfl q)
        have e3 : ab_up (ab_up (sp_g D (D 0 (2 * sp_lg D + D 3 (sp_lg D)))) 2 (sp_lg D) 1) 3 (sp_lg D) (D 3 (sp_lg D) + 1) = ab_up (sp_g D (D 0 (2 * sp_lg D + D 3 (sp_lg D)))) 3 (sp_lg D) (D 3 (sp_lg D) + 1) := by
          funext a b
          by_cases q : a = 3 ∧ b = sp_lg D
          · rw [q.1, q.2, ab_us, ab_us]
          · rw [ab_un _ _ q, ab_un _ _ q]
            by_cases q2 : a = 2 ∧ b = sp_lg D
            · rw [q2.1, q2.2, ab_us, e1, hg]
            · rw [ab_un _ _ q2]
        rw [← e3]; exact h2
      · exact h1.setC (by omega) (fun q => by omega) (by have := hw.2.2.1; omega) (fun _ => rfl)
    · omega
theorem sp_end_V {o f r b : Nat} {D : ab_D} (hw : ab_W o f r) (h : ab_V o f r D) : ab_V o f r (sp_end b D) := by
  unfold sp_end
  split
  · exact sp_g_V hw (sp_g_V hw (sp_g_V hw h (h.R (by omega))) (h.R (by omega))) (h.R (by omega))
  · exact h.setX (fun q => by omega) (fun q => by omega) (fun _ => by omega)
theorem sp_sp_V {o f r : Nat} {D : ab_D} (h : ab_V o f r D) : ab_V o f r (sp_sp D) := h.setX (fun q => by omega) (fun _ => by have := h.2.2.2.2.1; omega) (fun q => by omega)
theorem sp_root_V {o f r b a t : Nat} {D : ab_D} (hw : ab_W o f r) (h : ab_V o f r D) (ha : a < r) (ht : t ≤ o) : ab_V o f r (sp_root b D a t) := by
  have hw3 := hw.2.2.2.2.2
  exact (sp_gb_V hw (sp_gb_V hw h (h.R (by omega))) ht).setR ht (fun q => by omega)
theorem sp_s1_V {o f r b x t k : Nat} {D : ab_D} (hw : ab_W o f r) (h : ab_V o f r D) (hx : x < o) (hk : k < f) (ht : t ≤ o) : ab_V o f r (sp_s1 b D x t k) := by
  obtain ⟨w1, w2, w3, w4, w5, w6⟩ := id hw
  exact sp_gb_V hw (sp_gb_V hw h (h.F (by omega))) ht
theorem sp_s2_V {o f r b x t k : Nat} {D : ab_D} (hw : ab_W o f r) (h : ab_V o f r D) (hx : x < o) (hk : k < f) (ht : t ≤ o) : ab_V o f r (sp_s2 b D x t k) := by
  unfold sp_s2
  split
  · exact sp_g_V hw (sp_s1_V hw h hx hk ht) ht
  · exact sp_s1_V hw h hx hk ht
theorem sp_s3_V {o f r b x t k : Nat} {D : ab_D} (hw : ab_W o f r) (h : ab_V o f r D) (hx : x < o) (hk : k < f) (ht : t ≤ o) : ab_V o f r (sp_s3 b D x t k) := by
  obtain ⟨w1, w2, w3, w4, w5, w6⟩ := id hw
  unfold sp_s3
  split
  · exact (sp_s2_V hw h hx hk ht).setC (by omega) (fun q => by omega) (by omega) (fun q => absurd rfl q)
  · exact sp_s2_V hw h hx hk ht
theorem sp_store_V {o f r b a c k : Nat} {D : ab_D} (hw : ab_W o f r) (h : ab_V o f r D) (ha : a < r) (hc : c < r) (hk : k < f) (h0 : D 1 a ≠ 0) : ab_V o f r (sp_store b D a c k) := by
  obtain ⟨w1, w2, w3, w4, w5, w6⟩ := id hw
  have h1 := h.R (k := a) (by omega)
  have h2 := h.R (k := c) (by omega)
  exact (sp_s3_V hw h (by omega) hk h2).setF h2 (fun q => by omega)
theorem sp_sp_ne {D : ab_D} {a b : Nat} (h : a ≠ 4) : sp_sp D a b = D a b := ab_un _ _ (by omega)
theorem sp_act_V {o f r b k : Nat} {D : ab_D} (hw : ab_W o f r) (h : ab_V o f r D) (hk : k < 50) (hc : sp_can f r D k = true) : ab_V o f r (sp_act f r b D k) := by
  obtain ⟨w1, w2, w3, w4, w5, w6⟩ := id hw
  unfold sp_can at hc
  unfold sp_act
  split at hc
  · cases hc
  rename_i hov
  by_cases k0 : k = 0
  · rw [if_pos k0] at hc ⊢
    simp only [Bool.or_eq_true, decide_eq_true_eq] at hc
    exact sp_look_V hw h hc
  rw [if_neg k0] at hc ⊢
  by_cases k1 : k = 1
  · rw [if_pos k1]
    exact sp_end_V hw h
  rw [if_neg k1] at hc ⊢
  split at hc
  · cases hc
  rename_i hleft
  have hs := sp_sp_V h
  by_cases k2 : k < 11
  · rw [if_pos k2] at hc ⊢
    simp only [Bool.and_eq_true, decide_eq_true_eq] at hc
    exact sp_root_V hw hs hc.1.1 (h.R (by omega))
  rw [if_neg k2] at hc ⊢
  by_cases k3 : 47 ≤ k
  · rw [if_pos k3] at hc
    rw [if_neg (by omega), if_neg (by omega)]
    simp only [decide_eq_true_eq] at hc
    exact sp_root_V hw hs hc (Nat.zero_le _)
  rw [if_neg k3] at hc
  by_cases k4 : k < 29
  · rw [if_pos k4] at hc ⊢
    simp only [Bool.and_eq_true, decide_eq_true_eq] at hc
    obtain ⟨⟨⟨c1, c2⟩, c3⟩, c4⟩ := hc
    have h1 := h.R (k := (k - 11) % 6 / 2) (by omega)
    exact sp_root_V hw hs c1 (h.F (by omega))
  · rw [if_neg k4] at hc ⊢
    rw [if_pos (show k < 47 by omega)]
    simp only [Bool.and_eq_true, decide_eq_true_eq] at hc
    obtain ⟨⟨⟨c1, c2⟩, c3⟩, c4⟩ := hc
    exact sp_store_V hw hs c1 c2 c3 (by rw [sp_sp_ne (by omega)]; exact c4)

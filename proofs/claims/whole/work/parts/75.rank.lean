/-! every act brings the end nearer -/
def rk_o (f c l : Nat) : Nat := if c = 0 then 3 else if c = 1 then f - l else 0
def rk (f r : Nat) (D : ab_D) : Nat := 3 * D 4 1 + (rk_o f (D 2 0) (D 3 0) + rk_o f (D 2 1) (D 3 1) + rk_o f (D 2 2) (D 3 2) + rk_o f (D 2 3) (D 3 3)) + (r - D 4 0) + (1 - D 4 2)
section RK
variable {o f r b : Nat} {D : ab_D}
theorem rk_le (f c l : Nat) (hf : f ≤ 2) : rk_o f c l ≤ 3 := by unfold rk_o; split; omega; split <;> omega
/-- one OBJECT changes -/
theorem rk_x {x c l : Nat} (hx : x < 4) : rk f r (ab_up (ab_up D 2 x c) 3 x l) + rk_o f (D 2 x) (D 3 x) = rk f r D + rk_o f c l := by
  unfold rk
  rw [show ab_up (ab_up D 2 x c) 3 x l 4 1 = D 4 1 by rw [ab_un _ _ (by omega), ab_un _ _ (by omega)], show ab_up (ab_up D 2 x c) 3 x l 4 0 = D 4 0 by rw [ab_un _ _ (by omega), ab_un _ _ (by omega)], show ab_up (ab_up D 2 x c) 3 x l 4 2 = D 4 2 by rw [ab_un _ _ (by omega), ab_un _ _ (by omega)]]
  have e2 : ∀ k, ab_up (ab_up D 2 x c) 3 x l 2 k = if k = x then c else D 2 k := by
    intro k; rw [ab_un _ _ (by omega)]; unfold ab_up; by_cases q : k = x <;> simp [q]
  have e3 : ∀ k, ab_up (ab_up D 2 x c) 3 x l 3 k = if k = x then l else D 3 k := by
    intro k
    by_cases q : k = x
    · rw [if_pos q, q, ab_us]
    · rw [if_neg q, ab_un _ _ (by omega), ab_un _ _ (by omega)]
  simp only [e2, e3]
  rcases (show x = 0 ∨ x = 1 ∨ x = 2 ∨ x = 3 by omega) with rfl | rfl | rfl | rfl <;> simp <;> omega
theorem rk_3 {x l : Nat} (hx : x < 4) : rk f r (ab_up D 3 x l) + rk_o f (D 2 x) (D 3 x) = rk f r D + rk_o f (D 2 x) l := by
  have e : ab_up D 3 x l = ab_up (ab_up D 2 x (D 2 x)) 3 x l := by
    funext i k
    unfold ab_up
    by_cases q1 : i = 3 ∧ k = x
    · rw [if_pos q1, if_pos q1]
    · rw [if_neg q1, if_neg q1]
      by_cases q2 : i = 2 ∧ k = x
      · rw [if_pos q2, q2.1, q2.2]
      · rw [if_neg q2]
  rw [e]; exact rk_x hx
theorem rk_01 {i k v : Nat} (hi : i < 2) : rk f r (ab_up D i k v) = rk f r D := by
  unfold rk
  rw [ab_un _ _ (by omega), ab_un _ _ (by omega), ab_un _ _ (by omega), ab_un _ _ (by omega), ab_un _ _ (by omega), ab_un _ _ (by omega), ab_un _ _ (by omega), ab_un _ _ (by omega), ab_un _ _ (by omega), ab_un _ _ (by omega), ab_un _ _ (by omega)]
theorem rk_g (hf : 1 ≤ f) (hf2 : f ≤ 2) {t : Nat} (ht : t ≤ 4) : rk f r (sp_g D t) ≤ rk f r D ∧ (sp_w D t = true → rk f r (sp_g D t) < rk f r D) := by
  unfold sp_g
  by_cases q : sp_w D t = true
  · rw [if_pos q]
    obtain ⟨q0, q1⟩ := sp_w_iff.mp q
    have e := rk_x (f := f) (r := r) (D := D) (x := t - 1) (c := 1) (l := 0) (by omega)
    rw [q1] at e
    have a : rk_o f 0 (D 3 (t - 1)) = 3 := rfl
    have b : rk_o f 1 0 = f := rfl
    rw [a, b] at e
    exact ⟨by omega, fun _ => by omega⟩
  · rw [if_neg q]
    exact ⟨Nat.le_refl _, fun z => absurd z q⟩
theorem rk_gb (hf : 1 ≤ f) (hf2 : f ≤ 2) {t b i : Nat} (ht : t ≤ 4) : rk f r (sp_gb b i D t) ≤ rk f r D := by unfold sp_gb; split; exact (rk_g hf hf2 ht).1; exact Nat.le_refl _
theorem rk_sp (h : D 4 1 ≠ 0) : rk f r (sp_sp D) + 3 = rk f r D := by
  unfold sp_sp rk
  rw [ab_us, ab_un _ _ (by omega), ab_un _ _ (by omega), ab_un _ _ (by omega), ab_un _ _ (by omega), ab_un _ _ (by omega), ab_un _ _ (by omega), ab_un _ _ (by omega), ab_un _ _ (by omega), ab_un _ _ (by omega), ab_un _ _ (by omega)]
  omega
theorem rk_root (hf : 1 ≤ f) (hf2 : f ≤ 2) (hB : ab_B D) {a t : Nat} (ha : a < 3) (ht : t ≤ 4) : rk f r (sp_root b D a t) ≤ rk f r D := by
  unfold sp_root
  rw [rk_01 (by omega)]
  exact Nat.le_trans (rk_gb hf hf2 ht) (rk_gb hf hf2 (hB.2.1 a ha))
theorem rk_act (hw : ab_W o f r) (hV : ab_V o f r D) {k : Nat} (hk : k < 50) (hc : sp_can f r D k = true) : rk f r (sp_act f r b D k) < rk f r D := by
  obtain ⟨w1, w2, w3, w4, w5, w6⟩ := id hw
  have hB := hV.B hw
  have hBs := ab_Bsp hB
  unfold sp_act
  unfold sp_can at hc
  split at hc
  · cases hc
  rename_i hov
  have hov0 : D 4 2 = 0 := by have := hB.2.2.2.2.2; omega
  split
  · rename_i k0
    rw [if_pos k0] at hc
    unfold sp_look
    split
    · rename_i q
      have g := (rk_g (D := D) (r := r) w3 w4 (t := D 1 (D 4 0)) (hB.2.1 _ (by omega))).1
      have e : rk f r (ab_up (sp_g D (D 1 (D 4 0))) 4 0 (D 4 0 + 1)) + 1 = rk f r (sp_g D (D 1 (D 4 0))) := by
        unfold rk
        rw [ab_us, ab_un _ _ (by omega), ab_un _ _ (by omega), ab_un _ _ (by omega), ab_un _ _ (by omega), ab_un _ _ (by omega), ab_un _ _ (by omega), ab_un _ _ (by omega), ab_un _ _ (by omega), ab_un _ _ (by omega), ab_un _ _ (by omega), sp_g_ne (a := 4) (by omega) (by omega), sp_g_ne (a := 4) (by omega) (by omega), sp_g_ne (a := 4) (by omega) (by omega)]
        omega
      omega
    · rename_i q
      have l : sp_lg D < 4 := by simpa [q] using hc
      have lc : D 2 (sp_lg D) = 1 := by rcases sp_lg_spec D with z | z; exact z.2.1; omega
      have f1 := (hB.2.2.1 _ l).2
      have f2 := (hV.2.2.1 _ l).2.2.1
      have ht : D 0 (2 * sp_lg D + D 3 (sp_lg D)) ≤ 4 := hB.1 _ (by omega)
      have g := (rk_g (D := D) (r := r) w3 w4 ht).1
      have s := sp_g_nw (D := D) (t := D 0 (2 * sp_lg D + D 3 (sp_lg D))) (j := sp_lg D) (by omega)
      have v1 : ∀ x, rk_o f 1 x = f - x := fun _ => rfl
      split
      · have e := rk_3 (f := f) (r := r) (D := sp_g D (D 0 (2 * sp_lg D + D 3 (sp_lg D)))) (x := sp_lg D) (l := D 3 (sp_lg D) + 1) l
        rw [s.1, s.2, lc, v1, v1] at e
        omega
      · have e := rk_x (f := f) (r := r) (D := sp_g D (D 0 (2 * sp_lg D + D 3 (sp_lg D)))) (x := sp_lg D) (c := 2) (l := 0) l
        rw [s.1, s.2, lc, v1] at e
        have v2 : rk_o f 2 0 = 0 := rfl
        omega
  split
  · unfold sp_end
    have b0 := hB.2.1 0 (by omega); have b1 := hB.2.1 1 (by omega); have b2 := hB.2.1 2 (by omega)
    have g0 := rk_g (D := D) (r := r) w3 w4 b0
    have g1 := rk_g (D := sp_g D (D 1 0)) (r := r) w3 w4 b1
    have g2 := rk_g (D := sp_g (sp_g D (D 1 0)) (D 1 1)) (r := r) w3 w4 b2
    split
    · rename_i q
      unfold sp_some at q
      simp only [Bool.and_eq_true, Bool.or_eq_true] at q
      have keep : ∀ (E : ab_D) (t u : Nat), sp_w E u = true → sp_w (sp_g E t) u = true ∨ sp_w E t = true := by
        intro E t u hu
        by_cases z : sp_w E t = true
        · exact Or.inr z
        · left; unfold sp_g; rw [if_neg z]; exact hu
      by_cases z0 : sp_w D (D 1 0) = true
      · have := g0.2 z0; omega
      have e0 : sp_g D (D 1 0) = D := by unfold sp_g; rw [if_neg z0]
      rw [e0] at g1 g2 ⊢
      by_cases z1 : sp_w D (D 1 1) = true
      · have := g1.2 z1; omega
      have e1 : sp_g D (D 1 1) = D := by unfold sp_g; rw [if_neg z1]
      rw [e1] at g2 ⊢
      rcases q.2 with (z | z) | z
      · exact absurd z z0
      · exact absurd z z1
      · exact g2.2 z
    · unfold rk
      rw [ab_us, ab_un _ _ (by omega), ab_un _ _ (by omega), ab_un _ _ (by omega), ab_un _ _ (by omega), ab_un _ _ (by omega), ab_un _ _ (by omega), ab_un _ _ (by omega), ab_un _ _ (by omega), ab_un _ _ (by omega), ab_un _ _ (by omega)]
      omega
  rename_i k0 k1
  rw [if_neg k0, if_neg k1] at hc
  split at hc
  · cases hc
  rename_i hl
  have es := rk_sp (f := f) (r := r) hl
  split
  · have := rk_root (b := b) (r := r) (D := sp_sp D) w3 w4 hBs (a := (k - 2) / 3) (t := D 1 ((k - 2) % 3)) (by omega) (hB.2.1 _ (by omega))
    omega
  rename_i k11
  rw [if_neg k11] at hc
  split
  · rename_i k29
    rw [if_neg (show ¬ 47 ≤ k by omega), if_pos k29] at hc
    simp only [Bool.and_eq_true, decide_eq_true_eq] at hc
    have : D 1 ((k - 11) % 6 / 2) ≤ 4 := hB.2.1 _ (by omega)
    have := rk_root (b := b) (r := r) (D := sp_sp D) w3 w4 hBs (a := (k - 11) / 6) (t := D 0 (2 * (D 1 ((k - 11) % 6 / 2) - 1) + (k - 11) % 2)) (by omega) (hB.1 _ (by omega))
    omega
  rename_i k29
  split
  · rename_i k47
    rw [if_neg (show ¬ 47 ≤ k by omega), if_neg k29] at hc
    simp only [Bool.and_eq_true, decide_eq_true_eq] at hc
    have ha : D 1 ((k - 29) / 6) ≤ 4 := hB.2.1 _ (by omega)
    have hx : sp_sp D 1 ((k - 29) / 6) = D 1 ((k - 29) / 6) := by unfold sp_sp; rw [ab_un _ _ (by omega)]
    have hc4 : sp_sp D 1 ((k - 29) % 6 / 2) ≤ 4 := hBs.2.1 _ (by omega)
    unfold sp_store
    rw [hx, rk_01 (by omega)]
    have n1 : rk f r (sp_s1 b (sp_sp D) (D 1 ((k - 29) / 6) - 1) (sp_sp D 1 ((k - 29) % 6 / 2)) ((k - 29) % 2)) ≤ rk f r (sp_sp D) := by
      unfold sp_s1
      exact Nat.le_trans (rk_gb w3 w4 hc4) (rk_gb w3 w4 (hBs.1 _ (by omega)))
    have n2 : rk f r (sp_s2 b (sp_sp D) (D 1 ((k - 29) / 6) - 1) (sp_sp D 1 ((k - 29) % 6 / 2)) ((k - 29) % 2)) ≤ rk f r (sp_sp D) := by
      unfold sp_s2; split
      · exact Nat.le_trans (rk_g w3 w4 hc4).1 n1
      · exact n1
    have n3 : rk f r (sp_s3 b (sp_sp D) (D 1 ((k - 29) / 6) - 1) (sp_sp D 1 ((k - 29) % 6 / 2)) ((k - 29) % 2)) ≤ rk f r (sp_sp D) + 2 := by
      unfold sp_s3; split
      · have e := rk_x (f := f) (r := r) (D := sp_s2 b (sp_sp D) (D 1 ((k - 29) / 6) - 1) (sp_sp D 1 ((k - 29) % 6 / 2)) ((k - 29) % 2)) (x := D 1 ((k - 29) / 6) - 1) (c := 1) (l := 0) (by omega)
        have v : rk_o f 1 0 = f := rfl
        omega
      · omega
    omega
  · have := rk_root (b := b) (r := r) (D := sp_sp D) w3 w4 hBs (a := k - 47) (t := 0) (by omega) (Nat.zero_le 4)
    omega
theorem rk_40 (hw : ab_W o f r) (hV : ab_V o f r D) : rk f r D ≤ 40 := by
  obtain ⟨w1, w2, w3, w4, w5, w6⟩ := id hw
  have h1 := hV.2.2.2.2.1
  have a0 := rk_le f (D 2 0) (D 3 0) w4; have a1 := rk_le f (D 2 1) (D 3 1) w4; have a2 := rk_le f (D 2 2) (D 3 2) w4; have a3 := rk_le f (D 2 3) (D 3 3) w4
  unfold rk; omega
end RK

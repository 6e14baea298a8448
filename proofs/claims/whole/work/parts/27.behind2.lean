theorem cs_greys {D : ab_D} (h : ab_B D) : cf_X4_greys (ab_s D) = nI (hr_v [(2, ab_g (D 2 0)), (2, ab_g (D 2 1)), (2, ab_g (D 2 2)), (2, ab_g (D 2 3))]) := by
  have hok := ab_cok h
  have e := hr_get (a := (ab_c D).take 11) (b := [(2, ab_g (D 2 0)), (2, ab_g (D 2 1)), (2, ab_g (D 2 2)), (2, ab_g (D 2 3))]) (c := (ab_c D).drop 15) (hok.take 11) (fun q hq => hok q (by
    simp only [List.mem_cons, List.not_mem_nil, or_false] at hq
    rcases hq with rfl | rfl | rfl | rfl <;> simp [ab_c]))
  have e2 : (ab_c D).take 11 ++ ([(2, ab_g (D 2 0)), (2, ab_g (D 2 1)), (2, ab_g (D 2 2)), (2, ab_g (D 2 3))] ++ (ab_c D).drop 15) = ab_c D := by simp [ab_c]
  rw [e2, show hr_p ((ab_c D).take 11) = 2 ^ 33 by simp [ab_c, hr_p], show hr_p [(2, ab_g (D 2 0)), (2, ab_g (D 2 1)), (2, ab_g (D 2 2)), (2, ab_g (D 2 3))] = 2 ^ 4 by simp [hr_p]] at e
  unfold cf_X4_greys
  show (jl_ushr (lN (hr_v (ab_c D))) (nI 33)).toInt32 &&& 15 = _
  rw [jl_u (cs_lt4 h) (by decide), lN_i, ji_and _ 4 (by decide +kernel) (by decide), e]
theorem cs_blacks {D : ab_D} (h : ab_B D) : cf_X4_blacks (ab_s D) = nI (hr_v [(2, ab_b (D 2 0)), (2, ab_b (D 2 1)), (2, ab_b (D 2 2)), (2, ab_b (D 2 3))]) := by
  have hok := ab_cok h
  have e := hr_get (a := (ab_c D).take 15) (b := [(2, ab_b (D 2 0)), (2, ab_b (D 2 1)), (2, ab_b (D 2 2)), (2, ab_b (D 2 3))]) (c := (ab_c D).drop 19) (hok.take 15) (fun q hq => hok q (by
    simp only [List.mem_cons, List.not_mem_nil, or_false] at hq
    rcases hq with rfl | rfl | rfl | rfl <;> simp [ab_c]))
  have e2 : (ab_c D).take 15 ++ ([(2, ab_b (D 2 0)), (2, ab_b (D 2 1)), (2, ab_b (D 2 2)), (2, ab_b (D 2 3))] ++ (ab_c D).drop 19) = ab_c D := by simp [ab_c]
  rw [e2, show hr_p ((ab_c D).take 15) = 2 ^ 37 by simp [ab_c, hr_p], show hr_p [(2, ab_b (D 2 0)), (2, ab_b (D 2 1)), (2, ab_b (D 2 2)), (2, ab_b (D 2 3))] = 2 ^ 4 by simp [hr_p]] at e
  unfold cf_X4_blacks
  show (jl_ushr (lN (hr_v (ab_c D))) (nI 37)).toInt32 &&& 15 = _
  rw [jl_u (cs_lt4 h) (by decide), lN_i, ji_and _ 4 (by decide +kernel) (by decide), e]
theorem cs_greys0 {D : ab_D} (h : ab_B D) : cf_X4_greys (ab_s D) = 0 ↔ sp_lg D = 4 := by
  rw [cs_greys h]
  have a0 := ab_g_lt (D 2 0); have a1 := ab_g_lt (D 2 1); have a2 := ab_g_lt (D 2 2); have a3 := ab_g_lt (D 2 3)
  have e : hr_v [(2, ab_g (D 2 0)), (2, ab_g (D 2 1)), (2, ab_g (D 2 2)), (2, ab_g (D 2 3))] = ab_g (D 2 0) + 2 * (ab_g (D 2 1) + 2 * (ab_g (D 2 2) + 2 * ab_g (D 2 3))) := by simp [hr_v]
  rw [e, show (0 : Int32) = nI 0 from rfl, nl_eq (by omega) (by omega)]
  unfold sp_lg ab_g
  by_cases h0 : D 2 0 = 1 <;> by_cases h1 : D 2 1 = 1 <;> by_cases h2 : D 2 2 = 1 <;> by_cases h3 : D 2 3 = 1 <;> simp [h0, h1, h2, h3]
section BH2
variable {o f r b : Nat} {wo wf wr wa : Int32} {wl : Int64} {D : ab_D}
theorem cs_look (hw : ab_W o f r) (h : ab_V o f r D) : cf_X1_look wo (nI f) (nI r) (nI b) wa wl (ab_s D) = if D 4 0 < r ∨ sp_lg D < 4 then ab_s (sp_look f r D) else -1 := by
  obtain ⟨w1, w2, w3, w4, w5, w6⟩ := id hw
  have hB := h.B hw
  have h40 := h.2.2.2.1
  unfold cf_X1_look
  rw [cs_rl hB, cs_leastGrey hB]
  simp only [nl_le (show r < 200 by omega) (show D 4 0 < 200 by omega)]
  by_cases q : D 4 0 < r
  · rw [if_neg (by omega), if_pos (Or.inl q), cs_rl1 hB (by omega), cs_inRoot hB (by omega)]
    unfold sp_look
    rw [if_pos q]
    have hV : ab_V o f r (ab_up D 4 0 (D 4 0 + 1)) := h.setX (fun _ => by omega) (fun z => by omega) (fun z => by omega)
    rw [cs_gV hw hV (h.R (by omega)), sp_g_up (by omega) (by omega)]
  · rw [if_pos (by omega)]
    by_cases q2 : sp_lg D < 4
    · rw [if_pos q2, if_pos (Or.inr q2)]
      obtain ⟨-, hg, -⟩ | ⟨z, -⟩ := sp_lg_spec D
      · have hl := h.L q2
        have hne : ¬ nI (sp_lg D) = (-1 : Int32) := by
          rcases (show sp_lg D = 0 ∨ sp_lg D = 1 ∨ sp_lg D = 2 ∨ sp_lg D = 3 by omega) with e | e | e | e <;> rw [e] <;> decide +kernel
        rw [if_neg hne, cs_looked hB q2, cs_inField hB q2 (by omega), cs_gV hw h (h.F (by omega)), show nI (D 3 (sp_lg D)) + (1 : Int32) = nI (D 3 (sp_lg D) + 1) from nI_1 _]
        simp only [nl_le (show f < 200 by omega) (show D 3 (sp_lg D) + 1 < 200 by omega)]
        have hV := sp_g_V hw h (h.F (k := 2 * sp_lg D + D 3 (sp_lg D)) (by omega))
        obtain ⟨e1, e2⟩ := sp_g_nw (D := D) (t := D 0 (2 * sp_lg D + D 3 (sp_lg D))) (j := sp_lg D) (by omega)
        unfold sp_look
        rw [if_neg q]
        by_cases q3 : f ≤ D 3 (sp_lg D) + 1
        · rw [if_pos q3, if_neg (by omega), cs_blackened (hV.B hw) q2 (by rw [e1]; exact hg)]
        · rw [if_neg q3, if_pos (by omega), cs_first (hV.B hw) q2 (by rw [e2]; omega)]
          rw [show D 3 (sp_lg D) + 1 = 1 by omega]
      · omega
    · rw [if_neg q2, if_pos rfl, if_neg (by omega)]
/-- three greyings in a row, and whether they did anything -/
theorem sp_3g {D : ab_D} (t0 t1 t2 : Nat) (h0 : sp_w D t0 = false) (h1 : sp_w D t1 = false) (h2 : sp_w D t2 = false) : sp_g (sp_g (sp_g D t0) t1) t2 = D := by
  have e : ∀ t, sp_w D t = false → sp_g D t = D := fun t q => by unfold sp_g; rw [if_neg (by rw [q]; decide)]
  rw [e t0 h0, e t1 h1, e t2 h2]
theorem sp_g_c {D : ab_D} {t j : Nat} (h : D 2 j ≠ 0) : sp_g D t 2 j ≠ 0 := by rw [(sp_g_nw h).1]; exact h
theorem sp_g_w {D : ab_D} {t : Nat} (h : sp_w D t = true) : sp_g D t 2 (t - 1) ≠ 0 := by
  unfold sp_g
  rw [if_pos h, ab_un _ _ (by omega), ab_us]
  omega
theorem sp_3n {D : ab_D} (t0 t1 t2 : Nat) (h : (sp_w D t0 || sp_w D t1 || sp_w D t2) = true) : ∃ t, (t = t0 ∨ t = t1 ∨ t = t2) ∧ t ≠ 0 ∧ D 2 (t - 1) = 0 ∧ sp_g (sp_g (sp_g D t0) t1) t2 2 (t - 1) ≠ 0 := by
  simp only [Bool.or_eq_true] at h
  have key : ∀ (E : ab_D) (t : Nat), t ≠ 0 → (E 2 (t - 1) = 0 ∨ E 2 (t - 1) ≠ 0) → sp_g E t 2 (t - 1) ≠ 0 := by
    intro E t ht hz
    rcases hz with z | z
    · exact sp_g_w (sp_w_iff.mpr ⟨ht, z⟩)
    · exact sp_g_c z
  rcases h with (h | h) | h
  · obtain ⟨a, c⟩ := sp_w_iff.mp h
    exact ⟨t0, Or.inl rfl, a, c, sp_g_c (sp_g_c (key D t0 a (Or.inl c)))⟩
  · obtain ⟨a, c⟩ := sp_w_iff.mp h
    exact ⟨t1, Or.inr (Or.inl rfl), a, c, sp_g_c (key _ t1 a (Classical.em _))⟩
  · obtain ⟨a, c⟩ := sp_w_iff.mp h
    exact ⟨t2, Or.inr (Or.inr rfl), a, c, key _ t2 a (Classical.em _)⟩
theorem sp_g0 (D : ab_D) : sp_g D 0 = D := by unfold sp_g; rw [if_neg (by simp [sp_w])]
theorem cs_end (hw : ab_W o f r) (h : ab_V o f r D) (hb : b < 128) (hov : D 4 2 = 0) : cf_X1_end wo wf (nI r) (nI b) wa wl (ab_s D) = if D 4 0 = r ∧ sp_lg D = 4 then ab_s (sp_end b D) else -1 := by
  obtain ⟨w1, w2, w3, w4, w5, w6⟩ := id hw
  have hB := h.B hw
  have h40 := h.2.2.2.1
  unfold cf_X1_end cf_X1_end_s21
  rw [cs_rl hB]
  simp only [nl_lt (show D 4 0 < 200 by omega) (show r < 200 by omega), cs_greys0 hB]
  by_cases q : D 4 0 < r
  · rw [if_pos q, if_neg (by omega)]
  rw [if_neg q]
  by_cases q2 : sp_lg D = 4
  · rw [if_pos q2, if_pos (show D 4 0 = r ∧ sp_lg D = 4 from ⟨by omega, q2⟩)]
    have g32 := cs_hb wo wf (nI r) (nI b) wa 32 wl _ (cs_bits b hb).2.2.2.2.2.1
    have E71 : ∀ E : ab_D, ab_V o f r E → (ab_s E = ab_s D ∧ sp_some b D = false ∨ ab_s E ≠ ab_s D ∧ sp_some b D = true ∧ ab_s E = ab_s (sp_g (sp_g (sp_g D (D 1 0)) (D 1 1)) (D 1 2))) → cf_X1_end_s71 wo wf (nI r) (nI b) wa wl (ab_s D) (ab_s E) = ab_s (sp_end b D) := by
      intro E hE hc
      unfold cf_X1_end_s71 sp_end
      rcases hc with ⟨c1, c2⟩ | ⟨c1, c2, c3⟩
      · rw [if_pos ((lg_cmp_eq _ _).mpr c1), if_neg (by rw [c2]; decide), cs_ended hB hov]
      · rw [if_neg (fun z => c1 ((lg_cmp_eq _ _).mp z)), if_pos c2, c3]
    by_cases q3 : sp_bit b 5 = false
    · rw [if_pos (g32.mpr q3)]
      exact E71 D h (Or.inl ⟨rfl, by unfold sp_some; rw [q3]; rfl⟩)
    · rw [if_neg (fun z => q3 (g32.mp z))]
      have hall : ab_V o f r (sp_g (sp_g (sp_g D (D 1 0)) (D 1 1)) (D 1 2)) := sp_g_V hw (sp_g_V hw (sp_g_V hw h (h.R (by omega))) (h.R (by omega))) (h.R (by omega))
      have hlast : cf_X1_end_s71 wo wf (nI r) (nI b) wa wl (ab_s D) (ab_s (sp_g (sp_g (sp_g D (D 1 0)) (D 1 1)) (D 1 2))) = ab_s (sp_end b D) := by
        apply E71 _ hall
        by_cases hs : (sp_w D (D 1 0) || sp_w D (D 1 1) || sp_w D (D 1 2)) = true
        · right
          obtain ⟨t, ht, t1, t2, t3⟩ := sp_3n (D 1 0) (D 1 1) (D 1 2) hs
          have ht4 : t ≤ 4 := by
            have k0 := h.R (k := 0) (by omega); have k1 := h.R (k := 1) (by omega); have k2 := h.R (k := 2) (by omega)
            rcases ht with rfl | rfl | rfl <;> omega
          refine ⟨cs_ne (hall.B hw) hB (fun z => t3 ?_), by unfold sp_some; rw [hs]; simpa using q3, rfl⟩
          rw [(z.2.2.1 (t - 1) (by omega)).1]; exact t2
        · left
          have hs' : (sp_w D (D 1 0) || sp_w D (D 1 1) || sp_w D (D 1 2)) = false := by simpa using hs
          have hs2 := hs'
          simp only [Bool.or_eq_false_iff] at hs2
          rw [sp_3g _ _ _ hs2.1.1 hs2.1.2 hs2.2]
          exact ⟨rfl, by unfold sp_some; rw [hs', Bool.and_false]⟩
      have hV1 := sp_g_V hw h (h.R (k := 0) (by omega))
      have hV2 := sp_g_V hw hV1 (h.R (k := 1) (by omega))
      have i0 : cf_X4_inRoot (ab_s D) (0 : Int32) = nI (D 1 0) - 1 := cs_inRoot (i := 0) hB (by omega)
      have i1 : cf_X4_inRoot (ab_s D) (1 : Int32) = nI (D 1 1) - 1 := cs_inRoot (i := 1) hB (by omega)
      have i2 : cf_X4_inRoot (ab_s D) (2 : Int32) = nI (D 1 2) - 1 := cs_inRoot (i := 2) hB (by omega)
      unfold cf_X1_end_s42_0 cf_X1_end_s42_1 cf_X1_end_s42_2 cf_X1_end_s42_3
      rw [i0, i1, i2, cs_gV hw h (h.R (by omega)), cs_gV hw hV1 (h.R (by omega)), cs_gV hw hV2 (h.R (by omega))]
      rw [if_neg (show ¬ nI r ≤ (0 : Int32) from fun z => by have := (nl_le (c := 0) (show r < 200 by omega) (by omega)).mp z; omega)]
      by_cases r1 : r = 1
      · have z1 := h.R0 (k := 1) (by omega) (by omega)
        have z2 := h.R0 (k := 2) (by omega) (by omega)
        rw [z1, z2, sp_g0, sp_g0] at hlast
        rw [if_pos (show nI r ≤ (1 : Int32) from by rw [r1]; decide +kernel)]
        exact hlast
      · rw [if_neg (show ¬ nI r ≤ (1 : Int32) from fun z => by have := (nl_le (c := 1) (show r < 200 by omega) (by omega)).mp z; omega)]
        by_cases r2 : r = 2
        · have z2 := h.R0 (k := 2) (by omega) (by omega)
          rw [z2, sp_g0] at hlast
          rw [if_pos (show nI r ≤ (2 : Int32) from by rw [r2]; decide +kernel)]
          exact hlast
        · rw [if_neg (show ¬ nI r ≤ (2 : Int32) from fun z => by have := (nl_le (c := 2) (show r < 200 by omega) (by omega)).mp z; omega)]
          exact hlast
  · rw [if_neg q2, if_neg (by omega)]
theorem cs_k : ∀ k, k < 50 → ((nI k = 0) ↔ k = 0) ∧ ((nI k = 1) ↔ k = 1) ∧ (((11 : Int32) ≤ nI k) ↔ 11 ≤ k) ∧ (((29 : Int32) ≤ nI k) ↔ 29 ≤ k) ∧ (((47 : Int32) ≤ nI k) ↔ 47 ≤ k) := by decide +kernel
theorem cs_kc : ∀ k, k < 50 → 2 ≤ k → k < 11 → (nI k - (2 : Int32)) / 3 = nI ((k - 2) / 3) ∧ (nI k - (2 : Int32)) - (nI k - 2) / 3 * 3 = nI ((k - 2) % 3) := by decide +kernel
theorem cs_kl : ∀ k, k < 50 → 11 ≤ k → k < 29 → (nI k - (11 : Int32)) / 6 = nI ((k - 11) / 6) ∧ ((nI k - (11 : Int32)) / 2) - ((nI k - 11) / 2) / 3 * 3 = nI ((k - 11) % 6 / 2) ∧ (nI k - (11 : Int32)) - (nI k - 11) / 2 * 2 = nI ((k - 11) % 2) := by decide +kernel
theorem cs_ks : ∀ k, k < 50 → 29 ≤ k → k < 47 → (nI k - (29 : Int32)) / 6 = nI ((k - 29) / 6) ∧ ((nI k - (29 : Int32)) / 2) - ((nI k - 29) / 2) / 3 * 3 = nI ((k - 29) % 6 / 2) ∧ (nI k - (29 : Int32)) - (nI k - 29) / 2 * 2 = nI ((k - 29) % 2) := by decide +kernel
theorem cs_kx : ∀ k, k < 50 → 47 ≤ k → nI k - (47 : Int32) = nI (k - 47) := by decide +kernel
theorem cs_l1 : ∀ a, a < 9 → a ≠ 0 → nI a - (1 : Int32) = nI (a - 1) := by decide +kernel
theorem cs_l00 : ∀ a, a < 9 → ((nI a = 0) ↔ a = 0) := by decide +kernel
theorem cs_behind (hw : ab_W o f r) (h : ab_V o f r D) (hb : b < 128) {k : Nat} (hk : k < 50) : cf_X1_behind wo (nI f) (nI r) (nI b) wa wl (ab_s D) (nI k) = if sp_can f r D k = true then ab_s (sp_act f r b D k) else -1 := by
  obtain ⟨w1, w2, w3, w4, w5, w6⟩ := id hw
  have hB := h.B hw
  have h41 := h.2.2.2.2.1
  have h42 := h.2.2.2.2.2
  obtain ⟨k0, k1, k11, k29, k47⟩ := cs_k k hk
  unfold cf_X1_behind sp_can sp_act
  rw [cs_isOver hB, cs_actsLeft hB]
  simp only [k0, k1, k11, k29, k47, cs_l00 (D 4 1) (by omega)]
  by_cases q : D 4 2 = 1
  · rw [if_pos q, if_neg (by decide), if_pos q, if_neg (by decide)]
  rw [if_neg q, if_pos rfl, if_neg q]
  by_cases e0 : k = 0
  · rw [if_pos e0, if_pos e0, if_pos e0, cs_look hw h]
    simp only [Bool.or_eq_true, decide_eq_true_eq]
  rw [if_neg e0, if_neg e0, if_neg e0]
  by_cases e1 : k = 1
  · rw [if_pos e1, if_pos e1, if_pos e1, cs_end hw h hb (by omega)]
    simp only [Bool.and_eq_true, decide_eq_true_eq]
  rw [if_neg e1, if_neg e1, if_neg e1]
  by_cases e2 : D 4 1 = 0
  · rw [if_pos e2, if_pos e2, if_neg (by decide)]
  rw [if_neg e2, if_neg e2, cs_l1 _ (by omega) e2, cs_withActsLeft hB (by omega)]
  have hs : ab_V o f r (sp_sp D) := sp_sp_V h
  have es : ab_up D 4 1 (D 4 1 - 1) = sp_sp D := rfl
  rw [es]
  have s1 : ∀ j, sp_sp D 1 j = D 1 j := fun j => sp_sp_ne (by omega)
  have s0 : ∀ j, sp_sp D 0 j = D 0 j := fun j => sp_sp_ne (by omega)
  by_cases e11 : 11 ≤ k
  · rw [if_pos e11, if_neg (show ¬ k < 11 by omega), if_neg (show ¬ k < 11 by omega)]
    by_cases e29 : 29 ≤ k
    · rw [if_pos e29, if_neg (show ¬ k < 29 by omega), if_neg (show ¬ k < 29 by omega)]
      by_cases e47 : 47 ≤ k
      · rw [if_pos e47, if_pos e47, if_neg (show ¬ k < 47 by omega), cs_kx k hk e47, cs_clear hw hs hb (by omega)]
        simp only [decide_eq_true_eq]
      · rw [if_neg e47, if_neg e47, if_pos (show k < 47 by omega)]
        obtain ⟨z1, z2, z3⟩ := cs_ks k hk e29 (by omega)
        rw [z1, z2, z3, cs_store hw hs hb (by omega) (by omega) (by omega), s1]
        simp only [Bool.and_eq_true, decide_eq_true_eq, and_assoc]
    · rw [if_neg e29, if_neg (show ¬ 47 ≤ k by omega), if_pos (show k < 29 by omega), if_pos (show k < 29 by omega)]
      obtain ⟨z1, z2, z3⟩ := cs_kl k hk e11 (by omega)
      rw [z1, z2, z3, cs_load hw hs hb (by omega) (by omega) (by omega), s1, s0]
      simp only [Bool.and_eq_true, decide_eq_true_eq, and_assoc]
  · rw [if_neg e11, if_pos (show k < 11 by omega), if_pos (show k < 11 by omega)]
    obtain ⟨z1, z2⟩ := cs_kc k hk (by omega) (by omega)
    rw [z2, z1, cs_copy hw hs hb (by omega) (by omega), s1]
    simp only [Bool.and_eq_true, decide_eq_true_eq, and_assoc]
end BH2

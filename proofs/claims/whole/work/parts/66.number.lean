/-! the reference's number of a STATE, and back -/
theorem mn_i {n : Nat} (h : n < 200) : (nI n).toInt64 = lN n := nI_l (by omega)
theorem mn_m : ∀ t, t < 8 → (nI t - 1).toInt64 = lN t - 1 := by decide +kernel
theorem mn_5 (v t : Nat) (ht : t < 8) : ((5 : Int64) * lN v + (nI t - 1).toInt64) + 1 = lN (t + 5 * v) := by
  rw [mn_m t ht, show (5 : Int64) = lN 5 from rfl, lN_mul]
  have : lN (5 * v) + (lN t - 1) + 1 = lN (5 * v) + lN t := by
    rw [Int64.add_assoc, Int64.sub_add_cancel]
  rw [this, lN_add, Nat.add_comm]
theorem mn_3 (v c l : Nat) (hc : c < 200) (hl : l < 200) : ((3 : Int64) * ((3 : Int64) * lN v + (nI c).toInt64) + (nI l).toInt64) = lN (l + 3 * (c + 3 * v)) := by
  rw [mn_i hc, mn_i hl, show (3 : Int64) = lN 3 from rfl, lN_mul, lN_add, lN_mul, lN_add, Nat.add_comm (3 * v) c, Nat.add_comm (3 * (c + 3 * v)) l]
theorem mn_4 (v a c : Nat) (ha : a < 200) (hc : c < 200) : ((4 : Int64) * ((9 : Int64) * lN v + (nI a).toInt64) + (nI c).toInt64) = lN (c + 4 * (a + 9 * v)) := by
  rw [mn_i ha, mn_i hc, show (9 : Int64) = lN 9 from rfl, show (4 : Int64) = lN 4 from rfl, lN_mul, lN_add, lN_mul, lN_add, Nat.add_comm (9 * v) a, Nat.add_comm (4 * (a + 9 * v)) c]
theorem ms_number {D : ab_D} (h : ab_B D) : cf_X6_number (ma_F D) (ma_R D) (ma_C D) (ma_L D) (nI (D 4 0)) (nI (D 4 1)) (nI (D 4 2)) = ab_n D := by
  obtain ⟨h1, h2, h3, h4, h5, h6⟩ := h
  have f0 : ma_F D ((0 : Int32)).toNatClampNeg = nI (D 0 0) - 1 := rfl
  have a0 := h1 0 (by omega)
  have f1 : ma_F D ((1 : Int32)).toNatClampNeg = nI (D 0 1) - 1 := rfl
  have a1 := h1 1 (by omega)
  have f2 : ma_F D ((2 : Int32)).toNatClampNeg = nI (D 0 2) - 1 := rfl
  have a2 := h1 2 (by omega)
  have f3 : ma_F D ((3 : Int32)).toNatClampNeg = nI (D 0 3) - 1 := rfl
  have a3 := h1 3 (by omega)
  have f4 : ma_F D ((4 : Int32)).toNatClampNeg = nI (D 0 4) - 1 := rfl
  have a4 := h1 4 (by omega)
  have f5 : ma_F D ((5 : Int32)).toNatClampNeg = nI (D 0 5) - 1 := rfl
  have a5 := h1 5 (by omega)
  have f6 : ma_F D ((6 : Int32)).toNatClampNeg = nI (D 0 6) - 1 := rfl
  have a6 := h1 6 (by omega)
  have f7 : ma_F D ((7 : Int32)).toNatClampNeg = nI (D 0 7) - 1 := rfl
  have a7 := h1 7 (by omega)
  have r0 : ma_R D ((0 : Int32)).toNatClampNeg = nI (D 1 0) - 1 := rfl
  have b0 := h2 0 (by omega)
  have r1 : ma_R D ((1 : Int32)).toNatClampNeg = nI (D 1 1) - 1 := rfl
  have b1 := h2 1 (by omega)
  have r2 : ma_R D ((2 : Int32)).toNatClampNeg = nI (D 1 2) - 1 := rfl
  have b2 := h2 2 (by omega)
  have c0 : ma_C D ((0 : Int32)).toNatClampNeg = nI (D 2 0) := rfl
  have l0 : ma_L D ((0 : Int32)).toNatClampNeg = nI (D 3 0) := rfl
  have d0 := h3 0 (by omega)
  have c1 : ma_C D ((1 : Int32)).toNatClampNeg = nI (D 2 1) := rfl
  have l1 : ma_L D ((1 : Int32)).toNatClampNeg = nI (D 3 1) := rfl
  have d1 := h3 1 (by omega)
  have c2 : ma_C D ((2 : Int32)).toNatClampNeg = nI (D 2 2) := rfl
  have l2 : ma_L D ((2 : Int32)).toNatClampNeg = nI (D 3 2) := rfl
  have d2 := h3 2 (by omega)
  have c3 : ma_C D ((3 : Int32)).toNatClampNeg = nI (D 2 3) := rfl
  have l3 : ma_L D ((3 : Int32)).toNatClampNeg = nI (D 3 3) := rfl
  have d3 := h3 3 (by omega)
  have e0 : cf_X6_number (ma_F D) (ma_R D) (ma_C D) (ma_L D) (nI (D 4 0)) (nI (D 4 1)) (nI (D 4 2)) = cf_X6_number_s12 (ma_F D) (ma_R D) (ma_C D) (ma_L D) (nI (D 4 0)) (nI (D 4 1)) (nI (D 4 2)) (lN (D 4 2)) := by
    unfold cf_X6_number
    by_cases q : D 4 2 = 0
    · rw [if_pos ((ms_0 (by omega)).mpr q), q]; rfl
    · rw [if_neg (fun y => q ((ms_0 (by omega)).mp y)), show D 4 2 = 1 by omega]; rfl
  rw [e0]
  unfold cf_X6_number_s12 cf_X6_number_s39_0 cf_X6_number_s39_1 cf_X6_number_s39_2 cf_X6_number_s39_3 cf_X6_number_s68_0 cf_X6_number_s68_1 cf_X6_number_s68_2 cf_X6_number_s68_3 cf_X6_number_s68_4 cf_X6_number_s109_0 cf_X6_number_s109_1 cf_X6_number_s109_2 cf_X6_number_s109_3 cf_X6_number_s109_4 cf_X6_number_s109_5 cf_X6_number_s109_6 cf_X6_number_s109_7 cf_X6_number_s109_8
  rw [mn_4 _ _ _ (by omega) (by omega), r0, mn_5 _ _ (show D 1 0 < 8 by omega), r1, mn_5 _ _ (show D 1 1 < 8 by omega), r2, mn_5 _ _ (show D 1 2 < 8 by omega), c0, l0, mn_3 _ _ _ (show D 2 0 < 200 by omega) (show D 3 0 < 200 by omega), c1, l1, mn_3 _ _ _ (show D 2 1 < 200 by omega) (show D 3 1 < 200 by omega), c2, l2, mn_3 _ _ _ (show D 2 2 < 200 by omega) (show D 3 2 < 200 by omega), c3, l3, mn_3 _ _ _ (show D 2 3 < 200 by omega) (show D 3 3 < 200 by omega), f0, mn_5 _ _ (show D 0 0 < 8 by omega), f1, mn_5 _ _ (show D 0 1 < 8 by omega), f2, mn_5 _ _ (show D 0 2 < 8 by omega), f3, mn_5 _ _ (show D 0 3 < 8 by omega), f4, mn_5 _ _ (show D 0 4 < 8 by omega), f5, mn_5 _ _ (show D 0 5 < 8 by omega), f6, mn_5 _ _ (show D 0 6 < 8 by omega), f7, mn_5 _ _ (show D 0 7 < 8 by omega)]
  unfold ab_n ab_nN ab_m
  simp only [hr_v]
  rfl
theorem mt_r {n d v m : Nat} {c : Int64} (hc : c = lN m) (hn : n = d + m * v) (hd : d < m) (hm : m < 200) (hb : n < 2 ^ 62) : (lN n - lN v * c).toInt32 = nI d ∧ lN n / c = lN v := by
  subst hc
  have e1 : n % m = d := by rw [hn, Nat.add_mul_mod_self_left, Nat.mod_eq_of_lt hd]
  have e2 : n / m = v := by rw [hn, Nat.add_mul_div_left _ _ (by omega), Nat.div_eq_of_lt hd, Nat.zero_add]
  have e3 : lN n / lN m = lN v := by rw [pk_lDiv (by omega) (by omega) (by omega), e2]
  have e4 := pk_lRem (a := n) (b := m) (by omega) (by omega) (by omega)
  rw [e3, e1] at e4
  rw [e4, lN_i]; exact ⟨rfl, e3⟩
/-- the cells of an array agree where it has any -/
def ma_eq (n : Nat) (f g : Nat → Int32) : Prop := ∀ k, k < n → f k = g k
theorem hr_tl {q : Nat × Nat} {t : List (Nat × Nat)} : hr_v (q :: t) = q.2 + q.1 * hr_v t := rfl
theorem hr_le_tl {q : Nat × Nat} {t : List (Nat × Nat)} (h : 0 < q.1) : hr_v t ≤ hr_v (q :: t) := by
  rw [hr_tl]
  have := Nat.le_mul_of_pos_left (hr_v t) h
  omega
theorem ms_take {D : ab_D} (h : ab_B D) (g_F g_R g_C g_L : Nat → Int32) (x y z : Int32) : ∃ u_F u_R u_C u_L : Nat → Int32, cf_X6_take g_F g_R g_C g_L x y z (ab_n D) = (u_F, u_R, u_C, u_L, nI (D 4 0), nI (D 4 1), nI (D 4 2)) ∧ ma_eq 8 u_F (ma_F D) ∧ ma_eq 3 u_R (ma_R D) ∧ ma_eq 4 u_C (ma_C D) ∧ ma_eq 4 u_L (ma_L D) := by
  have hlt := ab_n_lt h
  obtain ⟨h1, h2, h3, h4, h5, h6⟩ := id h
  have a0 := h1 0 (by omega)
  have a1 := h1 1 (by omega)
  have a2 := h1 2 (by omega)
  have a3 := h1 3 (by omega)
  have a4 := h1 4 (by omega)
  have a5 := h1 5 (by omega)
  have a6 := h1 6 (by omega)
  have a7 := h1 7 (by omega)
  have b0 := h2 0 (by omega)
  have b1 := h2 1 (by omega)
  have b2 := h2 2 (by omega)
  have d0 := h3 0 (by omega)
  have d1 := h3 1 (by omega)
  have d2 := h3 2 (by omega)
  have d3 := h3 3 (by omega)
  obtain ⟨n0, hn0⟩ : ∃ n, n = ab_nN D := ⟨_, rfl⟩
  obtain ⟨n1, hn1⟩ : ∃ n, n = hr_v ([(5, D 0 6), (5, D 0 5), (5, D 0 4), (5, D 0 3), (5, D 0 2), (5, D 0 1), (5, D 0 0), (3, D 3 3), (3, D 2 3), (3, D 3 2), (3, D 2 2), (3, D 3 1), (3, D 2 1), (3, D 3 0), (3, D 2 0), (5, D 1 2), (5, D 1 1), (5, D 1 0), (4, D 4 0), (9, D 4 1), (2, D 4 2)] : List (Nat × Nat)) := ⟨_, rfl⟩
  have e0 : n0 = D 0 7 + 5 * n1 := by rw [hn0, hn1]; rfl
  have u0 : n0 < 2 ^ 62 := by rw [hn0]; omega
  have u1 : n1 < 2 ^ 62 := by omega
  obtain ⟨p0, q0⟩ := mt_r (m := 5) (c := (5 : Int64)) rfl e0 (by omega) (by omega) u0
  obtain ⟨n2, hn2⟩ : ∃ n, n = hr_v ([(5, D 0 5), (5, D 0 4), (5, D 0 3), (5, D 0 2), (5, D 0 1), (5, D 0 0), (3, D 3 3), (3, D 2 3), (3, D 3 2), (3, D 2 2), (3, D 3 1), (3, D 2 1), (3, D 3 0), (3, D 2 0), (5, D 1 2), (5, D 1 1), (5, D 1 0), (4, D 4 0), (9, D 4 1), (2, D 4 2)] : List (Nat × Nat)) := ⟨_, rfl⟩
  have e1 : n1 = D 0 6 + 5 * n2 := by rw [hn1, hn2]; rfl
  have u2 : n2 < 2 ^ 62 := by omega
  obtain ⟨p1, q1⟩ := mt_r (m := 5) (c := (5 : Int64)) rfl e1 (by omega) (by omega) u1
  obtain ⟨n3, hn3⟩ : ∃ n, n = hr_v ([(5, D 0 4), (5, D 0 3), (5, D 0 2), (5, D 0 1), (5, D 0 0), (3, D 3 3), (3, D 2 3), (3, D 3 2), (3, D 2 2), (3, D 3 1), (3, D 2 1), (3, D 3 0), (3, D 2 0), (5, D 1 2), (5, D 1 1), (5, D 1 0), (4, D 4 0), (9, D 4 1), (2, D 4 2)] : List (Nat × Nat)) := ⟨_, rfl⟩
  have e2 : n2 = D 0 5 + 5 * n3 := by rw [hn2, hn3]; rfl
  have u3 : n3 < 2 ^ 62 := by omega
  obtain ⟨p2, q2⟩ := mt_r (m := 5) (c := (5 : Int64)) rfl e2 (by omega) (by omega) u2
  obtain ⟨n4, hn4⟩ : ∃ n, n = hr_v ([(5, D 0 3), (5, D 0 2), (5, D 0 1), (5, D 0 0), (3, D 3 3), (3, D 2 3), (3, D 3 2), (3, D 2 2), (3, D 3 1), (3, D 2 1), (3, D 3 0), (3, D 2 0), (5, D 1 2), (5, D 1 1), (5, D 1 0), (4, D 4 0), (9, D 4 1), (2, D 4 2)] : List (Nat × Nat)) := ⟨_, rfl⟩
  have e3 : n3 = D 0 4 + 5 * n4 := by rw [hn3, hn4]; rfl
  have u4 : n4 < 2 ^ 62 := by omega
  obtain ⟨p3, q3⟩ := mt_r (m := 5) (c := (5 : Int64)) rfl e3 (by omega) (by omega) u3
  obtain ⟨n5, hn5⟩ : ∃ n, n = hr_v ([(5, D 0 2), (5, D 0 1), (5, D 0 0), (3, D 3 3), (3, D 2 3), (3, D 3 2), (3, D 2 2), (3, D 3 1), (3, D 2 1), (3, D 3 0), (3, D 2 0), (5, D 1 2), (5, D 1 1), (5, D 1 0), (4, D 4 0), (9, D 4 1), (2, D 4 2)] : List (Nat × Nat)) := ⟨_, rfl⟩
  have e4 : n4 = D 0 3 + 5 * n5 := by rw [hn4, hn5]; rfl
  have u5 : n5 < 2 ^ 62 := by omega
  obtain ⟨p4, q4⟩ := mt_r (m := 5) (c := (5 : Int64)) rfl e4 (by omega) (by omega) u4
  obtain ⟨n6, hn6⟩ : ∃ n, n = hr_v ([(5, D 0 1), (5, D 0 0), (3, D 3 3), (3, D 2 3), (3, D 3 2), (3, D 2 2), (3, D 3 1), (3, D 2 1), (3, D 3 0), (3, D 2 0), (5, D 1 2), (5, D 1 1), (5, D 1 0), (4, D 4 0), (9, D 4 1), (2, D 4 2)] : List (Nat × Nat)) := ⟨_, rfl⟩
  have e5 : n5 = D 0 2 + 5 * n6 := by rw [hn5, hn6]; rfl
  have u6 : n6 < 2 ^ 62 := by omega
  obtain ⟨p5, q5⟩ := mt_r (m := 5) (c := (5 : Int64)) rfl e5 (by omega) (by omega) u5
  obtain ⟨n7, hn7⟩ : ∃ n, n = hr_v ([(5, D 0 0), (3, D 3 3), (3, D 2 3), (3, D 3 2), (3, D 2 2), (3, D 3 1), (3, D 2 1), (3, D 3 0), (3, D 2 0), (5, D 1 2), (5, D 1 1), (5, D 1 0), (4, D 4 0), (9, D 4 1), (2, D 4 2)] : List (Nat × Nat)) := ⟨_, rfl⟩
  have e6 : n6 = D 0 1 + 5 * n7 := by rw [hn6, hn7]; rfl
  have u7 : n7 < 2 ^ 62 := by omega
  obtain ⟨p6, q6⟩ := mt_r (m := 5) (c := (5 : Int64)) rfl e6 (by omega) (by omega) u6
  obtain ⟨n8, hn8⟩ : ∃ n, n = hr_v ([(3, D 3 3), (3, D 2 3), (3, D 3 2), (3, D 2 2), (3, D 3 1), (3, D 2 1), (3, D 3 0), (3, D 2 0), (5, D 1 2), (5, D 1 1), (5, D 1 0), (4, D 4 0), (9, D 4 1), (2, D 4 2)] : List (Nat × Nat)) := ⟨_, rfl⟩
  have e7 : n7 = D 0 0 + 5 * n8 := by rw [hn7, hn8]; rfl
  have u8 : n8 < 2 ^ 62 := by omega
  obtain ⟨p7, q7⟩ := mt_r (m := 5) (c := (5 : Int64)) rfl e7 (by omega) (by omega) u7
  obtain ⟨n9, hn9⟩ : ∃ n, n = hr_v ([(3, D 2 3), (3, D 3 2), (3, D 2 2), (3, D 3 1), (3, D 2 1), (3, D 3 0), (3, D 2 0), (5, D 1 2), (5, D 1 1), (5, D 1 0), (4, D 4 0), (9, D 4 1), (2, D 4 2)] : List (Nat × Nat)) := ⟨_, rfl⟩
  have e8 : n8 = D 3 3 + 3 * n9 := by rw [hn8, hn9]; rfl
  have u9 : n9 < 2 ^ 62 := by omega
  obtain ⟨p8, q8⟩ := mt_r (m := 3) (c := (3 : Int64)) rfl e8 (by omega) (by omega) u8
  obtain ⟨n10, hn10⟩ : ∃ n, n = hr_v ([(3, D 3 2), (3, D 2 2), (3, D 3 1), (3, D 2 1), (3, D 3 0), (3, D 2 0), (5, D 1 2), (5, D 1 1), (5, D 1 0), (4, D 4 0), (9, D 4 1), (2, D 4 2)] : List (Nat × Nat)) := ⟨_, rfl⟩
  have e9 : n9 = D 2 3 + 3 * n10 := by rw [hn9, hn10]; rfl
  have u10 : n10 < 2 ^ 62 := by omega
  obtain ⟨p9, q9⟩ := mt_r (m := 3) (c := (3 : Int64)) rfl e9 (by omega) (by omega) u9
  obtain ⟨n11, hn11⟩ : ∃ n, n = hr_v ([(3, D 2 2), (3, D 3 1), (3, D 2 1), (3, D 3 0), (3, D 2 0), (5, D 1 2), (5, D 1 1), (5, D 1 0), (4, D 4 0), (9, D 4 1), (2, D 4 2)] : List (Nat × Nat)) := ⟨_, rfl⟩
  have e10 : n10 = D 3 2 + 3 * n11 := by rw [hn10, hn11]; rfl
  have u11 : n11 < 2 ^ 62 := by omega
  obtain ⟨p10, q10⟩ := mt_r (m := 3) (c := (3 : Int64)) rfl e10 (by omega) (by omega) u10
  obtain ⟨n12, hn12⟩ : ∃ n, n = hr_v ([(3, D 3 1), (3, D 2 1), (3, D 3 0), (3, D 2 0), (5, D 1 2), (5, D 1 1), (5, D 1 0), (4, D 4 0), (9, D 4 1), (2, D 4 2)] : List (Nat × Nat)) := ⟨_, rfl⟩
  have e11 : n11 = D 2 2 + 3 * n12 := by rw [hn11, hn12]; rfl
  have u12 : n12 < 2 ^ 62 := by omega
  obtain ⟨p11, q11⟩ := mt_r (m := 3) (c := (3 : Int64)) rfl e11 (by omega) (by omega) u11
  obtain ⟨n13, hn13⟩ : ∃ n, n = hr_v ([(3, D 2 1), (3, D 3 0), (3, D 2 0), (5, D 1 2), (5, D 1 1), (5, D 1 0), (4, D 4 0), (9, D 4 1), (2, D 4 2)] : List (Nat × Nat)) := ⟨_, rfl⟩
  have e12 : n12 = D 3 1 + 3 * n13 := by rw [hn12, hn13]; rfl
  have u13 : n13 < 2 ^ 62 := by omega
  obtain ⟨p12, q12⟩ := mt_r (m := 3) (c := (3 : Int64)) rfl e12 (by omega) (by omega) u12
  obtain ⟨n14, hn14⟩ : ∃ n, n = hr_v ([(3, D 3 0), (3, D 2 0), (5, D 1 2), (5, D 1 1), (5, D 1 0), (4, D 4 0), (9, D 4 1), (2, D 4 2)] : List (Nat × Nat)) := ⟨_, rfl⟩
  have e13 : n13 = D 2 1 + 3 * n14 := by rw [hn13, hn14]; rfl
  have u14 : n14 < 2 ^ 62 := by omega
  obtain ⟨p13, q13⟩ := mt_r (m := 3) (c := (3 : Int64)) rfl e13 (by omega) (by omega) u13
  obtain ⟨n15, hn15⟩ : ∃ n, n = hr_v ([(3, D 2 0), (5, D 1 2), (5, D 1 1), (5, D 1 0), (4, D 4 0), (9, D 4 1), (2, D 4 2)] : List (Nat × Nat)) := ⟨_, rfl⟩
  have e14 : n14 = D 3 0 + 3 * n15 := by rw [hn14, hn15]; rfl
  have u15 : n15 < 2 ^ 62 := by omega
  obtain ⟨p14, q14⟩ := mt_r (m := 3) (c := (3 : Int64)) rfl e14 (by omega) (by omega) u14
  obtain ⟨n16, hn16⟩ : ∃ n, n = hr_v ([(5, D 1 2), (5, D 1 1), (5, D 1 0), (4, D 4 0), (9, D 4 1), (2, D 4 2)] : List (Nat × Nat)) := ⟨_, rfl⟩
  have e15 : n15 = D 2 0 + 3 * n16 := by rw [hn15, hn16]; rfl
  have u16 : n16 < 2 ^ 62 := by omega
  obtain ⟨p15, q15⟩ := mt_r (m := 3) (c := (3 : Int64)) rfl e15 (by omega) (by omega) u15
  obtain ⟨n17, hn17⟩ : ∃ n, n = hr_v ([(5, D 1 1), (5, D 1 0), (4, D 4 0), (9, D 4 1), (2, D 4 2)] : List (Nat × Nat)) := ⟨_, rfl⟩
  have e16 : n16 = D 1 2 + 5 * n17 := by rw [hn16, hn17]; rfl
  have u17 : n17 < 2 ^ 62 := by omega
  obtain ⟨p16, q16⟩ := mt_r (m := 5) (c := (5 : Int64)) rfl e16 (by omega) (by omega) u16
  obtain ⟨n18, hn18⟩ : ∃ n, n = hr_v ([(5, D 1 0), (4, D 4 0), (9, D 4 1), (2, D 4 2)] : List (Nat × Nat)) := ⟨_, rfl⟩
  have e17 : n17 = D 1 1 + 5 * n18 := by rw [hn17, hn18]; rfl
  have u18 : n18 < 2 ^ 62 := by omega
  obtain ⟨p17, q17⟩ := mt_r (m := 5) (c := (5 : Int64)) rfl e17 (by omega) (by omega) u17
  obtain ⟨n19, hn19⟩ : ∃ n, n = hr_v ([(4, D 4 0), (9, D 4 1), (2, D 4 2)] : List (Nat × Nat)) := ⟨_, rfl⟩
  have e18 : n18 = D 1 0 + 5 * n19 := by rw [hn18, hn19]; rfl
  have u19 : n19 < 2 ^ 62 := by omega
  obtain ⟨p18, q18⟩ := mt_r (m := 5) (c := (5 : Int64)) rfl e18 (by omega) (by omega) u18
  obtain ⟨n20, hn20⟩ : ∃ n, n = hr_v ([(9, D 4 1), (2, D 4 2)] : List (Nat × Nat)) := ⟨_, rfl⟩
  have e19 : n19 = D 4 0 + 4 * n20 := by rw [hn19, hn20]; rfl
  have u20 : n20 < 2 ^ 62 := by omega
  obtain ⟨p19, q19⟩ := mt_r (m := 4) (c := (4 : Int64)) rfl e19 (by omega) (by omega) u19
  obtain ⟨n21, hn21⟩ : ∃ n, n = hr_v ([(2, D 4 2)] : List (Nat × Nat)) := ⟨_, rfl⟩
  have e20 : n20 = D 4 1 + 9 * n21 := by rw [hn20, hn21]; rfl
  have u21 : n21 < 2 ^ 62 := by omega
  obtain ⟨p20, q20⟩ := mt_r (m := 9) (c := (9 : Int64)) rfl e20 (by omega) (by omega) u20
  obtain ⟨n22, hn22⟩ : ∃ n, n = hr_v ([] : List (Nat × Nat)) := ⟨_, rfl⟩
  have e21 : n21 = D 4 2 + 2 * n22 := by rw [hn21, hn22]; rfl
  have u22 : n22 < 2 ^ 62 := by omega
  obtain ⟨p21, q21⟩ := mt_r (m := 2) (c := (2 : Int64)) rfl e21 (by omega) (by omega) u21
  unfold cf_X6_take cf_X6_take_s11_7 cf_X6_take_s11_6 cf_X6_take_s11_5 cf_X6_take_s11_4 cf_X6_take_s11_3 cf_X6_take_s11_2 cf_X6_take_s11_1 cf_X6_take_s11_0 cf_X6_take_s11_m1 cf_X6_take_s46_3 cf_X6_take_s46_2 cf_X6_take_s46_1 cf_X6_take_s46_0 cf_X6_take_s46_m1 cf_X6_take_s98_2 cf_X6_take_s98_1 cf_X6_take_s98_0 cf_X6_take_s98_m1
  rw [show ab_n D = lN n0 by rw [hn0]; rfl]
  simp only [p0, q0, p1, q1, p2, q2, p3, q3, p4, q4, p5, q5, p6, q6, p7, q7, p8, q8, p9, q9, p10, q10, p11, q11, p12, q12, p13, q13, p14, q14, p15, q15, p16, q16, p17, q17, p18, q18, p19, q19, p20, q20, p21, q21]
  have e22 : n21 = D 4 2 := by rw [hn21]; simp [hr_v]
  have ov : (if lg_cmp (lN n21) (1 : Int64) = 0 then (1 : Int32) else 0) = nI (D 4 2) := by
    rw [e22]
    rcases (show D 4 2 = 0 ∨ D 4 2 = 1 by omega) with q | q <;> rw [q] <;> decide +kernel
  refine ⟨(upd (upd (upd (upd (upd (upd (upd (upd g_F ((7 : Int32)).toNatClampNeg (nI (D 0 7) - 1)) ((6 : Int32)).toNatClampNeg (nI (D 0 6) - 1)) ((5 : Int32)).toNatClampNeg (nI (D 0 5) - 1)) ((4 : Int32)).toNatClampNeg (nI (D 0 4) - 1)) ((3 : Int32)).toNatClampNeg (nI (D 0 3) - 1)) ((2 : Int32)).toNatClampNeg (nI (D 0 2) - 1)) ((1 : Int32)).toNatClampNeg (nI (D 0 1) - 1)) ((0 : Int32)).toNatClampNeg (nI (D 0 0) - 1)), (upd (upd (upd g_R ((2 : Int32)).toNatClampNeg (nI (D 1 2) - 1)) ((1 : Int32)).toNatClampNeg (nI (D 1 1) - 1)) ((0 : Int32)).toNatClampNeg (nI (D 1 0) - 1)), (upd (upd (upd (upd g_C ((3 : Int32)).toNatClampNeg (nI (D 2 3))) ((2 : Int32)).toNatClampNeg (nI (D 2 2))) ((1 : Int32)).toNatClampNeg (nI (D 2 1))) ((0 : Int32)).toNatClampNeg (nI (D 2 0))), (upd (upd (upd (upd g_L ((3 : Int32)).toNatClampNeg (nI (D 3 3))) ((2 : Int32)).toNatClampNeg (nI (D 3 2))) ((1 : Int32)).toNatClampNeg (nI (D 3 1))) ((0 : Int32)).toNatClampNeg (nI (D 3 0))), ?_, fun k hk => ?_, fun k hk => ?_, fun k hk => ?_, fun k hk => ?_⟩
  · rw [← ov]
    by_cases q : lg_cmp (lN n21) (1 : Int64) = 0
    · rw [if_pos q, if_pos q]
    · rw [if_neg q, if_neg q]
  · exact c_ix8 (P := fun k => (upd (upd (upd (upd (upd (upd (upd (upd g_F ((7 : Int32)).toNatClampNeg (nI (D 0 7) - 1)) ((6 : Int32)).toNatClampNeg (nI (D 0 6) - 1)) ((5 : Int32)).toNatClampNeg (nI (D 0 5) - 1)) ((4 : Int32)).toNatClampNeg (nI (D 0 4) - 1)) ((3 : Int32)).toNatClampNeg (nI (D 0 3) - 1)) ((2 : Int32)).toNatClampNeg (nI (D 0 2) - 1)) ((1 : Int32)).toNatClampNeg (nI (D 0 1) - 1)) ((0 : Int32)).toNatClampNeg (nI (D 0 0) - 1)) k = ma_F D k) rfl rfl rfl rfl rfl rfl rfl rfl hk
  · exact co_3 (P := fun k => (upd (upd (upd g_R ((2 : Int32)).toNatClampNeg (nI (D 1 2) - 1)) ((1 : Int32)).toNatClampNeg (nI (D 1 1) - 1)) ((0 : Int32)).toNatClampNeg (nI (D 1 0) - 1)) k = ma_R D k) rfl rfl rfl hk
  · exact co_4 (P := fun k => (upd (upd (upd (upd g_C ((3 : Int32)).toNatClampNeg (nI (D 2 3))) ((2 : Int32)).toNatClampNeg (nI (D 2 2))) ((1 : Int32)).toNatClampNeg (nI (D 2 1))) ((0 : Int32)).toNatClampNeg (nI (D 2 0))) k = ma_C D k) rfl rfl rfl rfl hk
  · exact co_4 (P := fun k => (upd (upd (upd (upd g_L ((3 : Int32)).toNatClampNeg (nI (D 3 3))) ((2 : Int32)).toNatClampNeg (nI (D 3 2))) ((1 : Int32)).toNatClampNeg (nI (D 3 1))) ((0 : Int32)).toNatClampNeg (nI (D 3 0))) k = ma_L D k) rfl rfl rfl rfl hk

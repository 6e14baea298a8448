/-! the class's own operations on a STATE's long, as digits -/
theorem c_ix8 {P : Nat → Prop} (h0 : P 0) (h1 : P 1) (h2 : P 2) (h3 : P 3) (h4 : P 4) (h5 : P 5) (h6 : P 6) (h7 : P 7) {k : Nat} (hk : k < 8) : P k := by
  rcases (show k = 0 ∨ k = 1 ∨ k = 2 ∨ k = 3 ∨ k = 4 ∨ k = 5 ∨ k = 6 ∨ k = 7 by omega) with rfl | rfl | rfl | rfl | rfl | rfl | rfl | rfl <;> assumption
theorem cx_F {D : ab_D} {k : Nat} (hk : k < 8) : (ab_c D)[k]? = some (2 ^ 3, D 0 k) := c_ix8 (P := fun k => (ab_c D)[k]? = some (2 ^ 3, D 0 k)) rfl rfl rfl rfl rfl rfl rfl rfl hk
theorem cp_F {D : ab_D} {k : Nat} (hk : k < 8) : hr_p ((ab_c D).take k) = 2 ^ (3 * k) := c_ix8 (P := fun k => hr_p ((ab_c D).take k) = 2 ^ (3 * k)) (by simp [ab_c, hr_p]) (by simp [ab_c, hr_p]) (by simp [ab_c, hr_p]) (by simp [ab_c, hr_p]) (by simp [ab_c, hr_p]) (by simp [ab_c, hr_p]) (by simp [ab_c, hr_p]) (by simp [ab_c, hr_p]) hk
theorem cx_R {D : ab_D} {k : Nat} (hk : k < 3) : (ab_c D)[8 + k]? = some (2 ^ 3, D 1 k) := co_3 (P := fun k => (ab_c D)[8 + k]? = some (2 ^ 3, D 1 k)) rfl rfl rfl hk
theorem cp_R {D : ab_D} {k : Nat} (hk : k < 3) : hr_p ((ab_c D).take (8 + k)) = 2 ^ (24 + 3 * k) := co_3 (P := fun k => hr_p ((ab_c D).take (8 + k)) = 2 ^ (24 + 3 * k)) (by simp [ab_c, hr_p]) (by simp [ab_c, hr_p]) (by simp [ab_c, hr_p]) hk
theorem cx_G {D : ab_D} {k : Nat} (hk : k < 4) : (ab_c D)[11 + k]? = some (2, ab_g (D 2 k)) := co_4 (P := fun k => (ab_c D)[11 + k]? = some (2, ab_g (D 2 k))) rfl rfl rfl rfl hk
theorem cp_G {D : ab_D} {k : Nat} (hk : k < 4) : hr_p ((ab_c D).take (11 + k)) = 2 ^ (33 + k) := co_4 (P := fun k => hr_p ((ab_c D).take (11 + k)) = 2 ^ (33 + k)) (by simp [ab_c, hr_p]) (by simp [ab_c, hr_p]) (by simp [ab_c, hr_p]) (by simp [ab_c, hr_p]) hk
theorem cx_B {D : ab_D} {k : Nat} (hk : k < 4) : (ab_c D)[15 + k]? = some (2, ab_b (D 2 k)) := co_4 (P := fun k => (ab_c D)[15 + k]? = some (2, ab_b (D 2 k))) rfl rfl rfl rfl hk
theorem cp_B {D : ab_D} {k : Nat} (hk : k < 4) : hr_p ((ab_c D).take (15 + k)) = 2 ^ (37 + k) := co_4 (P := fun k => hr_p ((ab_c D).take (15 + k)) = 2 ^ (37 + k)) (by simp [ab_c, hr_p]) (by simp [ab_c, hr_p]) (by simp [ab_c, hr_p]) (by simp [ab_c, hr_p]) hk
theorem cx_L {D : ab_D} {k : Nat} (hk : k < 4) : (ab_c D)[19 + k]? = some (2, D 3 k) := co_4 (P := fun k => (ab_c D)[19 + k]? = some (2, D 3 k)) rfl rfl rfl rfl hk
theorem cp_L {D : ab_D} {k : Nat} (hk : k < 4) : hr_p ((ab_c D).take (19 + k)) = 2 ^ (41 + k) := co_4 (P := fun k => hr_p ((ab_c D).take (19 + k)) = 2 ^ (41 + k)) (by simp [ab_c, hr_p]) (by simp [ab_c, hr_p]) (by simp [ab_c, hr_p]) (by simp [ab_c, hr_p]) hk
theorem cs_lt {D : ab_D} (h : ab_B D) : hr_v (ab_c D) < 2 ^ 63 := Nat.lt_trans (ab_s_lt h) (by decide)
theorem cs_lt4 {D : ab_D} (h : ab_B D) : hr_v (ab_c D) < 2 ^ 64 := Nat.lt_trans (ab_s_lt h) (by decide)
theorem cs_fp (a b : Nat) : cf_X4_fieldPlace (nI a) (nI b) = nI (3 * (2 * a + b)) := by
  unfold cf_X4_fieldPlace
  rw [show (6 : Int32) = nI 6 from rfl, show (3 : Int32) = nI 3 from rfl, pk_mul, pk_mul, nI_add]
  congr 1; omega
theorem cs_rp (i : Nat) : cf_X4_rootPlace (nI i) = nI (24 + 3 * i) := by
  unfold cf_X4_rootPlace
  rw [show (24 : Int32) = nI 24 from rfl, show (3 : Int32) = nI 3 from rfl, pk_mul, nI_add]
theorem cs_inField {D : ab_D} (h : ab_B D) {a b : Nat} (ha : a < 4) (hb : b < 2) : cf_X4_inField (ab_s D) (nI a) (nI b) = nI (D 0 (2 * a + b)) - 1 := by
  unfold cf_X4_inField
  rw [cs_fp]
  exact congrArg (· - (1 : Int32)) (jp_get (ab_cok h) (cx_F (by omega)) (cp_F (by omega)) (by omega) (by decide +kernel) (by decide) (cs_lt4 h))
theorem cs_inRoot {D : ab_D} (h : ab_B D) {i : Nat} (hi : i < 3) : cf_X4_inRoot (ab_s D) (nI i) = nI (D 1 i) - 1 := by
  unfold cf_X4_inRoot
  rw [cs_rp]
  exact congrArg (· - (1 : Int32)) (jp_get (ab_cok h) (cx_R hi) (cp_R hi) (by omega) (by decide +kernel) (by decide) (cs_lt4 h))
theorem cs_m1 : ∀ t, t < 8 → (nI t - 1).toInt64 + (1 : Int64) = lN t := by decide +kernel
theorem cu_F {D : ab_D} {k v : Nat} (hk : k < 8) : (ab_c D).set k (2 ^ 3, v) = ab_c (ab_up D 0 k v) := c_ix8 (P := fun k => (ab_c D).set k (2 ^ 3, v) = ab_c (ab_up D 0 k v)) (by simp [ab_c, ab_up]) (by simp [ab_c, ab_up]) (by simp [ab_c, ab_up]) (by simp [ab_c, ab_up]) (by simp [ab_c, ab_up]) (by simp [ab_c, ab_up]) (by simp [ab_c, ab_up]) (by simp [ab_c, ab_up]) hk
theorem cu_R {D : ab_D} {k v : Nat} (hk : k < 3) : (ab_c D).set (8 + k) (2 ^ 3, v) = ab_c (ab_up D 1 k v) := co_3 (P := fun k => (ab_c D).set (8 + k) (2 ^ 3, v) = ab_c (ab_up D 1 k v)) (by simp [ab_c, ab_up]) (by simp [ab_c, ab_up]) (by simp [ab_c, ab_up]) hk
theorem cs_withField {D : ab_D} (h : ab_B D) {a b t : Nat} (ha : a < 4) (hb : b < 2) (ht : t < 8) : cf_X4_withField (ab_s D) (nI a) (nI b) (nI t - 1) = ab_s (ab_up D 0 (2 * a + b) t) := by
  unfold cf_X4_withField
  rw [cs_fp, cs_m1 t ht]
  have e := jp_put (d' := t) (ab_cok h) (cx_F (k := 2 * a + b) (by omega)) (by omega) (cp_F (by omega)) (by omega) (cs_lt h)
  rw [cu_F (by omega)] at e
  exact e
theorem cs_withRoot {D : ab_D} (h : ab_B D) {i t : Nat} (hi : i < 3) (ht : t < 8) : cf_X4_withRoot (ab_s D) (nI i) (nI t - 1) = ab_s (ab_up D 1 i t) := by
  unfold cf_X4_withRoot
  rw [cs_rp, cs_m1 t ht]
  have e := jp_put (d' := t) (ab_cok h) (cx_R hi) (by omega) (cp_R hi) (by omega) (cs_lt h)
  rw [cu_R hi] at e
  exact e
theorem cs_pl (a b : Nat) : nI a + nI b = nI (a + b) := nI_add a b
theorem cs_gbit {D : ab_D} (h : ab_B D) {o : Nat} (ho : o < 4) : jl_ushr (ab_s D) ((33 : Int32) + nI o) &&& 1 = lN (ab_g (D 2 o)) := by
  rw [show (33 : Int32) = nI 33 from rfl, cs_pl]
  exact jp_bit (ab_cok h) (cx_G ho) (cp_G ho) (by omega) (cs_lt4 h)
theorem cs_bbit {D : ab_D} (h : ab_B D) {o : Nat} (ho : o < 4) : jl_ushr (ab_s D) ((37 : Int32) + nI o) &&& 1 = lN (ab_b (D 2 o)) := by
  rw [show (37 : Int32) = nI 37 from rfl, cs_pl]
  exact jp_bit (ab_cok h) (cx_B ho) (cp_B ho) (by omega) (cs_lt4 h)
theorem cs_l0 {n : Nat} (h : n < 2) : lN n = 0 ↔ n = 0 := by
  rcases (show n = 0 ∨ n = 1 by omega) with rfl | rfl
  · exact ⟨fun _ => rfl, fun _ => rfl⟩
  · exact ⟨fun q => absurd q (by decide +kernel), fun q => absurd q (by decide)⟩
theorem cs_isBlack {D : ab_D} (h : ab_B D) {o : Nat} (ho : o < 4) : cf_X4_isBlack (ab_s D) (nI o) = if D 2 o = 2 then 1 else 0 := by
  unfold cf_X4_isBlack
  rw [cs_bbit h ho]
  by_cases hc : D 2 o = 2
  · rw [if_pos hc, if_neg]
    rw [lg_cmp_eq, cs_l0 (ab_b_lt _)]
    simp [ab_b, hc]
  · rw [if_neg hc, if_pos]
    rw [lg_cmp_eq, cs_l0 (ab_b_lt _)]
    simp [ab_b, hc]
theorem cs_both {D : ab_D} (h : ab_B D) {o : Nat} (ho : o < 4) : (jl_ushr (ab_s D) ((33 : Int32) + nI o) ||| jl_ushr (ab_s D) ((37 : Int32) + nI o)) &&& 1 = lN (ab_g (D 2 o) ||| ab_b (D 2 o)) := by
  have h4 := cs_lt4 h
  have g1 := hr_at (ab_cok h) (cx_G ho)
  have g2 := hr_at (ab_cok h) (cx_B ho)
  rw [cp_G ho] at g1
  rw [cp_B ho] at g2
  rw [show (33 : Int32) = nI 33 from rfl, show (37 : Int32) = nI 37 from rfl, cs_pl, cs_pl]
  show (jl_ushr (lN (hr_v (ab_c D))) (nI (33 + o)) ||| jl_ushr (lN (hr_v (ab_c D))) (nI (37 + o))) &&& 1 = _
  have k1 : hr_v (ab_c D) / 2 ^ (33 + o) < 2 ^ 64 := Nat.lt_of_le_of_lt (Nat.div_le_self _ _) h4
  have k2 : hr_v (ab_c D) / 2 ^ (37 + o) < 2 ^ 64 := Nat.lt_of_le_of_lt (Nat.div_le_self _ _) h4
  rw [jl_u h4 (by omega), jl_u h4 (by omega), wb_or k1 k2, wb_a1 (Nat.or_lt_two_pow k1 k2)]
  have e := Nat.or_mod_two_pow (a := hr_v (ab_c D) / 2 ^ (33 + o)) (b := hr_v (ab_c D) / 2 ^ (37 + o)) (n := 1)
  rw [Nat.pow_one] at e
  rw [e, g1, g2]
theorem cs_t1 : ∀ t, t < 8 → (t = 0 → nI t - 1 = (-1 : Int32)) ∧ (t ≠ 0 → nI t - 1 = nI (t - 1) ∧ nI t - 1 ≠ (-1 : Int32)) := by decide +kernel
theorem cu_C1 {D : ab_D} {o : Nat} (ho : o < 4) (h0 : D 2 o = 0) (hl : D 3 o = 0) : (ab_c D).set (11 + o) (2, 1) = ab_c (ab_up (ab_up D 2 o 1) 3 o 0) := by
  rcases (show o = 0 ∨ o = 1 ∨ o = 2 ∨ o = 3 by omega) with rfl | rfl | rfl | rfl <;> simp [ab_c, ab_up, ab_g, ab_b, h0, hl]
theorem sp_w_iff0 {D : ab_D} {t : Nat} (h0 : t ≠ 0) (hc : D 2 (t - 1) = 0) : sp_w D t = true := by simp [sp_w, h0, hc]
theorem cs_greyIfWhite {D : ab_D} (h : ab_B D) {t : Nat} (ht : t ≤ 4) (hl : D 2 (t - 1) = 0 → D 3 (t - 1) = 0) : cf_X4_greyIfWhite (ab_s D) (nI t - 1) = ab_s (sp_g D t) := by
  unfold cf_X4_greyIfWhite sp_g
  by_cases h0 : t = 0
  · rw [if_pos ((cs_t1 t (by omega)).1 h0), if_neg]
    simp [sp_w, h0]
  · obtain ⟨e1, e2⟩ := (cs_t1 t (by omega)).2 h0
    rw [if_neg e2, e1, cs_both h (show t - 1 < 4 by omega)]
    by_cases hc : D 2 (t - 1) = 0
    · rw [if_pos (by rw [lg_cmp_eq, hc]; decide +kernel), if_pos (sp_w_iff0 h0 hc)]
      have e := jp_or (d' := 1) (w := 1) (ab_cok h) (by have := cx_G (D := D) (k := t - 1) (by omega); rw [hc] at this; exact this) (by decide) (cp_G (by omega)) (by omega) (cs_lt h)
      rw [show (33 : Int32) = nI 33 from rfl, cs_pl]
      have e3 := cu_C1 (D := D) (o := t - 1) (by omega) hc (hl hc)
      rw [show ((2 : Nat) ^ 1) = 2 from rfl, e3] at e
      exact e
    · rw [if_neg, if_neg]
      · simp [sp_w, h0, hc]
      · rw [lg_cmp_eq]
        have := (h.2.2.1 (t - 1) (by omega)).1
        rcases (show D 2 (t - 1) = 1 ∨ D 2 (t - 1) = 2 by omega) with q | q <;> rw [q] <;> decide +kernel

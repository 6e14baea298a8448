/-! what is BROKEN, by sets of OBJECTS as numbers below 16 -/
def nf_o (D : ab_D) (o : Nat) : Nat := 2 ^ (D 0 (2 * o)) ||| 2 ^ (D 0 (2 * o + 1))
def nf_if (h o m : Nat) : Nat := if h.testBit o = true then m else 0
def nf_set (D : ab_D) (h : Nat) : Nat := (nf_if h 0 (nf_o D 0) ||| nf_if h 1 (nf_o D 1) ||| nf_if h 2 (nf_o D 2) ||| nf_if h 3 (nf_o D 3)) / 2
def nf_rt (D : ab_D) : Nat := (2 ^ (D 1 0) ||| 2 ^ (D 1 1) ||| 2 ^ (D 1 2)) / 2
def nf_g (D : ab_D) : Nat := hr_v [(2, ab_g (D 2 0)), (2, ab_g (D 2 1)), (2, ab_g (D 2 2)), (2, ab_g (D 2 3))]
def nf_b (D : ab_D) : Nat := hr_v [(2, ab_b (D 2 0)), (2, ab_b (D 2 1)), (2, ab_b (D 2 2)), (2, ab_b (D 2 3))]
def nf_w (D : ab_D) : Nat := 15 - (nf_g D ||| nf_b D)
def nf_st (D : ab_D) (thr m : Nat) : Nat := m ||| (nf_set D m &&& thr)
def nf_cl (D : ab_D) (m thr : Nat) : Nat := nf_st D thr (nf_st D thr (nf_st D thr m))
def nf_need (D : ab_D) : Nat := nf_cl D (nf_rt D) 15
def nf_wi (D : ab_D) (h : Nat) : Nat := nf_set D h &&& nf_w D
def nf_wg (D : ab_D) : Nat := nf_cl D (nf_wi D (nf_g D)) (nf_w D)
def sp_br (D : ab_D) (w : Nat) : Bool :=
  if w = 0 then decide (D 4 2 = 1) && decide (nf_need D &&& nf_w D ≠ 0)
  else if w = 1 then decide (nf_wi D (nf_b D) ≠ 0)
  else if w = 2 then decide (nf_wi D (nf_b D) &&& (15 - nf_wg D) ≠ 0)
  else decide (D 4 2 = 1) && decide (nf_b D &&& (15 - nf_need D) ≠ 0)
theorem nb_o : ∀ d, d < 5 → ∀ e, e < 5 → (((1 : Int32) <<< ((nI (d + 8 * e) &&& (7 : Int32)) &&& 31)) ||| ((1 : Int32) <<< ((ji_ushr (nI (d + 8 * e)) (3 : Int32)) &&& 31))) = nI (2 ^ d ||| 2 ^ e) := by decide +kernel
theorem nb_r : ∀ d, d < 5 → (1 : Int32) <<< (nI d &&& 31) = nI (2 ^ d) := by decide +kernel
theorem nb_or (a b : Nat) : nI a ||| nI b = nI (a ||| b) := by
  apply Int32.toBitVec_inj.mp
  rw [Int32.toBitVec_or]
  show BitVec.ofNat 32 a ||| BitVec.ofNat 32 b = BitVec.ofNat 32 (a ||| b)
  apply BitVec.eq_of_toNat_eq
  rw [BitVec.toNat_or, BitVec.toNat_ofNat, BitVec.toNat_ofNat, BitVec.toNat_ofNat, Nat.or_mod_two_pow]
theorem nb_and (a b : Nat) : nI a &&& nI b = nI (a &&& b) := by
  apply Int32.toBitVec_inj.mp
  rw [Int32.toBitVec_and]
  show BitVec.ofNat 32 a &&& BitVec.ofNat 32 b = BitVec.ofNat 32 (a &&& b)
  apply BitVec.eq_of_toNat_eq
  rw [BitVec.toNat_and, BitVec.toNat_ofNat, BitVec.toNat_ofNat, BitVec.toNat_ofNat, Nat.and_mod_two_pow]
theorem nb_u : ∀ m, m < 32 → ji_ushr (nI m) (1 : Int32) = nI (m / 2) := by decide +kernel
theorem nb_bit : ∀ h, h < 16 → ∀ o, o < 4 → (((ji_ushr (nI h) (nI o)) &&& (1 : Int32)) = 0 ↔ h.testBit o = false) := by decide +kernel
theorem nb_not : ∀ m, m < 16 → (nI m ^^^ (-1 : Int32)) &&& (15 : Int32) = nI (15 - m) := by decide +kernel
theorem nb_nota : ∀ a, a < 16 → ∀ m, m < 16 → nI a &&& (nI m ^^^ (-1 : Int32)) = nI (a &&& (15 - m)) := by decide +kernel
theorem nb_p5 {d : Nat} (h : d < 5) : 2 ^ d < 32 := by
  rcases (show d = 0 ∨ d = 1 ∨ d = 2 ∨ d = 3 ∨ d = 4 by omega) with rfl | rfl | rfl | rfl | rfl <;> decide
theorem nb_o32 {a b : Nat} (ha : a < 32) (hb : b < 32) : a ||| b < 32 := Nat.or_lt_two_pow (n := 5) ha hb
theorem nb_o16 {a b : Nat} (ha : a < 16) (hb : b < 16) : a ||| b < 16 := Nat.or_lt_two_pow (n := 4) ha hb
theorem nb_a16 {a b : Nat} (ha : a < 16) : a &&& b < 16 := Nat.lt_of_le_of_lt Nat.and_le_left ha
section NB
variable {D : ab_D}
theorem nf_o_lt (h : ab_B D) {o : Nat} (ho : o < 4) : nf_o D o < 32 := nb_o32 (nb_p5 (by have := h.1 (2 * o) (by omega); omega)) (nb_p5 (by have := h.1 (2 * o + 1) (by omega); omega))
theorem nf_if_lt {h o m : Nat} (hm : m < 32) : nf_if h o m < 32 := by unfold nf_if; split <;> omega
theorem nf_set_lt (h : ab_B D) (m : Nat) : nf_set D m < 16 := by
  have := nb_o32 (nb_o32 (nb_o32 (nf_if_lt (h := m) (o := 0) (nf_o_lt h (o := 0) (by omega))) (nf_if_lt (h := m) (o := 1) (nf_o_lt h (o := 1) (by omega)))) (nf_if_lt (h := m) (o := 2) (nf_o_lt h (o := 2) (by omega)))) (nf_if_lt (h := m) (o := 3) (nf_o_lt h (o := 3) (by omega)))
  unfold nf_set; omega
theorem nf_rt_lt (h : ab_B D) : nf_rt D < 16 := by
  have h2 := h.2.1
  have := nb_o32 (nb_o32 (nb_p5 (d := D 1 0) (by have := h2 0 (by omega); omega)) (nb_p5 (d := D 1 1) (by have := h2 1 (by omega); omega))) (nb_p5 (d := D 1 2) (by have := h2 2 (by omega); omega))
  unfold nf_rt; omega
theorem nf_g_lt : nf_g D < 16 := by
  have a0 := ab_g_lt (D 2 0); have a1 := ab_g_lt (D 2 1); have a2 := ab_g_lt (D 2 2); have a3 := ab_g_lt (D 2 3)
  simp only [nf_g, hr_v]; omega
theorem nf_b_lt : nf_b D < 16 := by
  have a0 := ab_b_lt (D 2 0); have a1 := ab_b_lt (D 2 1); have a2 := ab_b_lt (D 2 2); have a3 := ab_b_lt (D 2 3)
  simp only [nf_b, hr_v]; omega
theorem nf_w_lt : nf_w D < 16 := by unfold nf_w; omega
theorem nf_st_lt (h : ab_B D) {thr m : Nat} (hm : m < 16) : nf_st D thr m < 16 := nb_o16 hm (nb_a16 (nf_set_lt h m))
theorem nf_cl_lt (h : ab_B D) {thr m : Nat} (hm : m < 16) : nf_cl D m thr < 16 := nf_st_lt h (nf_st_lt h (nf_st_lt h hm))
theorem cs_setInRoots (h : ab_B D) : cf_X4_setInRoots (ab_s D) = nI (nf_rt D) := by
  have h2 := h.2.1
  have b0 := h2 0 (by omega); have b1 := h2 1 (by omega); have b2 := h2 2 (by omega)
  have e0 : (jl_ushr (ab_s D) ((24 : Int32) + (3 : Int32) * (0 : Int32))).toInt32 &&& 7 = nI (D 1 0) := jp_get (i := 8) (p := 24) (w := 3) (ab_cok h) (cx_R (k := 0) (by omega)) (cp_R (k := 0) (by omega)) (by omega) (by decide +kernel) (by decide) (cs_lt4 h)
  have e1 : (jl_ushr (ab_s D) ((24 : Int32) + (3 : Int32) * (1 : Int32))).toInt32 &&& 7 = nI (D 1 1) := jp_get (i := 9) (p := 27) (w := 3) (ab_cok h) (cx_R (k := 1) (by omega)) (cp_R (k := 1) (by omega)) (by omega) (by decide +kernel) (by decide) (cs_lt4 h)
  have e2 : (jl_ushr (ab_s D) ((24 : Int32) + (3 : Int32) * (2 : Int32))).toInt32 &&& 7 = nI (D 1 2) := jp_get (i := 10) (p := 30) (w := 3) (ab_cok h) (cx_R (k := 2) (by omega)) (cp_R (k := 2) (by omega)) (by omega) (by decide +kernel) (by decide) (cs_lt4 h)
  unfold cf_X4_setInRoots cf_X4_setInRoots_s4_0 cf_X4_setInRoots_s4_1 cf_X4_setInRoots_s4_2 cf_X4_setInRoots_s4_3
  rw [e0, e1, e2, nb_r _ (by omega), nb_r _ (by omega), nb_r _ (by omega), show (0 : Int32) = nI 0 from rfl, nb_or, nb_or, nb_or, Nat.zero_or]
  exact nb_u _ (nb_o32 (nb_o32 (nb_p5 (by omega)) (nb_p5 (by omega))) (nb_p5 (by omega)))
theorem cs_links (h : ab_B D) {o : Nat} (ho : o < 4) : (jl_ushr (ab_s D) ((6 : Int32) * nI o)).toInt32 &&& (63 : Int32) = nI (D 0 (2 * o) + 8 * D 0 (2 * o + 1)) := by
  have hok := ab_cok h
  have g1 := hr_at hok (cx_F (D := D) (k := 2 * o) (by omega))
  have g2 := hr_at hok (cx_F (D := D) (k := 2 * o + 1) (by omega))
  rw [cp_F (by omega)] at g1 g2
  rw [show (6 : Int32) = nI 6 from rfl, pk_mul]
  show (jl_ushr (lN (hr_v (ab_c D))) (nI (6 * o))).toInt32 &&& 63 = _
  rw [jl_u (cs_lt4 h) (by omega), lN_i, ji_and _ 6 (by decide +kernel) (by decide)]
  congr 1
  generalize hr_v (ab_c D) = N at g1 g2
  rw [show 3 * (2 * o) = 6 * o by omega] at g1
  rw [show 3 * (2 * o + 1) = 6 * o + 3 by omega, Nat.pow_add, ← Nat.div_div_eq_div_mul] at g2
  generalize N / 2 ^ (6 * o) = M at g1 g2
  omega
theorem cs_setInFields (h : ab_B D) {m : Nat} (hm : m < 16) : cf_X4_setInFields (ab_s D) (nI m) = nI (nf_set D m) := by
  have h1 := h.1
  have k0 := h1 0 (by omega); have k1 := h1 1 (by omega); have k2 := h1 2 (by omega); have k3 := h1 3 (by omega); have k4 := h1 4 (by omega); have k5 := h1 5 (by omega); have k6 := h1 6 (by omega); have k7 := h1 7 (by omega)
  have l0 : (jl_ushr (ab_s D) ((6 : Int32) * (0 : Int32))).toInt32 &&& (63 : Int32) = nI (D 0 0 + 8 * D 0 1) := cs_links h (o := 0) (by omega)
  have l1 : (jl_ushr (ab_s D) ((6 : Int32) * (1 : Int32))).toInt32 &&& (63 : Int32) = nI (D 0 2 + 8 * D 0 3) := cs_links h (o := 1) (by omega)
  have l2 : (jl_ushr (ab_s D) ((6 : Int32) * (2 : Int32))).toInt32 &&& (63 : Int32) = nI (D 0 4 + 8 * D 0 5) := cs_links h (o := 2) (by omega)
  have l3 : (jl_ushr (ab_s D) ((6 : Int32) * (3 : Int32))).toInt32 &&& (63 : Int32) = nI (D 0 6 + 8 * D 0 7) := cs_links h (o := 3) (by omega)
  have t0 := nb_bit m hm 0 (by omega); have t1 := nb_bit m hm 1 (by omega); have t2 := nb_bit m hm 2 (by omega); have t3 := nb_bit m hm 3 (by omega)
  rw [show nI 0 = (0 : Int32) from rfl] at t0; rw [show nI 1 = (1 : Int32) from rfl] at t1; rw [show nI 2 = (2 : Int32) from rfl] at t2; rw [show nI 3 = (3 : Int32) from rfl] at t3
  have s0 : ∀ a, cf_X4_setInFields_s5_0 (ab_s D) (nI m) (nI a) = cf_X4_setInFields_s5_1 (ab_s D) (nI m) (nI (a ||| nf_if m 0 (nf_o D 0))) := by
    intro a
    unfold cf_X4_setInFields_s5_0 cf_X4_setInFields_s50_0 nf_if
    rw [l0, nb_o _ (by omega) _ (by omega)]
    by_cases q : m.testBit 0 = false
    · rw [if_pos (t0.mpr q), q, if_neg (by decide), Nat.or_zero]
    · rw [if_neg (fun y => q (t0.mp y)), if_pos (by simpa using q), nb_or]
      rfl
  have s1 : ∀ a, cf_X4_setInFields_s5_1 (ab_s D) (nI m) (nI a) = cf_X4_setInFields_s5_2 (ab_s D) (nI m) (nI (a ||| nf_if m 1 (nf_o D 1))) := by
    intro a
    unfold cf_X4_setInFields_s5_1 cf_X4_setInFields_s50_1 nf_if
    rw [l1, nb_o _ (by omega) _ (by omega)]
    by_cases q : m.testBit 1 = false
    · rw [if_pos (t1.mpr q), q, if_neg (by decide), Nat.or_zero]
    · rw [if_neg (fun y => q (t1.mp y)), if_pos (by simpa using q), nb_or]
      rfl
  have s2 : ∀ a, cf_X4_setInFields_s5_2 (ab_s D) (nI m) (nI a) = cf_X4_setInFields_s5_3 (ab_s D) (nI m) (nI (a ||| nf_if m 2 (nf_o D 2))) := by
    intro a
    unfold cf_X4_setInFields_s5_2 cf_X4_setInFields_s50_2 nf_if
    rw [l2, nb_o _ (by omega) _ (by omega)]
    by_cases q : m.testBit 2 = false
    · rw [if_pos (t2.mpr q), q, if_neg (by decide), Nat.or_zero]
    · rw [if_neg (fun y => q (t2.mp y)), if_pos (by simpa using q), nb_or]
      rfl
  have s3 : ∀ a, cf_X4_setInFields_s5_3 (ab_s D) (nI m) (nI a) = cf_X4_setInFields_s5_4 (ab_s D) (nI m) (nI (a ||| nf_if m 3 (nf_o D 3))) := by
    intro a
    unfold cf_X4_setInFields_s5_3 cf_X4_setInFields_s50_3 nf_if
    rw [l3, nb_o _ (by omega) _ (by omega)]
    by_cases q : m.testBit 3 = false
    · rw [if_pos (t3.mpr q), q, if_neg (by decide), Nat.or_zero]
    · rw [if_neg (fun y => q (t3.mp y)), if_pos (by simpa using q), nb_or]
      rfl
  unfold cf_X4_setInFields
  rw [show (0 : Int32) = nI 0 from rfl, s0, s1, s2, s3, Nat.zero_or]
  unfold cf_X4_setInFields_s5_4
  exact nb_u _ (nb_o32 (nb_o32 (nb_o32 (nf_if_lt (nf_o_lt h (by omega))) (nf_if_lt (nf_o_lt h (by omega)))) (nf_if_lt (nf_o_lt h (by omega)))) (nf_if_lt (nf_o_lt h (by omega))))
theorem cs_whites (h : ab_B D) : cf_X4_whites (ab_s D) = nI (nf_w D) := by
  unfold cf_X4_whites
  rw [cs_greys h, cs_blacks h]
  show ((nI (nf_g D) ||| nI (nf_b D)) ^^^ (-1)) &&& 15 = _
  rw [nb_or, nb_not _ (nb_o16 nf_g_lt nf_b_lt)]
  rfl
theorem cs_closure (h : ab_B D) {m thr : Nat} (hm : m < 16) (ht : thr < 16) : cf_X0_closure (ab_s D) (nI m) (nI thr) = nI (nf_cl D m thr) := by
  unfold cf_X0_closure cf_X0_closure_s6_1 cf_X0_closure_s6_2 cf_X0_closure_s6_3 cf_X0_closure_s6_4
  have s : ∀ m, m < 16 → nI m ||| (cf_X4_setInFields (ab_s D) (nI m) &&& nI thr) = nI (nf_st D thr m) := fun m hm => by rw [cs_setInFields h hm, nb_and, nb_or]; rfl
  rw [s _ hm, s _ (nf_st_lt h hm), s _ (nf_st_lt h (nf_st_lt h hm))]
  rfl
theorem cs_isBroken (h : ab_B D) {w : Nat} (hw : w < 4) : cf_X0_isBroken (ab_s D) (nI w) = if sp_br D w = true then 1 else 0 := by
  have e15 : (15 : Int32) = nI 15 := rfl
  have hneed : cf_X0_needed (ab_s D) = nI (nf_need D) := by unfold cf_X0_needed; rw [cs_setInRoots h, e15, cs_closure h (nf_rt_lt h) (by omega)]; rfl
  have hwi : ∀ m, m < 16 → cf_X0_whitesIn (ab_s D) (nI m) = nI (nf_wi D m) := fun m hm => by unfold cf_X0_whitesIn; rw [cs_setInFields h hm, cs_whites h, nb_and]; rfl
  have lwi : ∀ m, nf_wi D m < 16 := fun m => nb_a16 (nf_set_lt h m)
  have lneed : nf_need D < 16 := nf_cl_lt h (nf_rt_lt h)
  have lwg : nf_wg D < 16 := nf_cl_lt h (lwi _)
  have hwg : cf_X0_whitesBehindGreys (ab_s D) = nI (nf_wg D) := by
    unfold cf_X0_whitesBehindGreys
    rw [cs_greys h, cs_whites h]
    show cf_X0_closure (ab_s D) (cf_X0_whitesIn (ab_s D) (nI (nf_g D))) _ = _
    rw [hwi _ nf_g_lt, cs_closure h (lwi _) nf_w_lt]; rfl
  have hbl : cf_X4_blacks (ab_s D) = nI (nf_b D) := cs_blacks h
  have z : ∀ m, m < 16 → (nI m = 0 ↔ m = 0) := fun m hm => ms_0 (by omega)
  unfold cf_X0_isBroken cf_X0_isBroken_s51 cf_X0_isBroken_s119 sp_br
  rw [hneed, cs_whites h, hbl, hwi _ nf_b_lt, hwg, cs_isOver h, nb_and, nb_nota _ (lwi _) _ lwg, nb_nota _ nf_b_lt _ lneed]
  have c0 := z (nf_need D &&& nf_w D) (nb_a16 (nf_cl_lt h (nf_rt_lt h)))
  have c1 := z (nf_wi D (nf_b D)) (nb_a16 (nf_set_lt h _))
  have c2 := z (nf_wi D (nf_b D) &&& (15 - nf_wg D)) (nb_a16 (nb_a16 (nf_set_lt h _)))
  have c3 := z (nf_b D &&& (15 - nf_need D)) (nb_a16 nf_b_lt)
  have n0 := ms_0 (show w < 200 by omega)
  have n1 := ms_1 (show w < 200 by omega)
  have n2 := ms_2 (show w < 200 by omega)
  by_cases w0 : w = 0
  · rw [if_pos (n0.mpr w0), if_pos w0]
    by_cases q : D 4 2 = 1 <;> by_cases q2 : nf_need D &&& nf_w D = 0 <;> simp [q, q2, c0, nI_0]
  rw [if_neg (fun y => w0 (n0.mp y)), if_neg w0]
  by_cases w1 : w = 1
  · rw [if_pos (n1.mpr w1), if_pos w1]
    by_cases q2 : nf_wi D (nf_b D) = 0 <;> simp [q2, c1, nI_0]
  rw [if_neg (fun y => w1 (n1.mp y)), if_neg w1]
  by_cases w2 : w = 2
  · rw [if_pos (n2.mpr w2), if_pos w2]
    by_cases q2 : nf_wi D (nf_b D) &&& (15 - nf_wg D) = 0 <;> simp [q2, c2, nI_0]
  rw [if_neg (fun y => w2 (n2.mp y)), if_neg w2]
  by_cases q : D 4 2 = 1 <;> by_cases q2 : nf_b D &&& (15 - nf_need D) = 0 <;> simp [q, q2, c3, nI_0]
end NB

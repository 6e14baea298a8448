/-! what the marks come to: the least closed set -/
def cl_ok (D : ab_D) (fl : Bool) (C : Nat) : Prop := ∀ j, j < 8 → C.testBit (j / 2) = true → D 0 j ≠ 0 → (fl = false ∨ D 2 (D 0 j - 1) = 0) → C.testBit (D 0 j - 1) = true
def sub4 (a b : Nat) : Prop := ∀ i, i < 4 → a.testBit i = true → b.testBit i = true
theorem bit16 {a i : Nat} (ha : a < 16) (hi : 4 ≤ i) : a.testBit i = false := Nat.testBit_lt_two_pow (Nat.lt_of_lt_of_le ha (Nat.pow_le_pow_right (n := 2) (by decide) hi))
theorem ext16 {a b : Nat} (ha : a < 16) (hb : b < 16) (h1 : sub4 a b) (h2 : sub4 b a) : a = b := by
  apply Nat.eq_of_testBit_eq
  intro i
  rcases Nat.lt_or_ge i 4 with q | q
  · cases ea : a.testBit i with
    | true => exact (h1 i q ea).symm
    | false => cases eb : b.testBit i with
      | false => rfl
      | true => rw [h2 i q eb] at ea; cases ea
  · rw [bit16 ha q, bit16 hb q]
theorem sub4.tr {a b c : Nat} (h1 : sub4 a b) (h2 : sub4 b c) : sub4 a c := fun i hi h => h2 i hi (h1 i hi h)
theorem sub4.rf (a : Nat) : sub4 a a := fun _ _ h => h
section LS
variable {D : ab_D} {fl : Bool} {S C j o : Nat}
theorem sg_lt (h : ab_B D) (hj : j < 8) (hS : S < 16) : sg_s D fl j o S < 16 := by
  unfold sg_s; split
  · rename_i q
    have h1 := h.1 j hj
    have h0 : D 0 j ≠ 0 := fun z => by rw [sg_n (Or.inl z)] at q; cases q
    refine nb_o16 hS ?_
    rcases (show D 0 j - 1 = 0 ∨ D 0 j - 1 = 1 ∨ D 0 j - 1 = 2 ∨ D 0 j - 1 = 3 by omega) with e | e | e | e <;> rw [e] <;> decide
  · exact hS
theorem sg_le : S ≤ sg_s D fl j o S := by unfold sg_s; split; exact Nat.left_le_or; exact Nat.le_refl _
theorem sg_sup : sub4 S (sg_s D fl j o S) := fun i _ h => sg_k h
theorem sg_in (hC : cl_ok D fl C) (hj : j < 8) (ho : o = j / 2) (h4 : o < 4) (hS : sub4 S C) : sub4 (sg_s D fl j o S) C := by
  intro i hi hb
  unfold sg_s at hb
  split at hb
  · rename_i q
    rw [Nat.testBit_or, Nat.testBit_two_pow] at hb
    simp only [Bool.or_eq_true, decide_eq_true_eq] at hb
    rcases hb with hb | hb
    · exact hS i hi hb
    · unfold sg_c at q
      simp only [Bool.and_eq_true, Bool.or_eq_true, decide_eq_true_eq, Bool.not_eq_true'] at q
      rw [← hb]
      exact hC j hj (by rw [← ho]; exact hS o h4 q.1) q.2.1 q.2.2.2
  · exact hS i hi hb
theorem sg_lt2 (h : sg_c D fl j o S = true) : S < sg_s D fl j o S := by
  have hle := sg_le (D := D) (fl := fl) (j := j) (o := o) (S := S)
  rcases Nat.lt_or_eq_of_le hle with q | q
  · exact q
  · exfalso
    have h2 := h
    unfold sg_c at h2
    simp only [Bool.and_eq_true, Bool.not_eq_true'] at h2
    unfold sg_s at q
    rw [if_pos h] at q
    have e := h2.2.2.1
    rw [q, Nat.testBit_or, Nat.testBit_two_pow] at e
    simp at e
theorem sg_m0 {mo : Int32} (h : sg_m D fl j o S mo = 0) : sg_c D fl j o S = false ∧ mo = 0 := by
  unfold sg_m at h
  cases q : sg_c D fl j o S with
  | true => rw [q, if_pos rfl] at h; exact absurd h (by decide +kernel)
  | false => rw [q, if_neg (by decide)] at h; exact ⟨rfl, h⟩
theorem sg_M0 {mo : Int32} (h : sg_M D fl o S mo = 0) : sg_S D fl o S = S ∧ sg_c D fl (2 * o) o S = false ∧ sg_c D fl (2 * o + 1) o S = false ∧ mo = 0 := by
  unfold sg_M at h
  obtain ⟨a1, a2⟩ := sg_m0 h
  obtain ⟨a3, a4⟩ := sg_m0 a2
  have e := (sg_f a3 0).1
  rw [e] at a1
  refine ⟨?_, a3, a1, a4⟩
  unfold sg_S
  rw [e, (sg_f a1 0).1]
theorem sg_nc (hb : D 0 j ≠ 0 → True) (h : sg_c D fl j o S = false) : S.testBit o = true → D 0 j ≠ 0 → (fl = false ∨ D 2 (D 0 j - 1) = 0) → S.testBit (D 0 j - 1) = true := by
  intro h1 h2 h3
  unfold sg_c at h
  rw [h1] at h
  cases e : S.testBit (D 0 j - 1) with
  | true => rfl
  | false =>
    rw [e] at h
    rcases h3 with h3 | h3
    · simp [h2, h3] at h
    · simp [h2, h3] at h
theorem sg_Q0 (h : sg_Q D fl S 0 = 0) : sg_P D fl S = S ∧ cl_ok D fl S := by
  unfold sg_Q at h
  unfold sg_P
  obtain ⟨a3, b3, c3, d3⟩ := sg_M0 h
  obtain ⟨a2, b2, c2, d2⟩ := sg_M0 d3
  obtain ⟨a1, b1, c1, d1⟩ := sg_M0 d2
  obtain ⟨a0, b0, c0, d0⟩ := sg_M0 d1
  rw [a0] at a1 b1 c1 a2 b2 c2 a3 b3 c3
  rw [a1] at a2 b2 c2 a3 b3 c3
  rw [a2] at a3 b3 c3
  refine ⟨by rw [a0, a1, a2, a3], fun j hj => ?_⟩
  rcases (show j = 0 ∨ j = 1 ∨ j = 2 ∨ j = 3 ∨ j = 4 ∨ j = 5 ∨ j = 6 ∨ j = 7 by omega) with rfl | rfl | rfl | rfl | rfl | rfl | rfl | rfl
  · exact sg_nc (fun _ => trivial) b0
  · exact sg_nc (fun _ => trivial) c0
  · exact sg_nc (fun _ => trivial) b1
  · exact sg_nc (fun _ => trivial) c1
  · exact sg_nc (fun _ => trivial) b2
  · exact sg_nc (fun _ => trivial) c2
  · exact sg_nc (fun _ => trivial) b3
  · exact sg_nc (fun _ => trivial) c3
theorem sg_M1 {mo : Int32} (h0 : mo = 0) (h : sg_M D fl o S mo ≠ 0) : S < sg_S D fl o S := by
  unfold sg_M at h
  unfold sg_S
  cases q : sg_c D fl (2 * o) o S with
  | true => exact Nat.lt_of_lt_of_le (sg_lt2 q) sg_le
  | false =>
    have e := sg_f q mo
    rw [e.1, e.2] at h
    rw [e.1]
    cases q2 : sg_c D fl (2 * o + 1) o S with
    | true => exact sg_lt2 q2
    | false => rw [(sg_f q2 mo).2] at h; exact absurd h0 h
theorem sg_Sle : S ≤ sg_S D fl o S := Nat.le_trans sg_le sg_le
theorem sg_Q1 (h : sg_Q D fl S 0 ≠ 0) : S < sg_P D fl S := by
  unfold sg_Q at h
  unfold sg_P
  by_cases q0 : sg_M D fl 0 S 0 = 0
  · have e0 := (sg_M0 q0).1
    rw [q0, e0] at h
    rw [e0]
    by_cases q1 : sg_M D fl 1 S 0 = 0
    · have e1 := (sg_M0 q1).1
      rw [q1, e1] at h
      rw [e1]
      by_cases q2 : sg_M D fl 2 S 0 = 0
      · have e2 := (sg_M0 q2).1
        rw [q2, e2] at h
        rw [e2]
        exact sg_M1 rfl h
      · exact Nat.lt_of_lt_of_le (sg_M1 rfl q2) sg_Sle
    · exact Nat.lt_of_lt_of_le (sg_M1 rfl q1) (Nat.le_trans sg_Sle sg_Sle)
  · exact Nat.lt_of_lt_of_le (sg_M1 rfl q0) (Nat.le_trans sg_Sle (Nat.le_trans sg_Sle sg_Sle))
theorem sg_Slt (h : ab_B D) (ho : o < 4) (hS : S < 16) : sg_S D fl o S < 16 := sg_lt h (by omega) (sg_lt h (by omega) hS)
theorem sg_Plt (h : ab_B D) (hS : S < 16) : sg_P D fl S < 16 := sg_Slt h (by omega) (sg_Slt h (by omega) (sg_Slt h (by omega) (sg_Slt h (by omega) hS)))
theorem sg_Ssup : sub4 S (sg_S D fl o S) := sub4.tr sg_sup sg_sup
theorem sg_Psup : sub4 S (sg_P D fl S) := sub4.tr sg_Ssup (sub4.tr sg_Ssup (sub4.tr sg_Ssup sg_Ssup))
theorem sg_Sin (hC : cl_ok D fl C) (ho : o < 4) (hS : sub4 S C) : sub4 (sg_S D fl o S) C := sg_in hC (by omega) (by omega) ho (sg_in hC (by omega) (by omega) ho hS)
theorem sg_Pin (hC : cl_ok D fl C) (hS : sub4 S C) : sub4 (sg_P D fl S) C := sg_Sin hC (by omega) (sg_Sin hC (by omega) (sg_Sin hC (by omega) (sg_Sin hC (by omega) hS)))
theorem sp_loop {o f r fu : Nat} {x1 : Int32} {g : Nat → Int32} (hw : ab_W o f r) (h : ab_V o f r D) (hx : x1 = 0 ↔ fl = false) : ∀ (n S : Nat) (mo : Int32), S < 16 → 17 - S < n → mo ≠ 0 →
    ∃ C, C < 16 ∧ cf_X6_spread_L2 fu n (nI o) (nI f) (ma_F D) (ma_C D) (mm_M S g) x1 mo = mm_M C g ∧ vc_X6_spread_L2 fu n (nI o) (nI f) (ma_F D) (ma_C D) (mm_M S g) x1 mo ∧ sub4 S C ∧ cl_ok D fl C ∧ ∀ C', cl_ok D fl C' → sub4 S C' → sub4 C C'
  | 0, S, mo, _, hn, _ => absurd hn (by omega)
  | n + 1, S, mo, hS, hn, hm => by
    have p := sg_pass (fu := fu) (g := g) (k_2 := cf_X6_spread_L2 fu n) (v_2 := vc_X6_spread_L2 fu n) hw h hx S 0
    have e1 : cf_X6_spread_L2 fu (n + 1) (nI o) (nI f) (ma_F D) (ma_C D) (mm_M S g) x1 mo = cf_X6_spread_L2 fu n (nI o) (nI f) (ma_F D) (ma_C D) (mm_M (sg_P D fl S) g) x1 (sg_Q D fl S 0) := by
      show (if mo = 0 then _ else _) = _
      rw [if_neg hm]; exact p.1
    have e2 : vc_X6_spread_L2 fu n (nI o) (nI f) (ma_F D) (ma_C D) (mm_M (sg_P D fl S) g) x1 (sg_Q D fl S 0) → vc_X6_spread_L2 fu (n + 1) (nI o) (nI f) (ma_F D) (ma_C D) (mm_M S g) x1 mo := fun V => ⟨fun y => absurd y hm, fun _ => p.2 V⟩
    by_cases q : sg_Q D fl S 0 = 0
    · obtain ⟨y1, y2⟩ := sg_Q0 q
      obtain ⟨n', hn'⟩ : ∃ n', n = n' + 1 := ⟨n - 1, by omega⟩
      refine ⟨S, hS, ?_, e2 ?_, sub4.rf S, y2, fun C' _ z => z⟩
      · rw [e1, q, y1, hn']; rfl
      · rw [q, y1, hn']; exact ⟨fun _ => trivial, fun y => absurd rfl y⟩
    · have hlt := sg_Q1 q
      obtain ⟨C, c1, c2, c3, c4, c5, c6⟩ := sp_loop hw h hx n (sg_P D fl S) (sg_Q D fl S 0) (sg_Plt (h.B hw) hS) (by omega) q
      exact ⟨C, c1, by rw [e1, c2], e2 c3, sub4.tr sg_Psup c4, c5, fun C' z1 z2 => c6 C' z1 (sg_Pin z1 z2)⟩
end LS
/-! the class's closure is that set too -/
theorem nf_ifb (h o m i : Nat) : (nf_if h o m).testBit i = (h.testBit o && m.testBit i) := by
  unfold nf_if; cases h.testBit o <;> simp
theorem nf_setb {D : ab_D} (h t : Nat) : (nf_set D h).testBit t = true ↔ ∃ j, j < 8 ∧ h.testBit (j / 2) = true ∧ D 0 j = t + 1 := by
  unfold nf_set nf_o
  rw [← Nat.testBit_succ]
  simp only [Nat.testBit_or, nf_ifb, Nat.testBit_two_pow, Bool.or_eq_true, Bool.and_eq_true, decide_eq_true_eq]
  constructor
  · intro q
    rcases q with ((⟨q1, q2 | q2⟩ | ⟨q1, q2 | q2⟩) | ⟨q1, q2 | q2⟩) | ⟨q1, q2 | q2⟩
    · exact ⟨0, by omega, q1, q2⟩
    · exact ⟨1, by omega, q1, q2⟩
    · exact ⟨2, by omega, q1, q2⟩
    · exact ⟨3, by omega, q1, q2⟩
    · exact ⟨4, by omega, q1, q2⟩
    · exact ⟨5, by omega, q1, q2⟩
    · exact ⟨6, by omega, q1, q2⟩
    · exact ⟨7, by omega, q1, q2⟩
  · rintro ⟨j, hj, q1, q2⟩
    rcases (show j = 0 ∨ j = 1 ∨ j = 2 ∨ j = 3 ∨ j = 4 ∨ j = 5 ∨ j = 6 ∨ j = 7 by omega) with rfl | rfl | rfl | rfl | rfl | rfl | rfl | rfl
    · exact Or.inl (Or.inl (Or.inl ⟨q1, Or.inl q2⟩))
    · exact Or.inl (Or.inl (Or.inl ⟨q1, Or.inr q2⟩))
    · exact Or.inl (Or.inl (Or.inr ⟨q1, Or.inl q2⟩))
    · exact Or.inl (Or.inl (Or.inr ⟨q1, Or.inr q2⟩))
    · exact Or.inl (Or.inr ⟨q1, Or.inl q2⟩)
    · exact Or.inl (Or.inr ⟨q1, Or.inr q2⟩)
    · exact Or.inr ⟨q1, Or.inl q2⟩
    · exact Or.inr ⟨q1, Or.inr q2⟩
theorem nf_rtb {D : ab_D} (t : Nat) : (nf_rt D).testBit t = true ↔ ∃ k, k < 3 ∧ D 1 k = t + 1 := by
  unfold nf_rt
  rw [← Nat.testBit_succ]
  simp only [Nat.testBit_or, Nat.testBit_two_pow, Bool.or_eq_true, decide_eq_true_eq]
  constructor
  · intro q
    rcases q with (q | q) | q
    · exact ⟨0, by omega, q⟩
    · exact ⟨1, by omega, q⟩
    · exact ⟨2, by omega, q⟩
  · rintro ⟨k, hk, q⟩
    rcases (show k = 0 ∨ k = 1 ∨ k = 2 by omega) with rfl | rfl | rfl
    · exact Or.inl (Or.inl q)
    · exact Or.inl (Or.inr q)
    · exact Or.inr q
theorem nf_d4 : ∀ a, a < 2 → ∀ b, b < 2 → ∀ c, c < 2 → ∀ d, d < 2 → ((a + 2 * (b + 2 * (c + 2 * d))).testBit 0 = decide (a = 1)) ∧ ((a + 2 * (b + 2 * (c + 2 * d))).testBit 1 = decide (b = 1)) ∧ ((a + 2 * (b + 2 * (c + 2 * d))).testBit 2 = decide (c = 1)) ∧ ((a + 2 * (b + 2 * (c + 2 * d))).testBit 3 = decide (d = 1)) := by decide
theorem nf_gb {D : ab_D} {t : Nat} (ht : t < 4) : (nf_g D).testBit t = true ↔ D 2 t = 1 := by
  have e : nf_g D = ab_g (D 2 0) + 2 * (ab_g (D 2 1) + 2 * (ab_g (D 2 2) + 2 * ab_g (D 2 3))) := by simp [nf_g, hr_v]
  obtain ⟨e0, e1, e2, e3⟩ := nf_d4 _ (ab_g_lt (D 2 0)) _ (ab_g_lt (D 2 1)) _ (ab_g_lt (D 2 2)) _ (ab_g_lt (D 2 3))
  have k : ∀ c, ab_g c = 1 ↔ c = 1 := fun c => by unfold ab_g; split <;> simp_all
  rw [e]
  rcases (show t = 0 ∨ t = 1 ∨ t = 2 ∨ t = 3 by omega) with rfl | rfl | rfl | rfl
  · rw [e0, decide_eq_true_eq, k]
  · rw [e1, decide_eq_true_eq, k]
  · rw [e2, decide_eq_true_eq, k]
  · rw [e3, decide_eq_true_eq, k]
theorem nf_bb {D : ab_D} {t : Nat} (ht : t < 4) : (nf_b D).testBit t = true ↔ D 2 t = 2 := by
  have e : nf_b D = ab_b (D 2 0) + 2 * (ab_b (D 2 1) + 2 * (ab_b (D 2 2) + 2 * ab_b (D 2 3))) := by simp [nf_b, hr_v]
  obtain ⟨e0, e1, e2, e3⟩ := nf_d4 _ (ab_b_lt (D 2 0)) _ (ab_b_lt (D 2 1)) _ (ab_b_lt (D 2 2)) _ (ab_b_lt (D 2 3))
  have k : ∀ c, ab_b c = 1 ↔ c = 2 := fun c => by unfold ab_b; split <;> simp_all
  rw [e]
  rcases (show t = 0 ∨ t = 1 ∨ t = 2 ∨ t = 3 by omega) with rfl | rfl | rfl | rfl
  · rw [e0, decide_eq_true_eq, k]
  · rw [e1, decide_eq_true_eq, k]
  · rw [e2, decide_eq_true_eq, k]
  · rw [e3, decide_eq_true_eq, k]
theorem nf_15 : ∀ m, m < 16 → ∀ t, t < 4 → (15 - m).testBit t = !m.testBit t := by decide
theorem nf_wb {D : ab_D} (h : ab_B D) {t : Nat} (ht : t < 4) : (nf_w D).testBit t = true ↔ D 2 t = 0 := by
  unfold nf_w
  rw [nf_15 _ (nb_o16 nf_g_lt nf_b_lt) t ht, Nat.testBit_or]
  have hc := (h.2.2.1 t ht).1
  have g := nf_gb (D := D) ht
  have b := nf_bb (D := D) ht
  rcases (show D 2 t = 0 ∨ D 2 t = 1 ∨ D 2 t = 2 by omega) with q | q | q
  · have g0 : (nf_g D).testBit t = false := by rw [Bool.eq_false_iff]; intro z; have := g.mp z; omega
    have b0 : (nf_b D).testBit t = false := by rw [Bool.eq_false_iff]; intro z; have := b.mp z; omega
    rw [g0, b0, q]; simp
  · rw [g.mpr q, q]; simp
  · rw [b.mpr q, q]; simp

/-! the reference's marks -/
def mm_M (S : Nat) (g : Nat → Int32) : Nat → Int32 := fun k => if k < 4 then (if S.testBit k = true then 1 else 0) else g k
theorem mm_up {S t : Nat} (g : Nat → Int32) (ht : t < 4) : upd (mm_M S g) t (vp_nar .boolean (1 : Int32)) = mm_M (S ||| 2 ^ t) g := by
  funext k
  unfold upd mm_M
  rw [show vp_nar .boolean (1 : Int32) = 1 by decide +kernel]
  by_cases h : k = t
  · subst h; rw [if_pos rfl, if_pos ht, if_pos (by simp [Nat.testBit_or, Nat.testBit_two_pow])]
  · rw [if_neg h]
    have e : (S ||| 2 ^ t).testBit k = S.testBit k := by rw [Nat.testBit_or, Nat.testBit_two_pow]; simp; intro q; exact absurd q.symm h
    rw [e]
theorem mm_0 {S k : Nat} {g : Nat → Int32} (hk : k < 4) : mm_M S g k = 0 ↔ S.testBit k = false := by
  unfold mm_M
  rw [if_pos hk]
  cases S.testBit k
  · exact ⟨fun _ => rfl, fun _ => rfl⟩
  · exact ⟨fun q => absurd q (by decide +kernel), fun q => by cases q⟩
def sg_c (D : ab_D) (fl : Bool) (j o S : Nat) : Bool := S.testBit o && (decide (D 0 j ≠ 0) && (!S.testBit (D 0 j - 1) && (!fl || decide (D 2 (D 0 j - 1) = 0))))
def sg_s (D : ab_D) (fl : Bool) (j o S : Nat) : Nat := if sg_c D fl j o S = true then S ||| 2 ^ (D 0 j - 1) else S
def sg_m (D : ab_D) (fl : Bool) (j o S : Nat) (mo : Int32) : Int32 := if sg_c D fl j o S = true then 1 else mo
theorem sg_f {D : ab_D} {fl : Bool} {j o S : Nat} (h : sg_c D fl j o S = false) (mo : Int32) : sg_s D fl j o S = S ∧ sg_m D fl j o S mo = mo := by
  unfold sg_s sg_m; rw [h]; exact ⟨rfl, rfl⟩
theorem sg_n {D : ab_D} {fl : Bool} {j o S : Nat} (h : D 0 j = 0 ∨ S.testBit o = false) : sg_c D fl j o S = false := by
  unfold sg_c; rcases h with h | h <;> simp [h]
theorem sg_k {D : ab_D} {fl : Bool} {j o S i : Nat} (h : S.testBit i = true) : (sg_s D fl j o S).testBit i = true := by
  unfold sg_s; split
  · rw [Nat.testBit_or, h, Bool.true_or]
  · exact h
section SG
variable {o f r fu : Nat} {D : ab_D} {fl : Bool} {x1 : Int32} {g : Nat → Int32} {k_2 : Int32 → Int32 → (Nat → Int32) → (Nat → Int32) → (Nat → Int32) → Int32 → Int32 → (Nat → Int32)} {v_2 : Int32 → Int32 → (Nat → Int32) → (Nat → Int32) → (Nat → Int32) → Int32 → Int32 → Prop}
theorem sB_0_0 (hw : ab_W o f r) (h : ab_V o f r D) (hx : x1 = 0 ↔ fl = false) (hf : ¬ f ≤ 0) {S : Nat} (hS : S.testBit 0 = true) (mo : Int32) : cf_X6_spread_i2_s21_0_0 fu k_2 (nI o) (nI f) (ma_F D) (ma_C D) (mm_M S g) x1 mo = cf_X6_spread_i2_s21_0_1 fu k_2 (nI o) (nI f) (ma_F D) (ma_C D) (mm_M (sg_s D fl 0 0 S) g) x1 (sg_m D fl 0 0 S mo) ∧ (vc_X6_spread_i2_s21_0_1 fu v_2 (nI o) (nI f) (ma_F D) (ma_C D) (mm_M (sg_s D fl 0 0 S) g) x1 (sg_m D fl 0 0 S mo) → vc_X6_spread_i2_s21_0_0 fu v_2 (nI o) (nI f) (ma_F D) (ma_C D) (mm_M S g) x1 mo) := by
  obtain ⟨w1, w2, w3, w4, w5, w6⟩ := id hw
  have hF := h.F (k := 0) (by omega)
  obtain ⟨e0, e1⟩ := ms_t (D 0 0) (by omega)
  have lf : ¬ nI f ≤ (0 : Int32) := fun y => hf ((nl_le (c := 0) (by omega) (by omega)).mp y)
  have ef : ma_F D ((0 : Int32)).toNatClampNeg = nI (D 0 0) - 1 := rfl
  have em : ¬ mm_M S g ((0 : Int32)).toNatClampNeg = 0 := fun y => by
    have := (mm_0 (k := 0) (by omega)).mp y
    rw [hS] at this; cases this
  unfold cf_X6_spread_i2_s21_0_0 vc_X6_spread_i2_s21_0_0 cf_X6_spread_i2_s84_0_0 vc_X6_spread_i2_s84_0_0 cf_X6_spread_i2_s94_0_0 vc_X6_spread_i2_s94_0_0
  rw [ef, if_neg lf, if_neg em]
  by_cases q : D 0 0 = 0
  · obtain ⟨s1, s2⟩ := sg_f (sg_n (D := D) (fl := fl) (j := 0) (o := 0) (S := S) (Or.inl q)) mo
    rw [s1, s2, if_pos (e0.mpr q)]
    exact ⟨rfl, fun V => ⟨fun y => absurd y lf, fun _ => ⟨fun y => absurd y em, fun _ => ⟨fun _ => V, fun y => absurd (e0.mpr q) y⟩⟩⟩⟩
  · obtain ⟨e2, e3⟩ := e1 q
    have hv : vp_in (nI (D 0 0) - 1) 4 := by rw [e3]; exact vp_in_nI (by omega) (by omega)
    have m0 := mm_0 (S := S) (g := g) (k := D 0 0 - 1) (by omega)
    have c0 : ma_C D (D 0 0 - 1) = 0 ↔ D 2 (D 0 0 - 1) = 0 := ms_0 (by have := h.C (k := D 0 0 - 1) (by omega); omega)
    rw [e2, if_neg (fun y => q (e0.mp y))]
    by_cases q2 : S.testBit (D 0 0 - 1) = false
    · rw [if_pos (m0.mpr q2)]
      have go : sg_c D fl 0 0 S = true → (cf_X6_spread_i2_s21_0_1 fu k_2 (nI o) (nI f) (ma_F D) (ma_C D) (upd (mm_M S g) (D 0 0 - 1) (vp_nar .boolean (1 : Int32))) x1 1 = cf_X6_spread_i2_s21_0_1 fu k_2 (nI o) (nI f) (ma_F D) (ma_C D) (mm_M (sg_s D fl 0 0 S) g) x1 (sg_m D fl 0 0 S mo)) ∧ (vc_X6_spread_i2_s21_0_1 fu v_2 (nI o) (nI f) (ma_F D) (ma_C D) (mm_M (sg_s D fl 0 0 S) g) x1 (sg_m D fl 0 0 S mo) → vc_X6_spread_i2_s21_0_1 fu v_2 (nI o) (nI f) (ma_F D) (ma_C D) (upd (mm_M S g) (D 0 0 - 1) (vp_nar .boolean (1 : Int32))) x1 1) := fun hc => by
        unfold sg_s sg_m
        rw [if_pos hc, if_pos hc, mm_up g (by omega)]
        exact ⟨rfl, id⟩
      by_cases q3 : x1 = 0
      · have hc : sg_c D fl 0 0 S = true := by unfold sg_c; rw [hS, q2, hx.mp q3]; simp [q]
        rw [if_pos q3]
        exact ⟨(go hc).1, fun V => ⟨fun y => absurd y lf, fun _ => ⟨fun y => absurd y em, fun _ => ⟨fun y => absurd (e0.mp y) q, fun _ => ⟨hv, fun _ => ⟨fun _ => ⟨hv, (go hc).2 V⟩, fun y => absurd q3 y⟩, fun y => absurd (m0.mpr q2) y⟩⟩⟩⟩⟩
      · rw [if_neg q3]
        have hfl : fl = true := by
          cases hh : fl with
          | true => rfl
          | false => exact absurd (hx.mpr hh) q3
        by_cases q4 : D 2 (D 0 0 - 1) = 0
        · have hc : sg_c D fl 0 0 S = true := by unfold sg_c; rw [hS, q2]; simp [q, q4]
          rw [if_pos (c0.mpr q4)]
          exact ⟨(go hc).1, fun V => ⟨fun y => absurd y lf, fun _ => ⟨fun y => absurd y em, fun _ => ⟨fun y => absurd (e0.mp y) q, fun _ => ⟨hv, fun _ => ⟨fun y => absurd y q3, fun _ => ⟨hv, fun _ => ⟨hv, (go hc).2 V⟩, fun y => absurd (c0.mpr q4) y⟩⟩, fun y => absurd (m0.mpr q2) y⟩⟩⟩⟩⟩
        · have hc : sg_c D fl 0 0 S = false := by unfold sg_c; rw [hfl]; simp [q4]
          obtain ⟨s1, s2⟩ := sg_f hc mo
          rw [s1, s2, if_neg (fun y => q4 (c0.mp y))]
          exact ⟨rfl, fun V => ⟨fun y => absurd y lf, fun _ => ⟨fun y => absurd y em, fun _ => ⟨fun y => absurd (e0.mp y) q, fun _ => ⟨hv, fun _ => ⟨fun y => absurd y q3, fun _ => ⟨hv, fun y => absurd (c0.mp y) q4, fun _ => V⟩⟩, fun y => absurd (m0.mpr q2) y⟩⟩⟩⟩⟩
    · have hc : sg_c D fl 0 0 S = false := by
        have : S.testBit (D 0 0 - 1) = true := by simpa using q2
        unfold sg_c; rw [this]; simp
      obtain ⟨s1, s2⟩ := sg_f hc mo
      rw [s1, s2, if_neg (fun y => q2 (m0.mp y))]
      exact ⟨rfl, fun V => ⟨fun y => absurd y lf, fun _ => ⟨fun y => absurd y em, fun _ => ⟨fun y => absurd (e0.mp y) q, fun _ => ⟨hv, fun y => absurd (m0.mp y) q2, fun _ => V⟩⟩⟩⟩⟩
theorem sB_0_1 (hw : ab_W o f r) (h : ab_V o f r D) (hx : x1 = 0 ↔ fl = false) (hf : ¬ f ≤ 1) {S : Nat} (hS : S.testBit 0 = true) (mo : Int32) : cf_X6_spread_i2_s21_0_1 fu k_2 (nI o) (nI f) (ma_F D) (ma_C D) (mm_M S g) x1 mo = cf_X6_spread_i2_s21_0_2 fu k_2 (nI o) (nI f) (ma_F D) (ma_C D) (mm_M (sg_s D fl 1 0 S) g) x1 (sg_m D fl 1 0 S mo) ∧ (vc_X6_spread_i2_s21_0_2 fu v_2 (nI o) (nI f) (ma_F D) (ma_C D) (mm_M (sg_s D fl 1 0 S) g) x1 (sg_m D fl 1 0 S mo) → vc_X6_spread_i2_s21_0_1 fu v_2 (nI o) (nI f) (ma_F D) (ma_C D) (mm_M S g) x1 mo) := by
  obtain ⟨w1, w2, w3, w4, w5, w6⟩ := id hw
  have hF := h.F (k := 1) (by omega)
  obtain ⟨e0, e1⟩ := ms_t (D 0 1) (by omega)
  have lf : ¬ nI f ≤ (1 : Int32) := fun y => hf ((nl_le (c := 1) (by omega) (by omega)).mp y)
  have ef : ma_F D ((1 : Int32)).toNatClampNeg = nI (D 0 1) - 1 := rfl
  have em : ¬ mm_M S g ((0 : Int32)).toNatClampNeg = 0 := fun y => by
    have := (mm_0 (k := 0) (by omega)).mp y
    rw [hS] at this; cases this
  unfold cf_X6_spread_i2_s21_0_1 vc_X6_spread_i2_s21_0_1 cf_X6_spread_i2_s84_0_1 vc_X6_spread_i2_s84_0_1 cf_X6_spread_i2_s94_0_1 vc_X6_spread_i2_s94_0_1
  rw [ef, if_neg lf, if_neg em]
  by_cases q : D 0 1 = 0
  · obtain ⟨s1, s2⟩ := sg_f (sg_n (D := D) (fl := fl) (j := 1) (o := 0) (S := S) (Or.inl q)) mo
    rw [s1, s2, if_pos (e0.mpr q)]
    exact ⟨rfl, fun V => ⟨fun y => absurd y lf, fun _ => ⟨fun y => absurd y em, fun _ => ⟨fun _ => V, fun y => absurd (e0.mpr q) y⟩⟩⟩⟩
  · obtain ⟨e2, e3⟩ := e1 q
    have hv : vp_in (nI (D 0 1) - 1) 4 := by rw [e3]; exact vp_in_nI (by omega) (by omega)
    have m0 := mm_0 (S := S) (g := g) (k := D 0 1 - 1) (by omega)
    have c0 : ma_C D (D 0 1 - 1) = 0 ↔ D 2 (D 0 1 - 1) = 0 := ms_0 (by have := h.C (k := D 0 1 - 1) (by omega); omega)
    rw [e2, if_neg (fun y => q (e0.mp y))]
    by_cases q2 : S.testBit (D 0 1 - 1) = false
    · rw [if_pos (m0.mpr q2)]
      have go : sg_c D fl 1 0 S = true → (cf_X6_spread_i2_s21_0_2 fu k_2 (nI o) (nI f) (ma_F D) (ma_C D) (upd (mm_M S g) (D 0 1 - 1) (vp_nar .boolean (1 : Int32))) x1 1 = cf_X6_spread_i2_s21_0_2 fu k_2 (nI o) (nI f) (ma_F D) (ma_C D) (mm_M (sg_s D fl 1 0 S) g) x1 (sg_m D fl 1 0 S mo)) ∧ (vc_X6_spread_i2_s21_0_2 fu v_2 (nI o) (nI f) (ma_F D) (ma_C D) (mm_M (sg_s D fl 1 0 S) g) x1 (sg_m D fl 1 0 S mo) → vc_X6_spread_i2_s21_0_2 fu v_2 (nI o) (nI f) (ma_F D) (ma_C D) (upd (mm_M S g) (D 0 1 - 1) (vp_nar .boolean (1 : Int32))) x1 1) := fun hc => by
        unfold sg_s sg_m
        rw [if_pos hc, if_pos hc, mm_up g (by omega)]
        exact ⟨rfl, id⟩
      by_cases q3 : x1 = 0
      · have hc : sg_c D fl 1 0 S = true := by unfold sg_c; rw [hS, q2, hx.mp q3]; simp [q]
        rw [if_pos q3]
        exact ⟨(go hc).1, fun V => ⟨fun y => absurd y lf, fun _ => ⟨fun y => absurd y em, fun _ => ⟨fun y => absurd (e0.mp y) q, fun _ => ⟨hv, fun _ => ⟨fun _ => ⟨hv, (go hc).2 V⟩, fun y => absurd q3 y⟩, fun y => absurd (m0.mpr q2) y⟩⟩⟩⟩⟩
      · rw [if_neg q3]
        have hfl : fl = true := by
          cases hh : fl with
          | true => rfl
          | false => exact absurd (hx.mpr hh) q3
        by_cases q4 : D 2 (D 0 1 - 1) = 0
        · have hc : sg_c D fl 1 0 S = true := by unfold sg_c; rw [hS, q2]; simp [q, q4]
          rw [if_pos (c0.mpr q4)]
          exact ⟨(go hc).1, fun V => ⟨fun y => absurd y lf, fun _ => ⟨fun y => absurd y em, fun _ => ⟨fun y => absurd (e0.mp y) q, fun _ => ⟨hv, fun _ => ⟨fun y => absurd y q3, fun _ => ⟨hv, fun _ => ⟨hv, (go hc).2 V⟩, fun y => absurd (c0.mpr q4) y⟩⟩, fun y => absurd (m0.mpr q2) y⟩⟩⟩⟩⟩
        · have hc : sg_c D fl 1 0 S = false := by unfold sg_c; rw [hfl]; simp [q4]
          obtain ⟨s1, s2⟩ := sg_f hc mo
          rw [s1, s2, if_neg (fun y => q4 (c0.mp y))]
          exact ⟨rfl, fun V => ⟨fun y => absurd y lf, fun _ => ⟨fun y => absurd y em, fun _ => ⟨fun y => absurd (e0.mp y) q, fun _ => ⟨hv, fun _ => ⟨fun y => absurd y q3, fun _ => ⟨hv, fun y => absurd (c0.mp y) q4, fun _ => V⟩⟩, fun y => absurd (m0.mpr q2) y⟩⟩⟩⟩⟩
    · have hc : sg_c D fl 1 0 S = false := by
        have : S.testBit (D 0 1 - 1) = true := by simpa using q2
        unfold sg_c; rw [this]; simp
      obtain ⟨s1, s2⟩ := sg_f hc mo
      rw [s1, s2, if_neg (fun y => q2 (m0.mp y))]
      exact ⟨rfl, fun V => ⟨fun y => absurd y lf, fun _ => ⟨fun y => absurd y em, fun _ => ⟨fun y => absurd (e0.mp y) q, fun _ => ⟨hv, fun y => absurd (m0.mp y) q2, fun _ => V⟩⟩⟩⟩⟩
theorem sA_0 (hw : ab_W o f r) (h : ab_V o f r D) (hx : x1 = 0 ↔ fl = false) (ho : ¬ o ≤ 0) (S : Nat) (mo : Int32) : cf_X6_spread_i2_s10_0 fu k_2 (nI o) (nI f) (ma_F D) (ma_C D) (mm_M S g) x1 mo = cf_X6_spread_i2_s10_1 fu k_2 (nI o) (nI f) (ma_F D) (ma_C D) (mm_M (sg_s D fl 1 0 (sg_s D fl 0 0 S)) g) x1 (sg_m D fl 1 0 (sg_s D fl 0 0 S) (sg_m D fl 0 0 S mo)) ∧ (vc_X6_spread_i2_s10_1 fu v_2 (nI o) (nI f) (ma_F D) (ma_C D) (mm_M (sg_s D fl 1 0 (sg_s D fl 0 0 S)) g) x1 (sg_m D fl 1 0 (sg_s D fl 0 0 S) (sg_m D fl 0 0 S mo)) → vc_X6_spread_i2_s10_0 fu v_2 (nI o) (nI f) (ma_F D) (ma_C D) (mm_M S g) x1 mo) := by
  obtain ⟨w1, w2, w3, w4, w5, w6⟩ := id hw
  have lo : ¬ nI o ≤ (0 : Int32) := fun y => ho ((nl_le (c := 0) (by omega) (by omega)).mp y)
  have l0 : ¬ nI f ≤ (0 : Int32) := fun y => by have := (nl_le (c := 0) (show f < 200 by omega) (by omega)).mp y; omega
  unfold cf_X6_spread_i2_s10_0 vc_X6_spread_i2_s10_0
  rw [if_neg lo]
  by_cases q : S.testBit 0 = false
  · obtain ⟨s1, s2⟩ := sg_f (sg_n (D := D) (fl := fl) (j := 0) (o := 0) (S := S) (Or.inr q)) mo
    obtain ⟨s3, s4⟩ := sg_f (sg_n (D := D) (fl := fl) (j := 1) (o := 0) (S := S) (Or.inr q)) mo
    rw [s1, s2, s3, s4]
    have em : mm_M S g ((0 : Int32)).toNatClampNeg = 0 := (mm_0 (k := 0) (by omega)).mpr q
    unfold cf_X6_spread_i2_s21_0_0 vc_X6_spread_i2_s21_0_0 cf_X6_spread_i2_s100_0 vc_X6_spread_i2_s100_0
    rw [if_neg l0, if_pos em]
    exact ⟨rfl, fun V => ⟨fun y => absurd y lo, fun _ => ⟨fun y => absurd y l0, fun _ => ⟨fun _ => V, fun y => absurd em y⟩⟩⟩⟩
  · have q' : S.testBit 0 = true := by simpa using q
    obtain ⟨b1, b2⟩ := sB_0_0 (g := g) (k_2 := k_2) (v_2 := v_2) (fu := fu) hw h hx (by omega) q' mo
    rw [b1]
    by_cases f1 : f = 1
    · have z : D 0 1 = 0 := h.F0 (by omega) (by omega)
      obtain ⟨s3, s4⟩ := sg_f (sg_n (D := D) (fl := fl) (j := 1) (o := 0) (S := sg_s D fl 0 0 S) (Or.inl z)) (sg_m D fl 0 0 S mo)
      have l1 : nI f ≤ (1 : Int32) := by rw [f1]; decide +kernel
      rw [s3, s4]
      have e5 : ∀ V : vc_X6_spread_i2_s10_1 fu v_2 (nI o) (nI f) (ma_F D) (ma_C D) (mm_M (sg_s D fl 0 0 S) g) x1 (sg_m D fl 0 0 S mo), vc_X6_spread_i2_s21_0_1 fu v_2 (nI o) (nI f) (ma_F D) (ma_C D) (mm_M (sg_s D fl 0 0 S) g) x1 (sg_m D fl 0 0 S mo) := fun V => by
        unfold vc_X6_spread_i2_s21_0_1 vc_X6_spread_i2_s100_0
        exact ⟨fun _ => V, fun y => absurd l1 y⟩
      refine ⟨?_, fun V => ⟨fun y => absurd y lo, fun _ => b2 (e5 V)⟩⟩
      unfold cf_X6_spread_i2_s21_0_1 cf_X6_spread_i2_s100_0
      rw [if_pos l1]
    · obtain ⟨b3, b4⟩ := sB_0_1 (g := g) (k_2 := k_2) (v_2 := v_2) (fu := fu) hw h hx (by omega) (sg_k (D := D) (fl := fl) (j := 0) (o := 0) q') (sg_m D fl 0 0 S mo)
      rw [b3]
      refine ⟨?_, fun V => ⟨fun y => absurd y lo, fun _ => b2 (b4 ?_)⟩⟩
      · unfold cf_X6_spread_i2_s21_0_2 cf_X6_spread_i2_s100_0; rfl
      · unfold vc_X6_spread_i2_s21_0_2 vc_X6_spread_i2_s100_0; exact V
theorem sB_1_0 (hw : ab_W o f r) (h : ab_V o f r D) (hx : x1 = 0 ↔ fl = false) (hf : ¬ f ≤ 0) {S : Nat} (hS : S.testBit 1 = true) (mo : Int32) : cf_X6_spread_i2_s21_1_0 fu k_2 (nI o) (nI f) (ma_F D) (ma_C D) (mm_M S g) x1 mo = cf_X6_spread_i2_s21_1_1 fu k_2 (nI o) (nI f) (ma_F D) (ma_C D) (mm_M (sg_s D fl 2 1 S) g) x1 (sg_m D fl 2 1 S mo) ∧ (vc_X6_spread_i2_s21_1_1 fu v_2 (nI o) (nI f) (ma_F D) (ma_C D) (mm_M (sg_s D fl 2 1 S) g) x1 (sg_m D fl 2 1 S mo) → vc_X6_spread_i2_s21_1_0 fu v_2 (nI o) (nI f) (ma_F D) (ma_C D) (mm_M S g) x1 mo) := by
  obtain ⟨w1, w2, w3, w4, w5, w6⟩ := id hw
  have hF := h.F (k := 2) (by omega)
  obtain ⟨e0, e1⟩ := ms_t (D 0 2) (by omega)
  have lf : ¬ nI f ≤ (0 : Int32) := fun y => hf ((nl_le (c := 0) (by omega) (by omega)).mp y)
  have ef : ma_F D ((2 : Int32)).toNatClampNeg = nI (D 0 2) - 1 := rfl
  have em : ¬ mm_M S g ((1 : Int32)).toNatClampNeg = 0 := fun y => by
    have := (mm_0 (k := 1) (by omega)).mp y
    rw [hS] at this; cases this
  unfold cf_X6_spread_i2_s21_1_0 vc_X6_spread_i2_s21_1_0 cf_X6_spread_i2_s84_1_0 vc_X6_spread_i2_s84_1_0 cf_X6_spread_i2_s94_1_0 vc_X6_spread_i2_s94_1_0
  rw [ef, if_neg lf, if_neg em]
  by_cases q : D 0 2 = 0
  · obtain ⟨s1, s2⟩ := sg_f (sg_n (D := D) (fl := fl) (j := 2) (o := 1) (S := S) (Or.inl q)) mo
    rw [s1, s2, if_pos (e0.mpr q)]
    exact ⟨rfl, fun V => ⟨fun y => absurd y lf, fun _ => ⟨fun y => absurd y em, fun _ => ⟨fun _ => V, fun y => absurd (e0.mpr q) y⟩⟩⟩⟩
  · obtain ⟨e2, e3⟩ := e1 q
    have hv : vp_in (nI (D 0 2) - 1) 4 := by rw [e3]; exact vp_in_nI (by omega) (by omega)
    have m0 := mm_0 (S := S) (g := g) (k := D 0 2 - 1) (by omega)
    have c0 : ma_C D (D 0 2 - 1) = 0 ↔ D 2 (D 0 2 - 1) = 0 := ms_0 (by have := h.C (k := D 0 2 - 1) (by omega); omega)
    rw [e2, if_neg (fun y => q (e0.mp y))]
    by_cases q2 : S.testBit (D 0 2 - 1) = false
    · rw [if_pos (m0.mpr q2)]
      have go : sg_c D fl 2 1 S = true → (cf_X6_spread_i2_s21_1_1 fu k_2 (nI o) (nI f) (ma_F D) (ma_C D) (upd (mm_M S g) (D 0 2 - 1) (vp_nar .boolean (1 : Int32))) x1 1 = cf_X6_spread_i2_s21_1_1 fu k_2 (nI o) (nI f) (ma_F D) (ma_C D) (mm_M (sg_s D fl 2 1 S) g) x1 (sg_m D fl 2 1 S mo)) ∧ (vc_X6_spread_i2_s21_1_1 fu v_2 (nI o) (nI f) (ma_F D) (ma_C D) (mm_M (sg_s D fl 2 1 S) g) x1 (sg_m D fl 2 1 S mo) → vc_X6_spread_i2_s21_1_1 fu v_2 (nI o) (nI f) (ma_F D) (ma_C D) (upd (mm_M S g) (D 0 2 - 1) (vp_nar .boolean (1 : Int32))) x1 1) := fun hc => by
        unfold sg_s sg_m
        rw [if_pos hc, if_pos hc, mm_up g (by omega)]
        exact ⟨rfl, id⟩
      by_cases q3 : x1 = 0
      · have hc : sg_c D fl 2 1 S = true := by unfold sg_c; rw [hS, q2, hx.mp q3]; simp [q]
        rw [if_pos q3]
        exact ⟨(go hc).1, fun V => ⟨fun y => absurd y lf, fun _ => ⟨fun y => absurd y em, fun _ => ⟨fun y => absurd (e0.mp y) q, fun _ => ⟨hv, fun _ => ⟨fun _ => ⟨hv, (go hc).2 V⟩, fun y => absurd q3 y⟩, fun y => absurd (m0.mpr q2) y⟩⟩⟩⟩⟩
      · rw [if_neg q3]
        have hfl : fl = true := by
          cases hh : fl with
          | true => rfl
          | false => exact absurd (hx.mpr hh) q3
        by_cases q4 : D 2 (D 0 2 - 1) = 0
        · have hc : sg_c D fl 2 1 S = true := by unfold sg_c; rw [hS, q2]; simp [q, q4]
          rw [if_pos (c0.mpr q4)]
          exact ⟨(go hc).1, fun V => ⟨fun y => absurd y lf, fun _ => ⟨fun y => absurd y em, fun _ => ⟨fun y => absurd (e0.mp y) q, fun _ => ⟨hv, fun _ => ⟨fun y => absurd y q3, fun _ => ⟨hv, fun _ => ⟨hv, (go hc).2 V⟩, fun y => absurd (c0.mpr q4) y⟩⟩, fun y => absurd (m0.mpr q2) y⟩⟩⟩⟩⟩
        · have hc : sg_c D fl 2 1 S = false := by unfold sg_c; rw [hfl]; simp [q4]
          obtain ⟨s1, s2⟩ := sg_f hc mo
          rw [s1, s2, if_neg (fun y => q4 (c0.mp y))]
          exact ⟨rfl, fun V => ⟨fun y => absurd y lf, fun _ => ⟨fun y => absurd y em, fun _ => ⟨fun y => absurd (e0.mp y) q, fun _ => ⟨hv, fun _ => ⟨fun y => absurd y q3, fun _ => ⟨hv, fun y => absurd (c0.mp y) q4, fun _ => V⟩⟩, fun y => absurd (m0.mpr q2) y⟩⟩⟩⟩⟩
    · have hc : sg_c D fl 2 1 S = false := by
        have : S.testBit (D 0 2 - 1) = true := by simpa using q2
        unfold sg_c; rw [this]; simp
      obtain ⟨s1, s2⟩ := sg_f hc mo
      rw [s1, s2, if_neg (fun y => q2 (m0.mp y))]
      exact ⟨rfl, fun V => ⟨fun y => absurd y lf, fun _ => ⟨fun y => absurd y em, fun _ => ⟨fun y => absurd (e0.mp y) q, fun _ => ⟨hv, fun y => absurd (m0.mp y) q2, fun _ => V⟩⟩⟩⟩⟩
theorem sB_1_1 (hw : ab_W o f r) (h : ab_V o f r D) (hx : x1 = 0 ↔ fl = false) (hf : ¬ f ≤ 1) {S : Nat} (hS : S.testBit 1 = true) (mo : Int32) : cf_X6_spread_i2_s21_1_1 fu k_2 (nI o) (nI f) (ma_F D) (ma_C D) (mm_M S g) x1 mo = cf_X6_spread_i2_s21_1_2 fu k_2 (nI o) (nI f) (ma_F D) (ma_C D) (mm_M (sg_s D fl 3 1 S) g) x1 (sg_m D fl 3 1 S mo) ∧ (vc_X6_spread_i2_s21_1_2 fu v_2 (nI o) (nI f) (ma_F D) (ma_C D) (mm_M (sg_s D fl 3 1 S) g) x1 (sg_m D fl 3 1 S mo) → vc_X6_spread_i2_s21_1_1 fu v_2 (nI o) (nI f) (ma_F D) (ma_C D) (mm_M S g) x1 mo) := by
  obtain ⟨w1, w2, w3, w4, w5, w6⟩ := id hw
  have hF := h.F (k := 3) (by omega)
  obtain ⟨e0, e1⟩ := ms_t (D 0 3) (by omega)
  have lf : ¬ nI f ≤ (1 : Int32) := fun y => hf ((nl_le (c := 1) (by omega) (by omega)).mp y)
  have ef : ma_F D ((3 : Int32)).toNatClampNeg = nI (D 0 3) - 1 := rfl
  have em : ¬ mm_M S g ((1 : Int32)).toNatClampNeg = 0 := fun y => by
    have := (mm_0 (k := 1) (by omega)).mp y
    rw [hS] at this; cases this
  unfold cf_X6_spread_i2_s21_1_1 vc_X6_spread_i2_s21_1_1 cf_X6_spread_i2_s84_1_1 vc_X6_spread_i2_s84_1_1 cf_X6_spread_i2_s94_1_1 vc_X6_spread_i2_s94_1_1
  rw [ef, if_neg lf, if_neg em]
  by_cases q : D 0 3 = 0
  · obtain ⟨s1, s2⟩ := sg_f (sg_n (D := D) (fl := fl) (j := 3) (o := 1) (S := S) (Or.inl q)) mo
    rw [s1, s2, if_pos (e0.mpr q)]
    exact ⟨rfl, fun V => ⟨fun y => absurd y lf, fun _ => ⟨fun y => absurd y em, fun _ => ⟨fun _ => V, fun y => absurd (e0.mpr q) y⟩⟩⟩⟩
  · obtain ⟨e2, e3⟩ := e1 q
    have hv : vp_in (nI (D 0 3) - 1) 4 := by rw [e3]; exact vp_in_nI (by omega) (by omega)
    have m0 := mm_0 (S := S) (g := g) (k := D 0 3 - 1) (by omega)
    have c0 : ma_C D (D 0 3 - 1) = 0 ↔ D 2 (D 0 3 - 1) = 0 := ms_0 (by have := h.C (k := D 0 3 - 1) (by omega); omega)
    rw [e2, if_neg (fun y => q (e0.mp y))]
    by_cases q2 : S.testBit (D 0 3 - 1) = false
    · rw [if_pos (m0.mpr q2)]
      have go : sg_c D fl 3 1 S = true → (cf_X6_spread_i2_s21_1_2 fu k_2 (nI o) (nI f) (ma_F D) (ma_C D) (upd (mm_M S g) (D 0 3 - 1) (vp_nar .boolean (1 : Int32))) x1 1 = cf_X6_spread_i2_s21_1_2 fu k_2 (nI o) (nI f) (ma_F D) (ma_C D) (mm_M (sg_s D fl 3 1 S) g) x1 (sg_m D fl 3 1 S mo)) ∧ (vc_X6_spread_i2_s21_1_2 fu v_2 (nI o) (nI f) (ma_F D) (ma_C D) (mm_M (sg_s D fl 3 1 S) g) x1 (sg_m D fl 3 1 S mo) → vc_X6_spread_i2_s21_1_2 fu v_2 (nI o) (nI f) (ma_F D) (ma_C D) (upd (mm_M S g) (D 0 3 - 1) (vp_nar .boolean (1 : Int32))) x1 1) := fun hc => by
        unfold sg_s sg_m
        rw [if_pos hc, if_pos hc, mm_up g (by omega)]
        exact ⟨rfl, id⟩
      by_cases q3 : x1 = 0
      · have hc : sg_c D fl 3 1 S = true := by unfold sg_c; rw [hS, q2, hx.mp q3]; simp [q]
        rw [if_pos q3]
        exact ⟨(go hc).1, fun V => ⟨fun y => absurd y lf, fun _ => ⟨fun y => absurd y em, fun _ => ⟨fun y => absurd (e0.mp y) q, fun _ => ⟨hv, fun _ => ⟨fun _ => ⟨hv, (go hc).2 V⟩, fun y => absurd q3 y⟩, fun y => absurd (m0.mpr q2) y⟩⟩⟩⟩⟩
      · rw [if_neg q3]
        have hfl : fl = true := by
          cases hh : fl with
          | true => rfl
          | false => exact absurd (hx.mpr hh) q3
        by_cases q4 : D 2 (D 0 3 - 1) = 0
        · have hc : sg_c D fl 3 1 S = true := by unfold sg_c; rw [hS, q2]; simp [q, q4]
          rw [if_pos (c0.mpr q4)]
          exact ⟨(go hc).1, fun V => ⟨fun y => absurd y lf, fun _ => ⟨fun y => absurd y em, fun _ => ⟨fun y => absurd (e0.mp y) q, fun _ => ⟨hv, fun _ => ⟨fun y => absurd y q3, fun _ => ⟨hv, fun _ => ⟨hv, (go hc).2 V⟩, fun y => absurd (c0.mpr q4) y⟩⟩, fun y => absurd (m0.mpr q2) y⟩⟩⟩⟩⟩
        · have hc : sg_c D fl 3 1 S = false := by unfold sg_c; rw [hfl]; simp [q4]
          obtain ⟨s1, s2⟩ := sg_f hc mo
          rw [s1, s2, if_neg (fun y => q4 (c0.mp y))]
          exact ⟨rfl, fun V => ⟨fun y => absurd y lf, fun _ => ⟨fun y => absurd y em, fun _ => ⟨fun y => absurd (e0.mp y) q, fun _ => ⟨hv, fun _ => ⟨fun y => absurd y q3, fun _ => ⟨hv, fun y => absurd (c0.mp y) q4, fun _ => V⟩⟩, fun y => absurd (m0.mpr q2) y⟩⟩⟩⟩⟩
    · have hc : sg_c D fl 3 1 S = false := by
        have : S.testBit (D 0 3 - 1) = true := by simpa using q2
        unfold sg_c; rw [this]; simp
      obtain ⟨s1, s2⟩ := sg_f hc mo
      rw [s1, s2, if_neg (fun y => q2 (m0.mp y))]
      exact ⟨rfl, fun V => ⟨fun y => absurd y lf, fun _ => ⟨fun y => absurd y em, fun _ => ⟨fun y => absurd (e0.mp y) q, fun _ => ⟨hv, fun y => absurd (m0.mp y) q2, fun _ => V⟩⟩⟩⟩⟩
theorem sA_1 (hw : ab_W o f r) (h : ab_V o f r D) (hx : x1 = 0 ↔ fl = false) (ho : ¬ o ≤ 1) (S : Nat) (mo : Int32) : cf_X6_spread_i2_s10_1 fu k_2 (nI o) (nI f) (ma_F D) (ma_C D) (mm_M S g) x1 mo = cf_X6_spread_i2_s10_2 fu k_2 (nI o) (nI f) (ma_F D) (ma_C D) (mm_M (sg_s D fl 3 1 (sg_s D fl 2 1 S)) g) x1 (sg_m D fl 3 1 (sg_s D fl 2 1 S) (sg_m D fl 2 1 S mo)) ∧ (vc_X6_spread_i2_s10_2 fu v_2 (nI o) (nI f) (ma_F D) (ma_C D) (mm_M (sg_s D fl 3 1 (sg_s D fl 2 1 S)) g) x1 (sg_m D fl 3 1 (sg_s D fl 2 1 S) (sg_m D fl 2 1 S mo)) → vc_X6_spread_i2_s10_1 fu v_2 (nI o) (nI f) (ma_F D) (ma_C D) (mm_M S g) x1 mo) := by
  obtain ⟨w1, w2, w3, w4, w5, w6⟩ := id hw
  have lo : ¬ nI o ≤ (1 : Int32) := fun y => ho ((nl_le (c := 1) (by omega) (by omega)).mp y)
  have l0 : ¬ nI f ≤ (0 : Int32) := fun y => by have := (nl_le (c := 0) (show f < 200 by omega) (by omega)).mp y; omega
  unfold cf_X6_spread_i2_s10_1 vc_X6_spread_i2_s10_1
  rw [if_neg lo]
  by_cases q : S.testBit 1 = false
  · obtain ⟨s1, s2⟩ := sg_f (sg_n (D := D) (fl := fl) (j := 2) (o := 1) (S := S) (Or.inr q)) mo
    obtain ⟨s3, s4⟩ := sg_f (sg_n (D := D) (fl := fl) (j := 3) (o := 1) (S := S) (Or.inr q)) mo
    rw [s1, s2, s3, s4]
    have em : mm_M S g ((1 : Int32)).toNatClampNeg = 0 := (mm_0 (k := 1) (by omega)).mpr q
    unfold cf_X6_spread_i2_s21_1_0 vc_X6_spread_i2_s21_1_0 cf_X6_spread_i2_s100_1 vc_X6_spread_i2_s100_1
    rw [if_neg l0, if_pos em]
    exact ⟨rfl, fun V => ⟨fun y => absurd y lo, fun _ => ⟨fun y => absurd y l0, fun _ => ⟨fun _ => V, fun y => absurd em y⟩⟩⟩⟩
  · have q' : S.testBit 1 = true := by simpa using q
    obtain ⟨b1, b2⟩ := sB_1_0 (g := g) (k_2 := k_2) (v_2 := v_2) (fu := fu) hw h hx (by omega) q' mo
    rw [b1]
    by_cases f1 : f = 1
    · have z : D 0 3 = 0 := h.F0 (by omega) (by omega)
      obtain ⟨s3, s4⟩ := sg_f (sg_n (D := D) (fl := fl) (j := 3) (o := 1) (S := sg_s D fl 2 1 S) (Or.inl z)) (sg_m D fl 2 1 S mo)
      have l1 : nI f ≤ (1 : Int32) := by rw [f1]; decide +kernel
      rw [s3, s4]
      have e5 : ∀ V : vc_X6_spread_i2_s10_2 fu v_2 (nI o) (nI f) (ma_F D) (ma_C D) (mm_M (sg_s D fl 2 1 S) g) x1 (sg_m D fl 2 1 S mo), vc_X6_spread_i2_s21_1_1 fu v_2 (nI o) (nI f) (ma_F D) (ma_C D) (mm_M (sg_s D fl 2 1 S) g) x1 (sg_m D fl 2 1 S mo) := fun V => by
        unfold vc_X6_spread_i2_s21_1_1 vc_X6_spread_i2_s100_1
        exact ⟨fun _ => V, fun y => absurd l1 y⟩
      refine ⟨?_, fun V => ⟨fun y => absurd y lo, fun _ => b2 (e5 V)⟩⟩
      unfold cf_X6_spread_i2_s21_1_1 cf_X6_spread_i2_s100_1
      rw [if_pos l1]
    · obtain ⟨b3, b4⟩ := sB_1_1 (g := g) (k_2 := k_2) (v_2 := v_2) (fu := fu) hw h hx (by omega) (sg_k (D := D) (fl := fl) (j := 2) (o := 1) q') (sg_m D fl 2 1 S mo)
      rw [b3]
      refine ⟨?_, fun V => ⟨fun y => absurd y lo, fun _ => b2 (b4 ?_)⟩⟩
      · unfold cf_X6_spread_i2_s21_1_2 cf_X6_spread_i2_s100_1; rfl
      · unfold vc_X6_spread_i2_s21_1_2 vc_X6_spread_i2_s100_1; exact V
theorem sB_2_0 (hw : ab_W o f r) (h : ab_V o f r D) (hx : x1 = 0 ↔ fl = false) (hf : ¬ f ≤ 0) {S : Nat} (hS : S.testBit 2 = true) (mo : Int32) : cf_X6_spread_i2_s21_2_0 fu k_2 (nI o) (nI f) (ma_F D) (ma_C D) (mm_M S g) x1 mo = cf_X6_spread_i2_s21_2_1 fu k_2 (nI o) (nI f) (ma_F D) (ma_C D) (mm_M (sg_s D fl 4 2 S) g) x1 (sg_m D fl 4 2 S mo) ∧ (vc_X6_spread_i2_s21_2_1 fu v_2 (nI o) (nI f) (ma_F D) (ma_C D) (mm_M (sg_s D fl 4 2 S) g) x1 (sg_m D fl 4 2 S mo) → vc_X6_spread_i2_s21_2_0 fu v_2 (nI o) (nI f) (ma_F D) (ma_C D) (mm_M S g) x1 mo) := by
  obtain ⟨w1, w2, w3, w4, w5, w6⟩ := id hw
  have hF := h.F (k := 4) (by omega)
  obtain ⟨e0, e1⟩ := ms_t (D 0 4) (by omega)
  have lf : ¬ nI f ≤ (0 : Int32) := fun y => hf ((nl_le (c := 0) (by omega) (by omega)).mp y)
  have ef : ma_F D ((4 : Int32)).toNatClampNeg = nI (D 0 4) - 1 := rfl
  have em : ¬ mm_M S g ((2 : Int32)).toNatClampNeg = 0 := fun y => by
    have := (mm_0 (k := 2) (by omega)).mp y
    rw [hS] at this; cases this
  unfold cf_X6_spread_i2_s21_2_0 vc_X6_spread_i2_s21_2_0 cf_X6_spread_i2_s84_2_0 vc_X6_spread_i2_s84_2_0 cf_X6_spread_i2_s94_2_0 vc_X6_spread_i2_s94_2_0
  rw [ef, if_neg lf, if_neg em]
  by_cases q : D 0 4 = 0
  · obtain ⟨s1, s2⟩ := sg_f (sg_n (D := D) (fl := fl) (j := 4) (o := 2) (S := S) (Or.inl q)) mo
    rw [s1, s2, if_pos (e0.mpr q)]
    exact ⟨rfl, fun V => ⟨fun y => absurd y lf, fun _ => ⟨fun y => absurd y em, fun _ => ⟨fun _ => V, fun y => absurd (e0.mpr q) y⟩⟩⟩⟩
  · obtain ⟨e2, e3⟩ := e1 q
    have hv : vp_in (nI (D 0 4) - 1) 4 := by rw [e3]; exact vp_in_nI (by omega) (by omega)
    have m0 := mm_0 (S := S) (g := g) (k := D 0 4 - 1) (by omega)
    have c0 : ma_C D (D 0 4 - 1) = 0 ↔ D 2 (D 0 4 - 1) = 0 := ms_0 (by have := h.C (k := D 0 4 - 1) (by omega); omega)
    rw [e2, if_neg (fun y => q (e0.mp y))]
    by_cases q2 : S.testBit (D 0 4 - 1) = false
    · rw [if_pos (m0.mpr q2)]
      have go : sg_c D fl 4 2 S = true → (cf_X6_spread_i2_s21_2_1 fu k_2 (nI o) (nI f) (ma_F D) (ma_C D) (upd (mm_M S g) (D 0 4 - 1) (vp_nar .boolean (1 : Int32))) x1 1 = cf_X6_spread_i2_s21_2_1 fu k_2 (nI o) (nI f) (ma_F D) (ma_C D) (mm_M (sg_s D fl 4 2 S) g) x1 (sg_m D fl 4 2 S mo)) ∧ (vc_X6_spread_i2_s21_2_1 fu v_2 (nI o) (nI f) (ma_F D) (ma_C D) (mm_M (sg_s D fl 4 2 S) g) x1 (sg_m D fl 4 2 S mo) → vc_X6_spread_i2_s21_2_1 fu v_2 (nI o) (nI f) (ma_F D) (ma_C D) (upd (mm_M S g) (D 0 4 - 1) (vp_nar .boolean (1 : Int32))) x1 1) := fun hc => by
        unfold sg_s sg_m
        rw [if_pos hc, if_pos hc, mm_up g (by omega)]
        exact ⟨rfl, id⟩
      by_cases q3 : x1 = 0
      · have hc : sg_c D fl 4 2 S = true := by unfold sg_c; rw [hS, q2, hx.mp q3]; simp [q]
        rw [if_pos q3]
        exact ⟨(go hc).1, fun V => ⟨fun y => absurd y lf, fun _ => ⟨fun y => absurd y em, fun _ => ⟨fun y => absurd (e0.mp y) q, fun _ => ⟨hv, fun _ => ⟨fun _ => ⟨hv, (go hc).2 V⟩, fun y => absurd q3 y⟩, fun y => absurd (m0.mpr q2) y⟩⟩⟩⟩⟩
      · rw [if_neg q3]
        have hfl : fl = true := by
          cases hh : fl with
          | true => rfl
          | false => exact absurd (hx.mpr hh) q3
        by_cases q4 : D 2 (D 0 4 - 1) = 0
        · have hc : sg_c D fl 4 2 S = true := by unfold sg_c; rw [hS, q2]; simp [q, q4]
          rw [if_pos (c0.mpr q4)]
          exact ⟨(go hc).1, fun V => ⟨fun y => absurd y lf, fun _ => ⟨fun y => absurd y em, fun _ => ⟨fun y => absurd (e0.mp y) q, fun _ => ⟨hv, fun _ => ⟨fun y => absurd y q3, fun _ => ⟨hv, fun _ => ⟨hv, (go hc).2 V⟩, fun y => absurd (c0.mpr q4) y⟩⟩, fun y => absurd (m0.mpr q2) y⟩⟩⟩⟩⟩
        · have hc : sg_c D fl 4 2 S = false := by unfold sg_c; rw [hfl]; simp [q4]
          obtain ⟨s1, s2⟩ := sg_f hc mo
          rw [s1, s2, if_neg (fun y => q4 (c0.mp y))]
          exact ⟨rfl, fun V => ⟨fun y => absurd y lf, fun _ => ⟨fun y => absurd y em, fun _ => ⟨fun y => absurd (e0.mp y) q, fun _ => ⟨hv, fun _ => ⟨fun y => absurd y q3, fun _ => ⟨hv, fun y => absurd (c0.mp y) q4, fun _ => V⟩⟩, fun y => absurd (m0.mpr q2) y⟩⟩⟩⟩⟩
    · have hc : sg_c D fl 4 2 S = false := by
        have : S.testBit (D 0 4 - 1) = true := by simpa using q2
        unfold sg_c; rw [this]; simp
      obtain ⟨s1, s2⟩ := sg_f hc mo
      rw [s1, s2, if_neg (fun y => q2 (m0.mp y))]
      exact ⟨rfl, fun V => ⟨fun y => absurd y lf, fun _ => ⟨fun y => absurd y em, fun _ => ⟨fun y => absurd (e0.mp y) q, fun _ => ⟨hv, fun y => absurd (m0.mp y) q2, fun _ => V⟩⟩⟩⟩⟩
theorem sB_2_1 (hw : ab_W o f r) (h : ab_V o f r D) (hx : x1 = 0 ↔ fl = false) (hf : ¬ f ≤ 1) {S : Nat} (hS : S.testBit 2 = true) (mo : Int32) : cf_X6_spread_i2_s21_2_1 fu k_2 (nI o) (nI f) (ma_F D) (ma_C D) (mm_M S g) x1 mo = cf_X6_spread_i2_s21_2_2 fu k_2 (nI o) (nI f) (ma_F D) (ma_C D) (mm_M (sg_s D fl 5 2 S) g) x1 (sg_m D fl 5 2 S mo) ∧ (vc_X6_spread_i2_s21_2_2 fu v_2 (nI o) (nI f) (ma_F D) (ma_C D) (mm_M (sg_s D fl 5 2 S) g) x1 (sg_m D fl 5 2 S mo) → vc_X6_spread_i2_s21_2_1 fu v_2 (nI o) (nI f) (ma_F D) (ma_C D) (mm_M S g) x1 mo) := by
  obtain ⟨w1, w2, w3, w4, w5, w6⟩ := id hw
  have hF := h.F (k := 5) (by omega)
  obtain ⟨e0, e1⟩ := ms_t (D 0 5) (by omega)
  have lf : ¬ nI f ≤ (1 : Int32) := fun y => hf ((nl_le (c := 1) (by omega) (by omega)).mp y)
  have ef : ma_F D ((5 : Int32)).toNatClampNeg = nI (D 0 5) - 1 := rfl
  have em : ¬ mm_M S g ((2 : Int32)).toNatClampNeg = 0 := fun y => by
    have := (mm_0 (k := 2) (by omega)).mp y
    rw [hS] at this; cases this
  unfold cf_X6_spread_i2_s21_2_1 vc_X6_spread_i2_s21_2_1 cf_X6_spread_i2_s84_2_1 vc_X6_spread_i2_s84_2_1 cf_X6_spread_i2_s94_2_1 vc_X6_spread_i2_s94_2_1
  rw [ef, if_neg lf, if_neg em]
  by_cases q : D 0 5 = 0
  · obtain ⟨s1, s2⟩ := sg_f (sg_n (D := D) (fl := fl) (j := 5) (o := 2) (S := S) (Or.inl q)) mo
    rw [s1, s2, if_pos (e0.mpr q)]
    exact ⟨rfl, fun V => ⟨fun y => absurd y lf, fun _ => ⟨fun y => absurd y em, fun _ => ⟨fun _ => V, fun y => absurd (e0.mpr q) y⟩⟩⟩⟩
  · obtain ⟨e2, e3⟩ := e1 q
    have hv : vp_in (nI (D 0 5) - 1) 4 := by rw [e3]; exact vp_in_nI (by omega) (by omega)
    have m0 := mm_0 (S := S) (g := g) (k := D 0 5 - 1) (by omega)
    have c0 : ma_C D (D 0 5 - 1) = 0 ↔ D 2 (D 0 5 - 1) = 0 := ms_0 (by have := h.C (k := D 0 5 - 1) (by omega); omega)
    rw [e2, if_neg (fun y => q (e0.mp y))]
    by_cases q2 : S.testBit (D 0 5 - 1) = false
    · rw [if_pos (m0.mpr q2)]
      have go : sg_c D fl 5 2 S = true → (cf_X6_spread_i2_s21_2_2 fu k_2 (nI o) (nI f) (ma_F D) (ma_C D) (upd (mm_M S g) (D 0 5 - 1) (vp_nar .boolean (1 : Int32))) x1 1 = cf_X6_spread_i2_s21_2_2 fu k_2 (nI o) (nI f) (ma_F D) (ma_C D) (mm_M (sg_s D fl 5 2 S) g) x1 (sg_m D fl 5 2 S mo)) ∧ (vc_X6_spread_i2_s21_2_2 fu v_2 (nI o) (nI f) (ma_F D) (ma_C D) (mm_M (sg_s D fl 5 2 S) g) x1 (sg_m D fl 5 2 S mo) → vc_X6_spread_i2_s21_2_2 fu v_2 (nI o) (nI f) (ma_F D) (ma_C D) (upd (mm_M S g) (D 0 5 - 1) (vp_nar .boolean (1 : Int32))) x1 1) := fun hc => by
        unfold sg_s sg_m
        rw [if_pos hc, if_pos hc, mm_up g (by omega)]
        exact ⟨rfl, id⟩
      by_cases q3 : x1 = 0
      · have hc : sg_c D fl 5 2 S = true := by unfold sg_c; rw [hS, q2, hx.mp q3]; simp [q]
        rw [if_pos q3]
        exact ⟨(go hc).1, fun V => ⟨fun y => absurd y lf, fun _ => ⟨fun y => absurd y em, fun _ => ⟨fun y => absurd (e0.mp y) q, fun _ => ⟨hv, fun _ => ⟨fun _ => ⟨hv, (go hc).2 V⟩, fun y => absurd q3 y⟩, fun y => absurd (m0.mpr q2) y⟩⟩⟩⟩⟩
      · rw [if_neg q3]
        have hfl : fl = true := by
          cases hh : fl with
          | true => rfl
          | false => exact absurd (hx.mpr hh) q3
        by_cases q4 : D 2 (D 0 5 - 1) = 0
        · have hc : sg_c D fl 5 2 S = true := by unfold sg_c; rw [hS, q2]; simp [q, q4]
          rw [if_pos (c0.mpr q4)]
          exact ⟨(go hc).1, fun V => ⟨fun y => absurd y lf, fun _ => ⟨fun y => absurd y em, fun _ => ⟨fun y => absurd (e0.mp y) q, fun _ => ⟨hv, fun _ => ⟨fun y => absurd y q3, fun _ => ⟨hv, fun _ => ⟨hv, (go hc).2 V⟩, fun y => absurd (c0.mpr q4) y⟩⟩, fun y => absurd (m0.mpr q2) y⟩⟩⟩⟩⟩
        · have hc : sg_c D fl 5 2 S = false := by unfold sg_c; rw [hfl]; simp [q4]
          obtain ⟨s1, s2⟩ := sg_f hc mo
          rw [s1, s2, if_neg (fun y => q4 (c0.mp y))]
          exact ⟨rfl, fun V => ⟨fun y => absurd y lf, fun _ => ⟨fun y => absurd y em, fun _ => ⟨fun y => absurd (e0.mp y) q, fun _ => ⟨hv, fun _ => ⟨fun y => absurd y q3, fun _ => ⟨hv, fun y => absurd (c0.mp y) q4, fun _ => V⟩⟩, fun y => absurd (m0.mpr q2) y⟩⟩⟩⟩⟩
    · have hc : sg_c D fl 5 2 S = false := by
        have : S.testBit (D 0 5 - 1) = true := by simpa using q2
        unfold sg_c; rw [this]; simp
      obtain ⟨s1, s2⟩ := sg_f hc mo
      rw [s1, s2, if_neg (fun y => q2 (m0.mp y))]
      exact ⟨rfl, fun V => ⟨fun y => absurd y lf, fun _ => ⟨fun y => absurd y em, fun _ => ⟨fun y => absurd (e0.mp y) q, fun _ => ⟨hv, fun y => absurd (m0.mp y) q2, fun _ => V⟩⟩⟩⟩⟩
theorem sA_2 (hw : ab_W o f r) (h : ab_V o f r D) (hx : x1 = 0 ↔ fl = false) (ho : ¬ o ≤ 2) (S : Nat) (mo : Int32) : cf_X6_spread_i2_s10_2 fu k_2 (nI o) (nI f) (ma_F D) (ma_C D) (mm_M S g) x1 mo = cf_X6_spread_i2_s10_3 fu k_2 (nI o) (nI f) (ma_F D) (ma_C D) (mm_M (sg_s D fl 5 2 (sg_s D fl 4 2 S)) g) x1 (sg_m D fl 5 2 (sg_s D fl 4 2 S) (sg_m D fl 4 2 S mo)) ∧ (vc_X6_spread_i2_s10_3 fu v_2 (nI o) (nI f) (ma_F D) (ma_C D) (mm_M (sg_s D fl 5 2 (sg_s D fl 4 2 S)) g) x1 (sg_m D fl 5 2 (sg_s D fl 4 2 S) (sg_m D fl 4 2 S mo)) → vc_X6_spread_i2_s10_2 fu v_2 (nI o) (nI f) (ma_F D) (ma_C D) (mm_M S g) x1 mo) := by
  obtain ⟨w1, w2, w3, w4, w5, w6⟩ := id hw
  have lo : ¬ nI o ≤ (2 : Int32) := fun y => ho ((nl_le (c := 2) (by omega) (by omega)).mp y)
  have l0 : ¬ nI f ≤ (0 : Int32) := fun y => by have := (nl_le (c := 0) (show f < 200 by omega) (by omega)).mp y; omega
  unfold cf_X6_spread_i2_s10_2 vc_X6_spread_i2_s10_2
  rw [if_neg lo]
  by_cases q : S.testBit 2 = false
  · obtain ⟨s1, s2⟩ := sg_f (sg_n (D := D) (fl := fl) (j := 4) (o := 2) (S := S) (Or.inr q)) mo
    obtain ⟨s3, s4⟩ := sg_f (sg_n (D := D) (fl := fl) (j := 5) (o := 2) (S := S) (Or.inr q)) mo
    rw [s1, s2, s3, s4]
    have em : mm_M S g ((2 : Int32)).toNatClampNeg = 0 := (mm_0 (k := 2) (by omega)).mpr q
    unfold cf_X6_spread_i2_s21_2_0 vc_X6_spread_i2_s21_2_0 cf_X6_spread_i2_s100_2 vc_X6_spread_i2_s100_2
    rw [if_neg l0, if_pos em]
    exact ⟨rfl, fun V => ⟨fun y => absurd y lo, fun _ => ⟨fun y => absurd y l0, fun _ => ⟨fun _ => V, fun y => absurd em y⟩⟩⟩⟩
  · have q' : S.testBit 2 = true := by simpa using q
    obtain ⟨b1, b2⟩ := sB_2_0 (g := g) (k_2 := k_2) (v_2 := v_2) (fu := fu) hw h hx (by omega) q' mo
    rw [b1]
    by_cases f1 : f = 1
    · have z : D 0 5 = 0 := h.F0 (by omega) (by omega)
      obtain ⟨s3, s4⟩ := sg_f (sg_n (D := D) (fl := fl) (j := 5) (o := 2) (S := sg_s D fl 4 2 S) (Or.inl z)) (sg_m D fl 4 2 S mo)
      have l1 : nI f ≤ (1 : Int32) := by rw [f1]; decide +kernel
      rw [s3, s4]
      have e5 : ∀ V : vc_X6_spread_i2_s10_3 fu v_2 (nI o) (nI f) (ma_F D) (ma_C D) (mm_M (sg_s D fl 4 2 S) g) x1 (sg_m D fl 4 2 S mo), vc_X6_spread_i2_s21_2_1 fu v_2 (nI o) (nI f) (ma_F D) (ma_C D) (mm_M (sg_s D fl 4 2 S) g) x1 (sg_m D fl 4 2 S mo) := fun V => by
        unfold vc_X6_spread_i2_s21_2_1 vc_X6_spread_i2_s100_2
        exact ⟨fun _ => V, fun y => absurd l1 y⟩
      refine ⟨?_, fun V => ⟨fun y => absurd y lo, fun _ => b2 (e5 V)⟩⟩
      unfold cf_X6_spread_i2_s21_2_1 cf_X6_spread_i2_s100_2
      rw [if_pos l1]
    · obtain ⟨b3, b4⟩ := sB_2_1 (g := g) (k_2 := k_2) (v_2 := v_2) (fu := fu) hw h hx (by omega) (sg_k (D := D) (fl := fl) (j := 4) (o := 2) q') (sg_m D fl 4 2 S mo)
      rw [b3]
      refine ⟨?_, fun V => ⟨fun y => absurd y lo, fun _ => b2 (b4 ?_)⟩⟩
      · unfold cf_X6_spread_i2_s21_2_2 cf_X6_spread_i2_s100_2; rfl
      · unfold vc_X6_spread_i2_s21_2_2 vc_X6_spread_i2_s100_2; exact V
theorem sB_3_0 (hw : ab_W o f r) (h : ab_V o f r D) (hx : x1 = 0 ↔ fl = false) (hf : ¬ f ≤ 0) {S : Nat} (hS : S.testBit 3 = true) (mo : Int32) : cf_X6_spread_i2_s21_3_0 fu k_2 (nI o) (nI f) (ma_F D) (ma_C D) (mm_M S g) x1 mo = cf_X6_spread_i2_s21_3_1 fu k_2 (nI o) (nI f) (ma_F D) (ma_C D) (mm_M (sg_s D fl 6 3 S) g) x1 (sg_m D fl 6 3 S mo) ∧ (vc_X6_spread_i2_s21_3_1 fu v_2 (nI o) (nI f) (ma_F D) (ma_C D) (mm_M (sg_s D fl 6 3 S) g) x1 (sg_m D fl 6 3 S mo) → vc_X6_spread_i2_s21_3_0 fu v_2 (nI o) (nI f) (ma_F D) (ma_C D) (mm_M S g) x1 mo) := by
  obtain ⟨w1, w2, w3, w4, w5, w6⟩ := id hw
  have hF := h.F (k := 6) (by omega)
  obtain ⟨e0, e1⟩ := ms_t (D 0 6) (by omega)
  have lf : ¬ nI f ≤ (0 : Int32) := fun y => hf ((nl_le (c := 0) (by omega) (by omega)).mp y)
  have ef : ma_F D ((6 : Int32)).toNatClampNeg = nI (D 0 6) - 1 := rfl
  have em : ¬ mm_M S g ((3 : Int32)).toNatClampNeg = 0 := fun y => by
    have := (mm_0 (k := 3) (by omega)).mp y
    rw [hS] at this; cases this
  unfold cf_X6_spread_i2_s21_3_0 vc_X6_spread_i2_s21_3_0 cf_X6_spread_i2_s84_3_0 vc_X6_spread_i2_s84_3_0 cf_X6_spread_i2_s94_3_0 vc_X6_spread_i2_s94_3_0
  rw [ef, if_neg lf, if_neg em]
  by_cases q : D 0 6 = 0
  · obtain ⟨s1, s2⟩ := sg_f (sg_n (D := D) (fl := fl) (j := 6) (o := 3) (S := S) (Or.inl q)) mo
    rw [s1, s2, if_pos (e0.mpr q)]
    exact ⟨rfl, fun V => ⟨fun y => absurd y lf, fun _ => ⟨fun y => absurd y em, fun _ => ⟨fun _ => V, fun y => absurd (e0.mpr q) y⟩⟩⟩⟩
  · obtain ⟨e2, e3⟩ := e1 q
    have hv : vp_in (nI (D 0 6) - 1) 4 := by rw [e3]; exact vp_in_nI (by omega) (by omega)
    have m0 := mm_0 (S := S) (g := g) (k := D 0 6 - 1) (by omega)
    have c0 : ma_C D (D 0 6 - 1) = 0 ↔ D 2 (D 0 6 - 1) = 0 := ms_0 (by have := h.C (k := D 0 6 - 1) (by omega); omega)
    rw [e2, if_neg (fun y => q (e0.mp y))]
    by_cases q2 : S.testBit (D 0 6 - 1) = false
    · rw [if_pos (m0.mpr q2)]
      have go : sg_c D fl 6 3 S = true → (cf_X6_spread_i2_s21_3_1 fu k_2 (nI o) (nI f) (ma_F D) (ma_C D) (upd (mm_M S g) (D 0 6 - 1) (vp_nar .boolean (1 : Int32))) x1 1 = cf_X6_spread_i2_s21_3_1 fu k_2 (nI o) (nI f) (ma_F D) (ma_C D) (mm_M (sg_s D fl 6 3 S) g) x1 (sg_m D fl 6 3 S mo)) ∧ (vc_X6_spread_i2_s21_3_1 fu v_2 (nI o) (nI f) (ma_F D) (ma_C D) (mm_M (sg_s D fl 6 3 S) g) x1 (sg_m D fl 6 3 S mo) → vc_X6_spread_i2_s21_3_1 fu v_2 (nI o) (nI f) (ma_F D) (ma_C D) (upd (mm_M S g) (D 0 6 - 1) (vp_nar .boolean (1 : Int32))) x1 1) := fun hc => by
        unfold sg_s sg_m
        rw [if_pos hc, if_pos hc, mm_up g (by omega)]
        exact ⟨rfl, id⟩
      by_cases q3 : x1 = 0
      · have hc : sg_c D fl 6 3 S = true := by unfold sg_c; rw [hS, q2, hx.mp q3]; simp [q]
        rw [if_pos q3]
        exact ⟨(go hc).1, fun V => ⟨fun y => absurd y lf, fun _ => ⟨fun y => absurd y em, fun _ => ⟨fun y => absurd (e0.mp y) q, fun _ => ⟨hv, fun _ => ⟨fun _ => ⟨hv, (go hc).2 V⟩, fun y => absurd q3 y⟩, fun y => absurd (m0.mpr q2) y⟩⟩⟩⟩⟩
      · rw [if_neg q3]
        have hfl : fl = true := by
          cases hh : fl with
          | true => rfl
          | false => exact absurd (hx.mpr hh) q3
        by_cases q4 : D 2 (D 0 6 - 1) = 0
        · have hc : sg_c D fl 6 3 S = true := by unfold sg_c; rw [hS, q2]; simp [q, q4]
          rw [if_pos (c0.mpr q4)]
          exact ⟨(go hc).1, fun V => ⟨fun y => absurd y lf, fun _ => ⟨fun y => absurd y em, fun _ => ⟨fun y => absurd (e0.mp y) q, fun _ => ⟨hv, fun _ => ⟨fun y => absurd y q3, fun _ => ⟨hv, fun _ => ⟨hv, (go hc).2 V⟩, fun y => absurd (c0.mpr q4) y⟩⟩, fun y => absurd (m0.mpr q2) y⟩⟩⟩⟩⟩
        · have hc : sg_c D fl 6 3 S = false := by unfold sg_c; rw [hfl]; simp [q4]
          obtain ⟨s1, s2⟩ := sg_f hc mo
          rw [s1, s2, if_neg (fun y => q4 (c0.mp y))]
          exact ⟨rfl, fun V => ⟨fun y => absurd y lf, fun _ => ⟨fun y => absurd y em, fun _ => ⟨fun y => absurd (e0.mp y) q, fun _ => ⟨hv, fun _ => ⟨fun y => absurd y q3, fun _ => ⟨hv, fun y => absurd (c0.mp y) q4, fun _ => V⟩⟩, fun y => absurd (m0.mpr q2) y⟩⟩⟩⟩⟩
    · have hc : sg_c D fl 6 3 S = false := by
        have : S.testBit (D 0 6 - 1) = true := by simpa using q2
        unfold sg_c; rw [this]; simp
      obtain ⟨s1, s2⟩ := sg_f hc mo
      rw [s1, s2, if_neg (fun y => q2 (m0.mp y))]
      exact ⟨rfl, fun V => ⟨fun y => absurd y lf, fun _ => ⟨fun y => absurd y em, fun _ => ⟨fun y => absurd (e0.mp y) q, fun _ => ⟨hv, fun y => absurd (m0.mp y) q2, fun _ => V⟩⟩⟩⟩⟩
theorem sB_3_1 (hw : ab_W o f r) (h : ab_V o f r D) (hx : x1 = 0 ↔ fl = false) (hf : ¬ f ≤ 1) {S : Nat} (hS : S.testBit 3 = true) (mo : Int32) : cf_X6_spread_i2_s21_3_1 fu k_2 (nI o) (nI f) (ma_F D) (ma_C D) (mm_M S g) x1 mo = cf_X6_spread_i2_s21_3_2 fu k_2 (nI o) (nI f) (ma_F D) (ma_C D) (mm_M (sg_s D fl 7 3 S) g) x1 (sg_m D fl 7 3 S mo) ∧ (vc_X6_spread_i2_s21_3_2 fu v_2 (nI o) (nI f) (ma_F D) (ma_C D) (mm_M (sg_s D fl 7 3 S) g) x1 (sg_m D fl 7 3 S mo) → vc_X6_spread_i2_s21_3_1 fu v_2 (nI o) (nI f) (ma_F D) (ma_C D) (mm_M S g) x1 mo) := by
  obtain ⟨w1, w2, w3, w4, w5, w6⟩ := id hw
  have hF := h.F (k := 7) (by omega)
  obtain ⟨e0, e1⟩ := ms_t (D 0 7) (by omega)
  have lf : ¬ nI f ≤ (1 : Int32) := fun y => hf ((nl_le (c := 1) (by omega) (by omega)).mp y)
  have ef : ma_F D ((7 : Int32)).toNatClampNeg = nI (D 0 7) - 1 := rfl
  have em : ¬ mm_M S g ((3 : Int32)).toNatClampNeg = 0 := fun y => by
    have := (mm_0 (k := 3) (by omega)).mp y
    rw [hS] at this; cases this
  unfold cf_X6_spread_i2_s21_3_1 vc_X6_spread_i2_s21_3_1 cf_X6_spread_i2_s84_3_1 vc_X6_spread_i2_s84_3_1 cf_X6_spread_i2_s94_3_1 vc_X6_spread_i2_s94_3_1
  rw [ef, if_neg lf, if_neg em]
  by_cases q : D 0 7 = 0
  · obtain ⟨s1, s2⟩ := sg_f (sg_n (D := D) (fl := fl) (j := 7) (o := 3) (S := S) (Or.inl q)) mo
    rw [s1, s2, if_pos (e0.mpr q)]
    exact ⟨rfl, fun V => ⟨fun y => absurd y lf, fun _ => ⟨fun y => absurd y em, fun _ => ⟨fun _ => V, fun y => absurd (e0.mpr q) y⟩⟩⟩⟩
  · obtain ⟨e2, e3⟩ := e1 q
    have hv : vp_in (nI (D 0 7) - 1) 4 := by rw [e3]; exact vp_in_nI (by omega) (by omega)
    have m0 := mm_0 (S := S) (g := g) (k := D 0 7 - 1) (by omega)
    have c0 : ma_C D (D 0 7 - 1) = 0 ↔ D 2 (D 0 7 - 1) = 0 := ms_0 (by have := h.C (k := D 0 7 - 1) (by omega); omega)
    rw [e2, if_neg (fun y => q (e0.mp y))]
    by_cases q2 : S.testBit (D 0 7 - 1) = false
    · rw [if_pos (m0.mpr q2)]
      have go : sg_c D fl 7 3 S = true → (cf_X6_spread_i2_s21_3_2 fu k_2 (nI o) (nI f) (ma_F D) (ma_C D) (upd (mm_M S g) (D 0 7 - 1) (vp_nar .boolean (1 : Int32))) x1 1 = cf_X6_spread_i2_s21_3_2 fu k_2 (nI o) (nI f) (ma_F D) (ma_C D) (mm_M (sg_s D fl 7 3 S) g) x1 (sg_m D fl 7 3 S mo)) ∧ (vc_X6_spread_i2_s21_3_2 fu v_2 (nI o) (nI f) (ma_F D) (ma_C D) (mm_M (sg_s D fl 7 3 S) g) x1 (sg_m D fl 7 3 S mo) → vc_X6_spread_i2_s21_3_2 fu v_2 (nI o) (nI f) (ma_F D) (ma_C D) (upd (mm_M S g) (D 0 7 - 1) (vp_nar .boolean (1 : Int32))) x1 1) := fun hc => by
        unfold sg_s sg_m
        rw [if_pos hc, if_pos hc, mm_up g (by omega)]
        exact ⟨rfl, id⟩
      by_cases q3 : x1 = 0
      · have hc : sg_c D fl 7 3 S = true := by unfold sg_c; rw [hS, q2, hx.mp q3]; simp [q]
        rw [if_pos q3]
        exact ⟨(go hc).1, fun V => ⟨fun y => absurd y lf, fun _ => ⟨fun y => absurd y em, fun _ => ⟨fun y => absurd (e0.mp y) q, fun _ => ⟨hv, fun _ => ⟨fun _ => ⟨hv, (go hc).2 V⟩, fun y => absurd q3 y⟩, fun y => absurd (m0.mpr q2) y⟩⟩⟩⟩⟩
      · rw [if_neg q3]
        have hfl : fl = true := by
          cases hh : fl with
          | true => rfl
          | false => exact absurd (hx.mpr hh) q3
        by_cases q4 : D 2 (D 0 7 - 1) = 0
        · have hc : sg_c D fl 7 3 S = true := by unfold sg_c; rw [hS, q2]; simp [q, q4]
          rw [if_pos (c0.mpr q4)]
          exact ⟨(go hc).1, fun V => ⟨fun y => absurd y lf, fun _ => ⟨fun y => absurd y em, fun _ => ⟨fun y => absurd (e0.mp y) q, fun _ => ⟨hv, fun _ => ⟨fun y => absurd y q3, fun _ => ⟨hv, fun _ => ⟨hv, (go hc).2 V⟩, fun y => absurd (c0.mpr q4) y⟩⟩, fun y => absurd (m0.mpr q2) y⟩⟩⟩⟩⟩
        · have hc : sg_c D fl 7 3 S = false := by unfold sg_c; rw [hfl]; simp [q4]
          obtain ⟨s1, s2⟩ := sg_f hc mo
          rw [s1, s2, if_neg (fun y => q4 (c0.mp y))]
          exact ⟨rfl, fun V => ⟨fun y => absurd y lf, fun _ => ⟨fun y => absurd y em, fun _ => ⟨fun y => absurd (e0.mp y) q, fun _ => ⟨hv, fun _ => ⟨fun y => absurd y q3, fun _ => ⟨hv, fun y => absurd (c0.mp y) q4, fun _ => V⟩⟩, fun y => absurd (m0.mpr q2) y⟩⟩⟩⟩⟩
    · have hc : sg_c D fl 7 3 S = false := by
        have : S.testBit (D 0 7 - 1) = true := by simpa using q2
        unfold sg_c; rw [this]; simp
      obtain ⟨s1, s2⟩ := sg_f hc mo
      rw [s1, s2, if_neg (fun y => q2 (m0.mp y))]
      exact ⟨rfl, fun V => ⟨fun y => absurd y lf, fun _ => ⟨fun y => absurd y em, fun _ => ⟨fun y => absurd (e0.mp y) q, fun _ => ⟨hv, fun y => absurd (m0.mp y) q2, fun _ => V⟩⟩⟩⟩⟩
theorem sA_3 (hw : ab_W o f r) (h : ab_V o f r D) (hx : x1 = 0 ↔ fl = false) (ho : ¬ o ≤ 3) (S : Nat) (mo : Int32) : cf_X6_spread_i2_s10_3 fu k_2 (nI o) (nI f) (ma_F D) (ma_C D) (mm_M S g) x1 mo = cf_X6_spread_i2_s10_4 fu k_2 (nI o) (nI f) (ma_F D) (ma_C D) (mm_M (sg_s D fl 7 3 (sg_s D fl 6 3 S)) g) x1 (sg_m D fl 7 3 (sg_s D fl 6 3 S) (sg_m D fl 6 3 S mo)) ∧ (vc_X6_spread_i2_s10_4 fu v_2 (nI o) (nI f) (ma_F D) (ma_C D) (mm_M (sg_s D fl 7 3 (sg_s D fl 6 3 S)) g) x1 (sg_m D fl 7 3 (sg_s D fl 6 3 S) (sg_m D fl 6 3 S mo)) → vc_X6_spread_i2_s10_3 fu v_2 (nI o) (nI f) (ma_F D) (ma_C D) (mm_M S g) x1 mo) := by
  obtain ⟨w1, w2, w3, w4, w5, w6⟩ := id hw
  have lo : ¬ nI o ≤ (3 : Int32) := fun y => ho ((nl_le (c := 3) (by omega) (by omega)).mp y)
  have l0 : ¬ nI f ≤ (0 : Int32) := fun y => by have := (nl_le (c := 0) (show f < 200 by omega) (by omega)).mp y; omega
  unfold cf_X6_spread_i2_s10_3 vc_X6_spread_i2_s10_3
  rw [if_neg lo]
  by_cases q : S.testBit 3 = false
  · obtain ⟨s1, s2⟩ := sg_f (sg_n (D := D) (fl := fl) (j := 6) (o := 3) (S := S) (Or.inr q)) mo
    obtain ⟨s3, s4⟩ := sg_f (sg_n (D := D) (fl := fl) (j := 7) (o := 3) (S := S) (Or.inr q)) mo
    rw [s1, s2, s3, s4]
    have em : mm_M S g ((3 : Int32)).toNatClampNeg = 0 := (mm_0 (k := 3) (by omega)).mpr q
    unfold cf_X6_spread_i2_s21_3_0 vc_X6_spread_i2_s21_3_0 cf_X6_spread_i2_s100_3 vc_X6_spread_i2_s100_3
    rw [if_neg l0, if_pos em]
    exact ⟨rfl, fun V => ⟨fun y => absurd y lo, fun _ => ⟨fun y => absurd y l0, fun _ => ⟨fun _ => V, fun y => absurd em y⟩⟩⟩⟩
  · have q' : S.testBit 3 = true := by simpa using q
    obtain ⟨b1, b2⟩ := sB_3_0 (g := g) (k_2 := k_2) (v_2 := v_2) (fu := fu) hw h hx (by omega) q' mo
    rw [b1]
    by_cases f1 : f = 1
    · have z : D 0 7 = 0 := h.F0 (by omega) (by omega)
      obtain ⟨s3, s4⟩ := sg_f (sg_n (D := D) (fl := fl) (j := 7) (o := 3) (S := sg_s D fl 6 3 S) (Or.inl z)) (sg_m D fl 6 3 S mo)
      have l1 : nI f ≤ (1 : Int32) := by rw [f1]; decide +kernel
      rw [s3, s4]
      have e5 : ∀ V : vc_X6_spread_i2_s10_4 fu v_2 (nI o) (nI f) (ma_F D) (ma_C D) (mm_M (sg_s D fl 6 3 S) g) x1 (sg_m D fl 6 3 S mo), vc_X6_spread_i2_s21_3_1 fu v_2 (nI o) (nI f) (ma_F D) (ma_C D) (mm_M (sg_s D fl 6 3 S) g) x1 (sg_m D fl 6 3 S mo) := fun V => by
        unfold vc_X6_spread_i2_s21_3_1 vc_X6_spread_i2_s100_3
        exact ⟨fun _ => V, fun y => absurd l1 y⟩
      refine ⟨?_, fun V => ⟨fun y => absurd y lo, fun _ => b2 (e5 V)⟩⟩
      unfold cf_X6_spread_i2_s21_3_1 cf_X6_spread_i2_s100_3
      rw [if_pos l1]
    · obtain ⟨b3, b4⟩ := sB_3_1 (g := g) (k_2 := k_2) (v_2 := v_2) (fu := fu) hw h hx (by omega) (sg_k (D := D) (fl := fl) (j := 6) (o := 3) q') (sg_m D fl 6 3 S mo)
      rw [b3]
      refine ⟨?_, fun V => ⟨fun y => absurd y lo, fun _ => b2 (b4 ?_)⟩⟩
      · unfold cf_X6_spread_i2_s21_3_2 cf_X6_spread_i2_s100_3; rfl
      · unfold vc_X6_spread_i2_s21_3_2 vc_X6_spread_i2_s100_3; exact V
/-- one OBJECT of a pass: its FIELDS 0, 1 -/
def sg_S (D : ab_D) (fl : Bool) (o S : Nat) : Nat := sg_s D fl (2 * o + 1) o (sg_s D fl (2 * o) o S)
def sg_M (D : ab_D) (fl : Bool) (o S : Nat) (mo : Int32) : Int32 := sg_m D fl (2 * o + 1) o (sg_s D fl (2 * o) o S) (sg_m D fl (2 * o) o S mo)
def sg_P (D : ab_D) (fl : Bool) (S : Nat) : Nat := sg_S D fl 3 (sg_S D fl 2 (sg_S D fl 1 (sg_S D fl 0 S)))
def sg_Q (D : ab_D) (fl : Bool) (S : Nat) (mo : Int32) : Int32 := sg_M D fl 3 (sg_S D fl 2 (sg_S D fl 1 (sg_S D fl 0 S))) (sg_M D fl 2 (sg_S D fl 1 (sg_S D fl 0 S)) (sg_M D fl 1 (sg_S D fl 0 S) (sg_M D fl 0 S mo)))
theorem sg_Z {k : Nat} (h0 : D 0 (2 * k) = 0) (h1 : D 0 (2 * k + 1) = 0) (S : Nat) (mo : Int32) : sg_S D fl k S = S ∧ sg_M D fl k S mo = mo := by
  unfold sg_S sg_M
  obtain ⟨s1, s2⟩ := sg_f (sg_n (D := D) (fl := fl) (j := 2 * k) (o := k) (S := S) (Or.inl h0)) mo
  obtain ⟨s3, s4⟩ := sg_f (sg_n (D := D) (fl := fl) (j := 2 * k + 1) (o := k) (S := S) (Or.inl h1)) mo
  rw [s1, s2, s3, s4]; exact ⟨rfl, rfl⟩
theorem sg_pass (hw : ab_W o f r) (h : ab_V o f r D) (hx : x1 = 0 ↔ fl = false) (S : Nat) (mo : Int32) : cf_X6_spread_i2_s10_0 fu k_2 (nI o) (nI f) (ma_F D) (ma_C D) (mm_M S g) x1 mo = k_2 (nI o) (nI f) (ma_F D) (ma_C D) (mm_M (sg_P D fl S) g) x1 (sg_Q D fl S mo) ∧ (v_2 (nI o) (nI f) (ma_F D) (ma_C D) (mm_M (sg_P D fl S) g) x1 (sg_Q D fl S mo) → vc_X6_spread_i2_s10_0 fu v_2 (nI o) (nI f) (ma_F D) (ma_C D) (mm_M S g) x1 mo) := by
  obtain ⟨w1, w2, w3, w4, w5, w6⟩ := id hw
  have zz : ∀ k, k < 4 → o ≤ k → D 0 (2 * k) = 0 ∧ D 0 (2 * k + 1) = 0 := fun k hk ho => ⟨h.F0 (by omega) (by omega), h.F0 (by omega) (by omega)⟩
  unfold sg_P sg_Q
  have a0 := sA_0 (g := g) (k_2 := k_2) (v_2 := v_2) (fu := fu) hw h hx (by omega) S mo
  by_cases c1 : o = 1
  · have l : nI o ≤ (1 : Int32) := by rw [c1]; decide +kernel
    have y1 := zz 1 (by omega) (by omega); have y2 := zz 2 (by omega) (by omega); have y3 := zz 3 (by omega) (by omega)
    obtain ⟨p1, p2⟩ := sg_Z (fl := fl) y1.1 y1.2 (sg_S D fl 0 S) (sg_M D fl 0 S mo)
    obtain ⟨p3, p4⟩ := sg_Z (fl := fl) y2.1 y2.2 (sg_S D fl 0 S) (sg_M D fl 0 S mo)
    obtain ⟨p5, p6⟩ := sg_Z (fl := fl) y3.1 y3.2 (sg_S D fl 0 S) (sg_M D fl 0 S mo)
    rw [p1, p2, p3, p4, p5, p6, a0.1]
    refine ⟨?_, fun V => a0.2 ?_⟩
    · unfold cf_X6_spread_i2_s10_1; rw [if_pos l]; rfl
    · unfold vc_X6_spread_i2_s10_1; exact ⟨fun _ => V, fun y => absurd l y⟩
  have a1 := sA_1 (g := g) (k_2 := k_2) (v_2 := v_2) (fu := fu) hw h hx (by omega) (sg_S D fl 0 S) (sg_M D fl 0 S mo)
  by_cases c2 : o = 2
  · have l : nI o ≤ (2 : Int32) := by rw [c2]; decide +kernel
    have y2 := zz 2 (by omega) (by omega); have y3 := zz 3 (by omega) (by omega)
    obtain ⟨p3, p4⟩ := sg_Z (fl := fl) y2.1 y2.2 (sg_S D fl 1 (sg_S D fl 0 S)) (sg_M D fl 1 (sg_S D fl 0 S) (sg_M D fl 0 S mo))
    obtain ⟨p5, p6⟩ := sg_Z (fl := fl) y3.1 y3.2 (sg_S D fl 1 (sg_S D fl 0 S)) (sg_M D fl 1 (sg_S D fl 0 S) (sg_M D fl 0 S mo))
    rw [p3, p4, p5, p6]
    refine ⟨a0.1.trans (a1.1.trans ?_), fun V => a0.2 (a1.2 ?_)⟩
    · unfold cf_X6_spread_i2_s10_2; rw [if_pos l]; rfl
    · unfold vc_X6_spread_i2_s10_2; exact ⟨fun _ => V, fun y => absurd l y⟩
  have a2 := sA_2 (g := g) (k_2 := k_2) (v_2 := v_2) (fu := fu) hw h hx (by omega) (sg_S D fl 1 (sg_S D fl 0 S)) (sg_M D fl 1 (sg_S D fl 0 S) (sg_M D fl 0 S mo))
  by_cases c3 : o = 3
  · have l : nI o ≤ (3 : Int32) := by rw [c3]; decide +kernel
    have y3 := zz 3 (by omega) (by omega)
    obtain ⟨p5, p6⟩ := sg_Z (fl := fl) y3.1 y3.2 (sg_S D fl 2 (sg_S D fl 1 (sg_S D fl 0 S))) (sg_M D fl 2 (sg_S D fl 1 (sg_S D fl 0 S)) (sg_M D fl 1 (sg_S D fl 0 S) (sg_M D fl 0 S mo)))
    rw [p5, p6]
    refine ⟨a0.1.trans (a1.1.trans (a2.1.trans ?_)), fun V => a0.2 (a1.2 (a2.2 ?_))⟩
    · unfold cf_X6_spread_i2_s10_3; rw [if_pos l]; rfl
    · unfold vc_X6_spread_i2_s10_3; exact ⟨fun _ => V, fun y => absurd l y⟩
  have a3 := sA_3 (g := g) (k_2 := k_2) (v_2 := v_2) (fu := fu) hw h hx (by omega) (sg_S D fl 2 (sg_S D fl 1 (sg_S D fl 0 S))) (sg_M D fl 2 (sg_S D fl 1 (sg_S D fl 0 S)) (sg_M D fl 1 (sg_S D fl 0 S) (sg_M D fl 0 S mo)))
  refine ⟨a0.1.trans (a1.1.trans (a2.1.trans (a3.1.trans ?_))), fun V => a0.2 (a1.2 (a2.2 (a3.2 ?_)))⟩
  · unfold cf_X6_spread_i2_s10_4; rfl
  · unfold vc_X6_spread_i2_s10_4; exact V
end SG

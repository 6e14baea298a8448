/-! the class's closure is the least closed set -/
section CL
variable {D : ab_D} {fl : Bool} {thr S C m : Nat}
theorem nf_0 : nf_set D 0 = 0 := by simp [nf_set, nf_if]
theorem nf_stsup : sub4 m (nf_st D thr m) := fun i _ h => by unfold nf_st; rw [Nat.testBit_or, h, Bool.true_or]
theorem nf_stin (ht : ∀ t, t < 4 → thr.testBit t = true → (fl = false ∨ D 2 t = 0)) (hC : cl_ok D fl C) (h : sub4 m C) : sub4 (nf_st D thr m) C := by
  intro i hi hb
  unfold nf_st at hb
  rw [Nat.testBit_or, Nat.testBit_and] at hb
  simp only [Bool.or_eq_true, Bool.and_eq_true] at hb
  rcases hb with hb | ⟨hb, h2⟩
  · exact h i hi hb
  · obtain ⟨j, hj, q1, q2⟩ := (nf_setb m i).mp hb
    have := hC j hj (h (j / 2) (by omega) q1) (by omega) (by rw [q2]; exact ht i hi h2)
    rwa [q2] at this
theorem nf_stok (hB : ab_B D) (ht : ∀ t, t < 4 → (fl = false ∨ D 2 t = 0) → thr.testBit t = true) (h : nf_st D thr m = m) : cl_ok D fl m := by
  intro j hj q1 q2 q3
  have h1 := hB.1 j hj
  have e : (nf_set D m).testBit (D 0 j - 1) = true := (nf_setb m _).mpr ⟨j, hj, q1, by omega⟩
  rw [← h]
  unfold nf_st
  rw [Nat.testBit_or, Nat.testBit_and, e, ht _ (by omega) q3]
  simp
def pc4 (m : Nat) : Nat := (m.testBit 0).toNat + (m.testBit 1).toNat + (m.testBit 2).toNat + (m.testBit 3).toNat
theorem pc4_lt : ∀ a, a < 16 → ∀ b, b < 16 → a ||| b = b → a ≠ b → pc4 a < pc4 b := by decide +kernel
theorem pc4_le (a : Nat) : pc4 a ≤ 4 := by unfold pc4; have := fun b : Bool => Bool.toNat_le b; have h0 := this (a.testBit 0); have h1 := this (a.testBit 1); have h2 := this (a.testBit 2); have h3 := this (a.testBit 3); omega
theorem pc4_0 : ∀ a, a < 16 → a ≠ 0 → 0 < pc4 a := by decide +kernel
theorem nf_up (hB : ab_B D) (hm : m < 16) (h : nf_st D thr m ≠ m) : pc4 m < pc4 (nf_st D thr m) :=
  pc4_lt m hm _ (nf_st_lt hB hm) (by unfold nf_st; rw [← Nat.or_assoc, Nat.or_self]) (fun y => h y.symm)
theorem nf_clok (hB : ab_B D) (hm : m < 16) : nf_st D thr (nf_cl D m thr) = nf_cl D m thr := by
  have l1 := nf_st_lt hB (thr := thr) hm
  have l2 := nf_st_lt hB (thr := thr) l1
  have l3 := nf_st_lt hB (thr := thr) l2
  unfold nf_cl
  by_cases e0 : nf_st D thr m = m
  · rw [e0, e0, e0, e0]
  by_cases e1 : nf_st D thr (nf_st D thr m) = nf_st D thr m
  · rw [e1, e1, e1]
  by_cases e2 : nf_st D thr (nf_st D thr (nf_st D thr m)) = nf_st D thr (nf_st D thr m)
  · rw [e2, e2]
  by_cases e3 : nf_st D thr (nf_st D thr (nf_st D thr (nf_st D thr m))) = nf_st D thr (nf_st D thr (nf_st D thr m))
  · exact e3
  exfalso
  have a0 := nf_up hB hm e0
  have a1 := nf_up hB l1 e1
  have a2 := nf_up hB l2 e2
  have a3 := nf_up hB l3 e3
  have a4 := pc4_le (nf_st D thr (nf_st D thr (nf_st D thr (nf_st D thr m))))
  have a5 : 0 < pc4 m := pc4_0 m hm (fun z => e0 (by rw [z]; unfold nf_st; rw [nf_0, Nat.zero_and, Nat.or_zero]))
  omega
theorem nf_clsup : sub4 m (nf_cl D m thr) := sub4.tr nf_stsup (sub4.tr nf_stsup nf_stsup)
theorem nf_clin (ht : ∀ t, t < 4 → thr.testBit t = true → (fl = false ∨ D 2 t = 0)) (hC : cl_ok D fl C) (h : sub4 m C) : sub4 (nf_cl D m thr) C := nf_stin ht hC (nf_stin ht hC (nf_stin ht hC h))
/-- one least closed set -/
theorem nf_one (hB : ab_B D) (ht : ∀ t, t < 4 → (thr.testBit t = true ↔ (fl = false ∨ D 2 t = 0))) (hm : m < 16) (hC16 : C < 16) (h1 : sub4 m C) (hC : cl_ok D fl C) (h2 : ∀ C', cl_ok D fl C' → sub4 m C' → sub4 C C') : C = nf_cl D m thr :=
  ext16 hC16 (nf_cl_lt hB hm) (h2 _ (nf_stok hB (fun t h => (ht t h).mpr) (nf_clok hB hm)) nf_clsup) (nf_clin (fun t h => (ht t h).mp) hC h1)
theorem nf_t15 : ∀ t, t < 4 → ((15 : Nat).testBit t = true ↔ ((false : Bool) = false ∨ D 2 t = 0)) := by
  intro t ht
  have : ∀ t, t < 4 → (15 : Nat).testBit t = true := by decide
  exact ⟨fun _ => Or.inl rfl, fun _ => this t ht⟩
theorem nf_tw (hB : ab_B D) : ∀ t, t < 4 → ((nf_w D).testBit t = true ↔ ((true : Bool) = false ∨ D 2 t = 0)) := by
  intro t ht
  rw [nf_wb hB ht]
  exact ⟨Or.inr, fun q => q.elim (fun z => by cases z) id⟩
/-- nothing has what the set-up lacks -/
theorem cl_all {o f r : Nat} (h : ab_V o f r D) : cl_ok D fl (2 ^ o - 1) := by
  intro j hj _ q _
  have := (h.1 j hj).1
  rw [Nat.testBit_two_pow_sub_one]
  simp; omega
theorem nf_need_o {o f r : Nat} (hw : ab_W o f r) (h : ab_V o f r D) {t : Nat} (ht : t < 4) (hb : (nf_need D).testBit t = true) : t < o := by
  have := nf_clin (D := D) (fl := false) (thr := 15) (m := nf_rt D) (fun t h => (nf_t15 t h).mp) (cl_all (fl := false) h) (fun i hi hr => by
    obtain ⟨k, hk, q⟩ := (nf_rtb i).mp hr
    have := (h.2.1 k hk).1
    rw [Nat.testBit_two_pow_sub_one]; simp; omega) t ht hb
  rw [Nat.testBit_two_pow_sub_one] at this
  simpa using this
/-- the whites of both are the same -/
theorem nf_weak (hB : ab_B D) {t : Nat} (ht : t < 4) (hwt : D 2 t = 0) : (nf_cl D (nf_g D) (nf_w D)).testBit t = (nf_wg D).testBit t := by
  have lwi : nf_wi D (nf_g D) < 16 := nb_a16 (nf_set_lt hB _)
  have okC : cl_ok D true (nf_cl D (nf_g D) (nf_w D)) := nf_stok (thr := nf_w D) hB (fun t h => (nf_tw hB t h).mpr) (nf_clok hB nf_g_lt)
  have okW : cl_ok D true (nf_wg D) := nf_stok (thr := nf_w D) hB (fun t h => (nf_tw hB t h).mpr) (nf_clok hB lwi)
  have wib : ∀ i, i < 4 → ((nf_wi D (nf_g D)).testBit i = true ↔ ((∃ j, j < 8 ∧ (nf_g D).testBit (j / 2) = true ∧ D 0 j = i + 1) ∧ D 2 i = 0)) := by
    intro i hi
    unfold nf_wi
    rw [Nat.testBit_and, Bool.and_eq_true, nf_setb, nf_wb hB hi]
  have s1 : sub4 (nf_wg D) (nf_cl D (nf_g D) (nf_w D)) := nf_clin (fun t h => (nf_tw hB t h).mp) okC (fun i hi hb => by
    obtain ⟨⟨j, hj, q1, q2⟩, q3⟩ := (wib i hi).mp hb
    have := okC j hj (nf_clsup (j / 2) (by omega) q1) (by omega) (Or.inr (by rw [q2]; exact q3))
    rwa [q2] at this)
  have s2 : sub4 (nf_cl D (nf_g D) (nf_w D)) (nf_g D ||| nf_wg D) := nf_clin (fl := true) (fun t h => (nf_tw hB t h).mp) (by
    intro j hj q1 q2 q3
    have h1 := hB.1 j hj
    rw [Nat.testBit_or] at q1 ⊢
    simp only [Bool.or_eq_true] at q1 ⊢
    right
    rcases q1 with q1 | q1
    · exact nf_clsup _ (by omega) ((wib _ (by omega)).mpr ⟨⟨j, hj, q1, by omega⟩, q3.elim (fun z => by cases z) id⟩)
    · exact okW j hj q1 q2 q3) (fun i _ hb => by rw [Nat.testBit_or, hb, Bool.true_or])
  cases e : (nf_wg D).testBit t with
  | true => exact s1 t ht e
  | false =>
    cases e2 : (nf_cl D (nf_g D) (nf_w D)).testBit t with
    | false => rfl
    | true =>
      have := s2 t ht e2
      rw [Nat.testBit_or, e, Bool.or_false, nf_gb ht] at this
      omega
theorem nz16 {a : Nat} (ha : a < 16) : a ≠ 0 ↔ ∃ t, t < 4 ∧ a.testBit t = true := by
  constructor
  · intro h
    have key : ∀ a, a < 16 → a ≠ 0 → (a.testBit 0 = true ∨ a.testBit 1 = true ∨ a.testBit 2 = true ∨ a.testBit 3 = true) := by decide
    rcases key a ha h with q | q | q | q
    · exact ⟨0, by omega, q⟩
    · exact ⟨1, by omega, q⟩
    · exact ⟨2, by omega, q⟩
    · exact ⟨3, by omega, q⟩
  · rintro ⟨t, _, q⟩ z
    rw [z] at q; simp at q
end CL
theorem mm_s {o f r fu S : Nat} {D : ab_D} {g : Nat → Int32} {x1 : Int32} {fl : Bool} {thr : Nat} (hw : ab_W o f r) (h : ab_V o f r D) (hx : x1 = 0 ↔ fl = false) (ht : ∀ t, t < 4 → (thr.testBit t = true ↔ (fl = false ∨ D 2 t = 0))) (hS : S < 16) (hfu : 18 ≤ fu) :
    cf_X6_spread fu (nI o) (nI f) (ma_F D) (ma_C D) (mm_M S g) x1 = mm_M (nf_cl D S thr) g ∧ vc_X6_spread fu (nI o) (nI f) (ma_F D) (ma_C D) (mm_M S g) x1 := by
  obtain ⟨C, c1, c2, c3, c4, c5, c6⟩ := sp_loop (g := g) (fu := fu) hw h hx fu S 1 hS (by omega) (by decide +kernel)
  have e := nf_one (h.B hw) ht hS c1 c4 c5 c6
  rw [← e]
  exact ⟨c2, c3⟩

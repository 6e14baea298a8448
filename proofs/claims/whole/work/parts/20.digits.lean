/-! mixed radix numbers: a list of (radix, digit), the lowest first -/
def hr_v : List (Nat × Nat) → Nat
  | [] => 0
  | q :: t => q.2 + q.1 * hr_v t
def hr_p : List (Nat × Nat) → Nat
  | [] => 1
  | q :: t => q.1 * hr_p t
def hr_ok (l : List (Nat × Nat)) : Prop := ∀ q ∈ l, q.2 < q.1
theorem hr_ok.tl {q : Nat × Nat} {t : List (Nat × Nat)} (h : hr_ok (q :: t)) : hr_ok t := fun x hx => h x (List.mem_cons_of_mem _ hx)
theorem hr_ok.hd {q : Nat × Nat} {t : List (Nat × Nat)} (h : hr_ok (q :: t)) : q.2 < q.1 := h q List.mem_cons_self
theorem hr_lt : ∀ l : List (Nat × Nat), hr_ok l → hr_v l < hr_p l
  | [], _ => by simp [hr_v, hr_p]
  | q :: t, h => by
    have h1 := hr_lt t h.tl
    have h2 := h.hd
    have h3 : q.1 * (hr_v t + 1) ≤ q.1 * hr_p t := Nat.mul_le_mul_left _ h1
    rw [Nat.mul_add, Nat.mul_one] at h3
    show q.2 + q.1 * hr_v t < q.1 * hr_p t
    omega
theorem hr_app : ∀ a b : List (Nat × Nat), hr_v (a ++ b) = hr_v a + hr_p a * hr_v b
  | [], b => by simp [hr_v, hr_p]
  | q :: t, b => by
    show q.2 + q.1 * hr_v (t ++ b) = (q.2 + q.1 * hr_v t) + q.1 * hr_p t * hr_v b
    rw [hr_app t b, Nat.mul_add, Nat.mul_assoc, Nat.add_assoc]
theorem hr_papp : ∀ a b : List (Nat × Nat), hr_p (a ++ b) = hr_p a * hr_p b
  | [], b => by simp [hr_p]
  | q :: t, b => by
    show q.1 * hr_p (t ++ b) = q.1 * hr_p t * hr_p b
    rw [hr_papp t b, Nat.mul_assoc]
theorem hr_inj : ∀ l m : List (Nat × Nat), l.map (·.1) = m.map (·.1) → hr_ok l → hr_ok m → hr_v l = hr_v m → l = m
  | [], [], _, _, _, _ => rfl
  | [], _ :: _, h, _, _, _ => by simp at h
  | _ :: _, [], h, _, _, _ => by simp at h
  | q :: t, r :: u, h, hl, hm, hv => by
    obtain ⟨qa, qd⟩ := q
    obtain ⟨ra, rd⟩ := r
    simp only [List.map_cons, List.cons.injEq] at h
    obtain ⟨h1, h2⟩ := h
    subst h1
    have e1 : qd < qa := hl.hd
    have e2 : rd < qa := hm.hd
    have hv : qd + qa * hr_v t = rd + qa * hr_v u := hv
    have h3 : qd = rd := by
      have h4 := congrArg (· % qa) hv
      simpa [Nat.add_mul_mod_self_left, Nat.mod_eq_of_lt e1, Nat.mod_eq_of_lt e2] using h4
    subst h3
    have h5 : qa * hr_v t = qa * hr_v u := by omega
    have h6 : hr_v t = hr_v u := Nat.eq_of_mul_eq_mul_left (by omega) h5
    rw [hr_inj t u h2 hl.tl hm.tl h6]
/-- a stretch b of the digits, behind a -/
theorem hr_get {a b c : List (Nat × Nat)} (ha : hr_ok a) (hb : hr_ok b) : hr_v (a ++ (b ++ c)) / hr_p a % hr_p b = hr_v b := by
  have h1 := hr_lt a ha
  have h2 := hr_lt b hb
  rw [hr_app, hr_app, Nat.add_mul_div_left _ _ (by omega), Nat.div_eq_of_lt h1, Nat.zero_add, Nat.add_mul_mod_self_left, Nat.mod_eq_of_lt h2]
theorem hr_put {a b b' c : List (Nat × Nat)} : hr_v (a ++ (b' ++ c)) + hr_p a * hr_v b = hr_v (a ++ (b ++ c)) + hr_p a * hr_v b' ∨ hr_p b ≠ hr_p b' := by
  by_cases h : hr_p b = hr_p b'
  · left
    rw [hr_app, hr_app, hr_app, hr_app, h]
    simp only [Nat.mul_add]
    omega
  · exact Or.inr h
/-- a stretch of w bits at p is taken out, another is put there -/
theorem hb_put {p w lo d hi d' : Nat} (hlo : lo < 2 ^ p) (hd : d < 2 ^ w) (hd' : d' < 2 ^ w) (hw : p + w ≤ 64) (ht : 2 ^ p * (2 ^ w * hi + d) + lo < 2 ^ 64) :
    ((2 ^ p * (2 ^ w * hi + d) + lo) &&& (2 ^ 64 - ((2 ^ w - 1) * 2 ^ p + 1))) ||| (d' * 2 ^ p) = 2 ^ p * (2 ^ w * hi + d') + lo := by
  have hm : (2 ^ w - 1) * 2 ^ p < 2 ^ 64 := by
    have h1 : (2 ^ w - 1) * 2 ^ p < 2 ^ w * 2 ^ p := Nat.mul_lt_mul_of_pos_right (by have := Nat.two_pow_pos w; omega) (Nat.two_pow_pos p)
    rw [← Nat.pow_add] at h1
    exact Nat.lt_of_lt_of_le h1 (Nat.pow_le_pow_right (by decide) (by omega))
  apply Nat.eq_of_testBit_eq
  intro j
  rw [Nat.testBit_or, Nat.testBit_and, Nat.testBit_two_pow_sub_succ hm, Nat.testBit_mul_two_pow, Nat.testBit_mul_two_pow, Nat.testBit_two_pow_mul_add _ hlo, Nat.testBit_two_pow_mul_add _ hlo, Nat.testBit_two_pow_sub_one]
  by_cases h1 : j < p
  · have h2 : j < 64 := by omega
    have h3 : ¬ p ≤ j := by omega
    simp [h1, h2, h3]
  · have h3 : p ≤ j := by omega
    simp only [h1, h3, if_false, decide_true, Bool.true_and, if_neg, not_false_eq_true]
    rw [Nat.testBit_two_pow_mul_add _ hd, Nat.testBit_two_pow_mul_add _ hd']
    by_cases h4 : j - p < w
    · simp [h4]
    · simp only [h4, if_false, decide_false, Bool.not_false, Bool.and_true]
      have h5 : d'.testBit (j - p) = false := Nat.testBit_lt_two_pow (Nat.lt_of_lt_of_le hd' (Nat.pow_le_pow_right (by decide) (by omega)))
      rw [h5, Bool.or_false]
      by_cases h6 : j < 64
      · simp [h6]
      · have h7 : (2 ^ p * (2 ^ w * hi + d) + lo).testBit j = false := Nat.testBit_lt_two_pow (Nat.lt_of_lt_of_le ht (Nat.pow_le_pow_right (by decide) (by omega)))
        rw [Nat.testBit_two_pow_mul_add _ hlo, if_neg h1, Nat.testBit_two_pow_mul_add _ hd, if_neg h4] at h7
        simp [h6, h7]
/-- the same, as the lists have it -/
theorem hl_put {a b b' c : List (Nat × Nat)} {p w : Nat} (ha : hr_ok a) (hb : hr_ok b) (hb' : hr_ok b') (hp : hr_p a = 2 ^ p) (hw : hr_p b = 2 ^ w) (hw' : hr_p b' = 2 ^ w) (hpw : p + w ≤ 64) (ht : hr_v (a ++ (b ++ c)) < 2 ^ 64) :
    (hr_v (a ++ (b ++ c)) &&& (2 ^ 64 - ((2 ^ w - 1) * 2 ^ p + 1))) ||| (hr_v b' * 2 ^ p) = hr_v (a ++ (b' ++ c)) := by
  have h1 := hr_lt a ha
  have h2 := hr_lt b hb
  have h3 := hr_lt b' hb'
  rw [hp] at h1; rw [hw] at h2; rw [hw'] at h3
  have e1 : ∀ x : List (Nat × Nat), hr_p x = 2 ^ w → hr_v (a ++ (x ++ c)) = 2 ^ p * (2 ^ w * hr_v c + hr_v x) + hr_v a := by
    intro x hx
    rw [hr_app, hr_app, hp, hx]
    rw [Nat.add_comm (hr_v x), Nat.add_comm (hr_v a)]
  rw [e1 b hw] at ht ⊢
  rw [e1 b' hw']
  exact hb_put h1 h2 h3 hpw ht

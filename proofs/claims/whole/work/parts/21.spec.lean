/-! A STATE as digits: D 0 k FIELD k (0 nothing, else the OBJECT and one), D 1 i ROOT i likewise, D 2 o colour, D 3 o how many FIELDS were looked at, D 4 0 ROOTS looked at, D 4 1 acts left, D 4 2 over. -/
abbrev ab_D : Type := Nat → Nat → Nat
def ab_up (D : ab_D) (i k v : Nat) : ab_D := fun a b => if a = i ∧ b = k then v else D a b
theorem ab_us (D : ab_D) (i k v : Nat) : ab_up D i k v i k = v := by simp [ab_up]
theorem ab_un (D : ab_D) {i k a b : Nat} (v : Nat) (h : ¬ (a = i ∧ b = k)) : ab_up D i k v a b = D a b := by simp [ab_up, h]
def ab_g (c : Nat) : Nat := if c = 1 then 1 else 0
def ab_b (c : Nat) : Nat := if c = 2 then 1 else 0
/-- the class's digits, the lowest first -/
def ab_c (D : ab_D) : List (Nat × Nat) := [(8, D 0 0), (8, D 0 1), (8, D 0 2), (8, D 0 3), (8, D 0 4), (8, D 0 5), (8, D 0 6), (8, D 0 7), (8, D 1 0), (8, D 1 1), (8, D 1 2), (2, ab_g (D 2 0)), (2, ab_g (D 2 1)), (2, ab_g (D 2 2)), (2, ab_g (D 2 3)), (2, ab_b (D 2 0)), (2, ab_b (D 2 1)), (2, ab_b (D 2 2)), (2, ab_b (D 2 3)), (2, D 3 0), (2, D 3 1), (2, D 3 2), (2, D 3 3), (4, D 4 0), (2, D 4 2), (16, D 4 1)]
/-- the reference's digits -/
def ab_m (D : ab_D) : List (Nat × Nat) := [(5, D 0 7), (5, D 0 6), (5, D 0 5), (5, D 0 4), (5, D 0 3), (5, D 0 2), (5, D 0 1), (5, D 0 0), (3, D 3 3), (3, D 2 3), (3, D 3 2), (3, D 2 2), (3, D 3 1), (3, D 2 1), (3, D 3 0), (3, D 2 0), (5, D 1 2), (5, D 1 1), (5, D 1 0), (4, D 4 0), (9, D 4 1), (2, D 4 2)]
def ab_sN (D : ab_D) : Nat := hr_v (ab_c D)
def ab_nN (D : ab_D) : Nat := hr_v (ab_m D)
def ab_s (D : ab_D) : Int64 := lN (ab_sN D)
def ab_n (D : ab_D) : Int64 := lN (ab_nN D)
/-- a set-up: OBJECTS o, FIELDS f, ROOTS r -/
def ab_W (o f r : Nat) : Prop := 1 ≤ o ∧ o ≤ 4 ∧ 1 ≤ f ∧ f ≤ 2 ∧ 1 ≤ r ∧ r ≤ 3
/-- a STATE of that set-up -/
def ab_V (o f r : Nat) (D : ab_D) : Prop :=
  (∀ k, k < 8 → D 0 k ≤ o ∧ (o ≤ k / 2 ∨ f ≤ k % 2 → D 0 k = 0)) ∧ (∀ k, k < 3 → D 1 k ≤ o ∧ (r ≤ k → D 1 k = 0)) ∧
  (∀ k, k < 4 → D 2 k ≤ 2 ∧ (o ≤ k → D 2 k = 0) ∧ D 3 k < f ∧ (D 2 k ≠ 1 → D 3 k = 0)) ∧ D 4 0 ≤ r ∧ D 4 1 ≤ 8 ∧ D 4 2 ≤ 1
theorem ab_g_lt (c : Nat) : ab_g c < 2 := by unfold ab_g; split <;> omega
theorem ab_b_lt (c : Nat) : ab_b c < 2 := by unfold ab_b; split <;> omega
theorem ab_gb {c d : Nat} (hc : c ≤ 2) (hd : d ≤ 2) (h1 : ab_g c = ab_g d) (h2 : ab_b c = ab_b d) : c = d := by
  unfold ab_g at h1; unfold ab_b at h2
  rcases (show c = 0 ∨ c = 1 ∨ c = 2 by omega) with rfl | rfl | rfl <;> rcases (show d = 0 ∨ d = 1 ∨ d = 2 by omega) with rfl | rfl | rfl <;> simp_all
/-- plain bounds of the digits -/
def ab_B (D : ab_D) : Prop := (∀ k, k < 8 → D 0 k ≤ 4) ∧ (∀ k, k < 3 → D 1 k ≤ 4) ∧ (∀ k, k < 4 → D 2 k ≤ 2 ∧ D 3 k ≤ 1) ∧ D 4 0 ≤ 3 ∧ D 4 1 ≤ 8 ∧ D 4 2 ≤ 1
theorem ab_V.B {o f r : Nat} {D : ab_D} (hw : ab_W o f r) (h : ab_V o f r D) : ab_B D := by
  obtain ⟨h1, h2, h3, h4, h5, h6⟩ := h
  obtain ⟨w1, w2, w3, w4, w5, w6⟩ := hw
  refine ⟨fun k hk => ?_, fun k hk => ?_, fun k hk => ?_, by omega, h5, h6⟩
  · have := (h1 k hk).1; omega
  · have := (h2 k hk).1; omega
  · have := h3 k hk; omega
theorem ab_cok {D : ab_D} (h : ab_B D) : hr_ok (ab_c D) := by
  obtain ⟨h1, h2, h3, h4, h5, h6⟩ := h
  have a0 := h1 0 (by omega); have a1 := h1 1 (by omega); have a2 := h1 2 (by omega); have a3 := h1 3 (by omega)
  have a4 := h1 4 (by omega); have a5 := h1 5 (by omega); have a6 := h1 6 (by omega); have a7 := h1 7 (by omega)
  have b0 := h2 0 (by omega); have b1 := h2 1 (by omega); have b2 := h2 2 (by omega)
  have c0 := h3 0 (by omega); have c1 := h3 1 (by omega); have c2 := h3 2 (by omega); have c3 := h3 3 (by omega)
  intro q hq
  simp only [ab_c, List.mem_cons, List.not_mem_nil, or_false] at hq
  rcases hq with rfl | rfl | rfl | rfl | rfl | rfl | rfl | rfl | rfl | rfl | rfl | rfl | rfl | rfl | rfl | rfl | rfl | rfl | rfl | rfl | rfl | rfl | rfl | rfl | rfl | rfl <;> first | exact ab_g_lt _ | exact ab_b_lt _ | (dsimp only; omega)
theorem ab_mok {D : ab_D} (h : ab_B D) : hr_ok (ab_m D) := by
  obtain ⟨h1, h2, h3, h4, h5, h6⟩ := h
  have a0 := h1 0 (by omega); have a1 := h1 1 (by omega); have a2 := h1 2 (by omega); have a3 := h1 3 (by omega)
  have a4 := h1 4 (by omega); have a5 := h1 5 (by omega); have a6 := h1 6 (by omega); have a7 := h1 7 (by omega)
  have b0 := h2 0 (by omega); have b1 := h2 1 (by omega); have b2 := h2 2 (by omega)
  have c0 := h3 0 (by omega); have c1 := h3 1 (by omega); have c2 := h3 2 (by omega); have c3 := h3 3 (by omega)
  intro q hq
  simp only [ab_m, List.mem_cons, List.not_mem_nil, or_false] at hq
  rcases hq with rfl | rfl | rfl | rfl | rfl | rfl | rfl | rfl | rfl | rfl | rfl | rfl | rfl | rfl | rfl | rfl | rfl | rfl | rfl | rfl | rfl | rfl <;> (dsimp only; omega)
theorem ab_s_lt {D : ab_D} (h : ab_B D) : ab_sN D < 2 ^ 52 := Nat.lt_of_lt_of_eq (hr_lt _ (ab_cok h)) (by simp [ab_c, hr_p])
theorem ab_n_lt {D : ab_D} (h : ab_B D) : ab_nN D < 2 ^ 52 := Nat.lt_trans (hr_lt _ (ab_mok h)) (by simp [ab_m, hr_p])
/-- the same digits -/
def ab_E (D D' : ab_D) : Prop := (∀ k, k < 8 → D 0 k = D' 0 k) ∧ (∀ k, k < 3 → D 1 k = D' 1 k) ∧ (∀ k, k < 4 → D 2 k = D' 2 k ∧ D 3 k = D' 3 k) ∧ D 4 0 = D' 4 0 ∧ D 4 1 = D' 4 1 ∧ D 4 2 = D' 4 2
theorem ab_E.c {D D' : ab_D} (h : ab_E D D') : ab_c D = ab_c D' := by
  obtain ⟨h1, h2, h3, h4, h5, h6⟩ := h
  simp only [ab_c, h1 0 (by omega), h1 1 (by omega), h1 2 (by omega), h1 3 (by omega), h1 4 (by omega), h1 5 (by omega), h1 6 (by omega), h1 7 (by omega), h2 0 (by omega), h2 1 (by omega), h2 2 (by omega), h3 0 (by omega), h3 1 (by omega), h3 2 (by omega), h3 3 (by omega), h4, h5, h6]
theorem ab_E.m {D D' : ab_D} (h : ab_E D D') : ab_m D = ab_m D' := by
  obtain ⟨h1, h2, h3, h4, h5, h6⟩ := h
  simp only [ab_m, h1 0 (by omega), h1 1 (by omega), h1 2 (by omega), h1 3 (by omega), h1 4 (by omega), h1 5 (by omega), h1 6 (by omega), h1 7 (by omega), h2 0 (by omega), h2 1 (by omega), h2 2 (by omega), h3 0 (by omega), h3 1 (by omega), h3 2 (by omega), h3 3 (by omega), h4, h5, h6]
theorem ab_E.sN {D D' : ab_D} (h : ab_E D D') : ab_sN D = ab_sN D' := by unfold ab_sN; rw [h.c]
theorem ab_E.nN {D D' : ab_D} (h : ab_E D D') : ab_nN D = ab_nN D' := by unfold ab_nN; rw [h.m]
theorem ab_c_inj {D D' : ab_D} (h : ab_B D) (h' : ab_B D') (e : ab_sN D = ab_sN D') : ab_E D D' := by
  have hl := hr_inj _ _ (by simp [ab_c]) (ab_cok h) (ab_cok h') e
  simp only [ab_c, List.cons.injEq, Prod.mk.injEq, true_and, and_true] at hl
  obtain ⟨a0, a1, a2, a3, a4, a5, a6, a7, b0, b1, b2, g0, g1, g2, g3, k0, k1, k2, k3, l0, l1, l2, l3, x0, x2, x1⟩ := hl
  have c0 := ab_gb (h.2.2.1 0 (by omega)).1 (h'.2.2.1 0 (by omega)).1 g0 k0
  have c1 := ab_gb (h.2.2.1 1 (by omega)).1 (h'.2.2.1 1 (by omega)).1 g1 k1
  have c2 := ab_gb (h.2.2.1 2 (by omega)).1 (h'.2.2.1 2 (by omega)).1 g2 k2
  have c3 := ab_gb (h.2.2.1 3 (by omega)).1 (h'.2.2.1 3 (by omega)).1 g3 k3
  refine ⟨fun k hk => ?_, fun k hk => ?_, fun k hk => ?_, x0, x1, x2⟩
  · rcases (show k = 0 ∨ k = 1 ∨ k = 2 ∨ k = 3 ∨ k = 4 ∨ k = 5 ∨ k = 6 ∨ k = 7 by omega) with rfl | rfl | rfl | rfl | rfl | rfl | rfl | rfl <;> assumption
  · rcases (show k = 0 ∨ k = 1 ∨ k = 2 by omega) with rfl | rfl | rfl <;> assumption
  · rcases (show k = 0 ∨ k = 1 ∨ k = 2 ∨ k = 3 by omega) with rfl | rfl | rfl | rfl <;> exact ⟨by assumption, by assumption⟩
theorem ab_m_inj {D D' : ab_D} (h : ab_B D) (h' : ab_B D') (e : ab_nN D = ab_nN D') : ab_E D D' := by
  have hl := hr_inj _ _ (by simp [ab_m]) (ab_mok h) (ab_mok h') e
  simp only [ab_m, List.cons.injEq, Prod.mk.injEq, true_and, and_true] at hl
  obtain ⟨a7, a6, a5, a4, a3, a2, a1, a0, l3, c3, l2, c2, l1, c1, l0, c0, b2, b1, b0, x0, x1, x2⟩ := hl
  refine ⟨fun k hk => ?_, fun k hk => ?_, fun k hk => ?_, x0, x1, x2⟩
  · rcases (show k = 0 ∨ k = 1 ∨ k = 2 ∨ k = 3 ∨ k = 4 ∨ k = 5 ∨ k = 6 ∨ k = 7 by omega) with rfl | rfl | rfl | rfl | rfl | rfl | rfl | rfl <;> assumption
  · rcases (show k = 0 ∨ k = 1 ∨ k = 2 by omega) with rfl | rfl | rfl <;> assumption
  · rcases (show k = 0 ∨ k = 1 ∨ k = 2 ∨ k = 3 by omega) with rfl | rfl | rfl | rfl <;> exact ⟨by assumption, by assumption⟩
theorem ab_iff {D D' : ab_D} (h : ab_B D) (h' : ab_B D') : ab_sN D = ab_sN D' ↔ ab_nN D = ab_nN D' := ⟨fun e => (ab_c_inj h h' e).nN, fun e => (ab_m_inj h h' e).sN⟩
/-! the acts -/
/-- a WHITE one -/
def sp_w (D : ab_D) (t : Nat) : Bool := decide (t ≠ 0) && decide (D 2 (t - 1) = 0)
/-- it becomes GREY, if it is WHITE -/
def sp_g (D : ab_D) (t : Nat) : ab_D := if sp_w D t = true then ab_up (ab_up D 2 (t - 1) 1) 3 (t - 1) 0 else D
def sp_lg (D : ab_D) : Nat := if D 2 0 = 1 then 0 else if D 2 1 = 1 then 1 else if D 2 2 = 1 then 2 else if D 2 3 = 1 then 3 else 4
def sp_bit (b i : Nat) : Bool := b.testBit i
def sp_gb (b i : Nat) (D : ab_D) (t : Nat) : ab_D := if sp_bit b i = true then sp_g D t else D
def sp_look (f r : Nat) (D : ab_D) : ab_D :=
  if D 4 0 < r then ab_up (sp_g D (D 1 (D 4 0))) 4 0 (D 4 0 + 1)
  else
    if D 3 (sp_lg D) + 1 < f then ab_up (sp_g D (D 0 (2 * sp_lg D + D 3 (sp_lg D)))) 3 (sp_lg D) (D 3 (sp_lg D) + 1)
    else ab_up (ab_up (sp_g D (D 0 (2 * sp_lg D + D 3 (sp_lg D)))) 2 (sp_lg D) 2) 3 (sp_lg D) 0
def sp_some (b : Nat) (D : ab_D) : Bool := sp_bit b 5 && (sp_w D (D 1 0) || sp_w D (D 1 1) || sp_w D (D 1 2))
def sp_end (b : Nat) (D : ab_D) : ab_D := if sp_some b D = true then sp_g (sp_g (sp_g D (D 1 0)) (D 1 1)) (D 1 2) else ab_up D 4 2 1
def sp_root (b : Nat) (D : ab_D) (a t : Nat) : ab_D := ab_up (sp_gb b 4 (sp_gb b 6 D (D 1 a)) t) 1 a t
def sp_s1 (b : Nat) (D : ab_D) (x t f : Nat) : ab_D := sp_gb b 1 (sp_gb b 0 D (D 0 (2 * x + f))) t
def sp_s2 (b : Nat) (D : ab_D) (x t f : Nat) : ab_D := if sp_bit b 2 = true ∧ sp_s1 b D x t f 2 x = 2 then sp_g (sp_s1 b D x t f) t else sp_s1 b D x t f
def sp_s3 (b : Nat) (D : ab_D) (x t f : Nat) : ab_D := if sp_bit b 3 = true ∧ sp_s2 b D x t f 2 x = 2 ∧ sp_w (sp_s2 b D x t f) t = true then ab_up (ab_up (sp_s2 b D x t f) 2 x 1) 3 x 0 else sp_s2 b D x t f
def sp_store (b : Nat) (D : ab_D) (a c f : Nat) : ab_D := ab_up (sp_s3 b D (D 1 a - 1) (D 1 c) f) 0 (2 * (D 1 a - 1) + f) (D 1 c)
/-- one act of the program is taken -/
def sp_sp (D : ab_D) : ab_D := ab_up D 4 1 (D 4 1 - 1)
def sp_can (f r : Nat) (D : ab_D) (k : Nat) : Bool :=
  if D 4 2 = 1 then false
  else if k = 0 then decide (D 4 0 < r) || decide (sp_lg D < 4)
  else if k = 1 then decide (D 4 0 = r) && decide (sp_lg D = 4)
  else if D 4 1 = 0 then false
  else if k < 11 then decide ((k - 2) / 3 < r) && decide ((k - 2) % 3 < r) && decide ((k - 2) / 3 ≠ (k - 2) % 3)
  else if 47 ≤ k then decide (k - 47 < r)
  else if k < 29 then decide ((k - 11) / 6 < r) && decide ((k - 11) % 6 / 2 < r) && decide ((k - 11) % 2 < f) && decide (D 1 ((k - 11) % 6 / 2) ≠ 0)
  else decide ((k - 29) / 6 < r) && decide ((k - 29) % 6 / 2 < r) && decide ((k - 29) % 2 < f) && decide (D 1 ((k - 29) / 6) ≠ 0)
def sp_act (f r b : Nat) (D : ab_D) (k : Nat) : ab_D :=
  if k = 0 then sp_look f r D
  else if k = 1 then sp_end b D
  else if k < 11 then sp_root b (sp_sp D) ((k - 2) / 3) (D 1 ((k - 2) % 3))
  else if k < 29 then sp_root b (sp_sp D) ((k - 11) / 6) (D 0 (2 * (D 1 ((k - 11) % 6 / 2) - 1) + (k - 11) % 2))
  else if k < 47 then sp_store b (sp_sp D) ((k - 29) / 6) ((k - 29) % 6 / 2) ((k - 29) % 2)
  else sp_root b (sp_sp D) (k - 47) 0

/-! how many acts can be done -/
def sp_c (f r : Nat) (D : ab_D) : Nat → Nat → Nat → Nat
  | 0, _, n => n
  | m + 1, k, n => sp_c f r D m (k + 1) (if sp_can f r D k = true then n + 1 else n)
def sp_n (f r : Nat) (D : ab_D) : Nat := sp_c f r D 50 0 0
theorem sp_c_add {f r : Nat} {D : ab_D} : ∀ (a b k n : Nat), sp_c f r D (a + b) k n = sp_c f r D b (k + a) (sp_c f r D a k n)
  | 0, b, k, n => by rw [Nat.zero_add, Nat.add_zero]; rfl
  | a + 1, b, k, n => by
    rw [show a + 1 + b = (a + b) + 1 by omega]
    show sp_c f r D (a + b) (k + 1) _ = sp_c f r D b (k + (a + 1)) (sp_c f r D a (k + 1) _)
    rw [sp_c_add a b (k + 1), show k + 1 + a = k + (a + 1) by omega]
theorem sp_c_z {f r : Nat} {D : ab_D} : ∀ (m k n : Nat), (∀ i, k ≤ i → i < k + m → sp_can f r D i = false) → sp_c f r D m k n = n
  | 0, _, _, _ => rfl
  | m + 1, k, n, h => by
    show sp_c f r D m (k + 1) _ = n
    rw [h k (Nat.le_refl k) (by omega), if_neg (by decide)]
    exact sp_c_z m (k + 1) n (fun i h1 h2 => h i (by omega) (by omega))
section CN
variable {o f r : Nat} {D : ab_D}

theorem cm_49 (hw : ab_W o f r) (h : ab_V o f r D) (n : Nat) : cf_X6_canDoMany_s4_49 (nI o) (nI f) (nI r) (ma_R D) (ma_C D) (nI (D 4 0)) (nI (D 4 1)) (nI (D 4 2)) (nI n) = nI (sp_c f r D 1 49 n) ∧ vc_X6_canDoMany_s4_49 (nI o) (nI f) (nI r) (ma_R D) (ma_C D) (nI (D 4 0)) (nI (D 4 1)) (nI (D 4 2)) (nI n) := by
  have c : cf_X6_canDo (nI o) (nI f) (nI r) (ma_R D) (ma_C D) (nI (D 4 0)) (nI (D 4 1)) (nI (D 4 2)) (49 : Int32) = (if sp_can f r D 49 = true then 1 else 0) ∧ vc_X6_canDo (nI o) (nI f) (nI r) (ma_R D) (ma_C D) (nI (D 4 0)) (nI (D 4 1)) (nI (D 4 2)) (49 : Int32) := ms_canDo hw h (k := 49) (by omega)
  unfold cf_X6_canDoMany_s4_49 vc_X6_canDoMany_s4_49
  rw [c.1]
  by_cases q : sp_can f r D 49 = true
  · rw [if_pos q, if_neg (show ¬ (1 : Int32) = 0 by decide +kernel), nI_1]
    have z : sp_c f r D 1 49 n = n + 1 := by show (if sp_can f r D 49 = true then n + 1 else n) = _; rw [if_pos q]
    rw [z]
    exact ⟨rfl, c.2, trivial⟩
  · rw [if_neg q, if_pos rfl]
    have z : sp_c f r D 1 49 n = n := by show (if sp_can f r D 49 = true then n + 1 else n) = _; rw [if_neg q]
    rw [z]
    exact ⟨rfl, c.2, trivial⟩
theorem cm_48 (hw : ab_W o f r) (h : ab_V o f r D) (n : Nat) : cf_X6_canDoMany_s4_48 (nI o) (nI f) (nI r) (ma_R D) (ma_C D) (nI (D 4 0)) (nI (D 4 1)) (nI (D 4 2)) (nI n) = nI (sp_c f r D 2 48 n) ∧ vc_X6_canDoMany_s4_48 (nI o) (nI f) (nI r) (ma_R D) (ma_C D) (nI (D 4 0)) (nI (D 4 1)) (nI (D 4 2)) (nI n) := by
  have c : cf_X6_canDo (nI o) (nI f) (nI r) (ma_R D) (ma_C D) (nI (D 4 0)) (nI (D 4 1)) (nI (D 4 2)) (48 : Int32) = (if sp_can f r D 48 = true then 1 else 0) ∧ vc_X6_canDo (nI o) (nI f) (nI r) (ma_R D) (ma_C D) (nI (D 4 0)) (nI (D 4 1)) (nI (D 4 2)) (48 : Int32) := ms_canDo hw h (k := 48) (by omega)
  unfold cf_X6_canDoMany_s4_48 vc_X6_canDoMany_s4_48
  rw [c.1]
  by_cases q : sp_can f r D 48 = true
  · rw [if_pos q, if_neg (show ¬ (1 : Int32) = 0 by decide +kernel), nI_1]
    have z : sp_c f r D 2 48 n = sp_c f r D 1 49 (n + 1) := by show sp_c f r D 1 49 _ = _; rw [if_pos q]
    rw [z]
    exact ⟨(cm_49 hw h (n + 1)).1, c.2, fun y => absurd y (by decide +kernel), fun _ => (cm_49 hw h (n + 1)).2⟩
  · rw [if_neg q, if_pos rfl]
    have z : sp_c f r D 2 48 n = sp_c f r D 1 49 n := by show sp_c f r D 1 49 _ = _; rw [if_neg q]
    rw [z]
    exact ⟨(cm_49 hw h n).1, c.2, fun _ => (cm_49 hw h n).2, fun y => absurd rfl y⟩
theorem cm_47 (hw : ab_W o f r) (h : ab_V o f r D) (n : Nat) : cf_X6_canDoMany_s4_47 (nI o) (nI f) (nI r) (ma_R D) (ma_C D) (nI (D 4 0)) (nI (D 4 1)) (nI (D 4 2)) (nI n) = nI (sp_c f r D 3 47 n) ∧ vc_X6_canDoMany_s4_47 (nI o) (nI f) (nI r) (ma_R D) (ma_C D) (nI (D 4 0)) (nI (D 4 1)) (nI (D 4 2)) (nI n) := by
  have c : cf_X6_canDo (nI o) (nI f) (nI r) (ma_R D) (ma_C D) (nI (D 4 0)) (nI (D 4 1)) (nI (D 4 2)) (47 : Int32) = (if sp_can f r D 47 = true then 1 else 0) ∧ vc_X6_canDo (nI o) (nI f) (nI r) (ma_R D) (ma_C D) (nI (D 4 0)) (nI (D 4 1)) (nI (D 4 2)) (47 : Int32) := ms_canDo hw h (k := 47) (by omega)
  unfold cf_X6_canDoMany_s4_47 vc_X6_canDoMany_s4_47
  rw [c.1]
  by_cases q : sp_can f r D 47 = true
  · rw [if_pos q, if_neg (show ¬ (1 : Int32) = 0 by decide +kernel), nI_1]
    have z : sp_c f r D 3 47 n = sp_c f r D 2 48 (n + 1) := by show sp_c f r D 2 48 _ = _; rw [if_pos q]
    rw [z]
    exact ⟨(cm_48 hw h (n + 1)).1, c.2, fun y => absurd y (by decide +kernel), fun _ => (cm_48 hw h (n + 1)).2⟩
  · rw [if_neg q, if_pos rfl]
    have z : sp_c f r D 3 47 n = sp_c f r D 2 48 n := by show sp_c f r D 2 48 _ = _; rw [if_neg q]
    rw [z]
    exact ⟨(cm_48 hw h n).1, c.2, fun _ => (cm_48 hw h n).2, fun y => absurd rfl y⟩
theorem cm_46 (hw : ab_W o f r) (h : ab_V o f r D) (n : Nat) : cf_X6_canDoMany_s4_46 (nI o) (nI f) (nI r) (ma_R D) (ma_C D) (nI (D 4 0)) (nI (D 4 1)) (nI (D 4 2)) (nI n) = nI (sp_c f r D 4 46 n) ∧ vc_X6_canDoMany_s4_46 (nI o) (nI f) (nI r) (ma_R D) (ma_C D) (nI (D 4 0)) (nI (D 4 1)) (nI (D 4 2)) (nI n) := by
  have c : cf_X6_canDo (nI o) (nI f) (nI r) (ma_R D) (ma_C D) (nI (D 4 0)) (nI (D 4 1)) (nI (D 4 2)) (46 : Int32) = (if sp_can f r D 46 = true then 1 else 0) ∧ vc_X6_canDo (nI o) (nI f) (nI r) (ma_R D) (ma_C D) (nI (D 4 0)) (nI (D 4 1)) (nI (D 4 2)) (46 : Int32) := ms_canDo hw h (k := 46) (by omega)
  unfold cf_X6_canDoMany_s4_46 vc_X6_canDoMany_s4_46
  rw [c.1]
  by_cases q : sp_can f r D 46 = true
  · rw [if_pos q, if_neg (show ¬ (1 : Int32) = 0 by decide +kernel), nI_1]
    have z : sp_c f r D 4 46 n = sp_c f r D 3 47 (n + 1) := by show sp_c f r D 3 47 _ = _; rw [if_pos q]
    rw [z]
    exact ⟨(cm_47 hw h (n + 1)).1, c.2, fun y => absurd y (by decide +kernel), fun _ => (cm_47 hw h (n + 1)).2⟩
  · rw [if_neg q, if_pos rfl]
    have z : sp_c f r D 4 46 n = sp_c f r D 3 47 n := by show sp_c f r D 3 47 _ = _; rw [if_neg q]
    rw [z]
    exact ⟨(cm_47 hw h n).1, c.2, fun _ => (cm_47 hw h n).2, fun y => absurd rfl y⟩
theorem cm_45 (hw : ab_W o f r) (h : ab_V o f r D) (n : Nat) : cf_X6_canDoMany_s4_45 (nI o) (nI f) (nI r) (ma_R D) (ma_C D) (nI (D 4 0)) (nI (D 4 1)) (nI (D 4 2)) (nI n) = nI (sp_c f r D 5 45 n) ∧ vc_X6_canDoMany_s4_45 (nI o) (nI f) (nI r) (ma_R D) (ma_C D) (nI (D 4 0)) (nI (D 4 1)) (nI (D 4 2)) (nI n) := by
  have c : cf_X6_canDo (nI o) (nI f) (nI r) (ma_R D) (ma_C D) (nI (D 4 0)) (nI (D 4 1)) (nI (D 4 2)) (45 : Int32) = (if sp_can f r D 45 = true then 1 else 0) ∧ vc_X6_canDo (nI o) (nI f) (nI r) (ma_R D) (ma_C D) (nI (D 4 0)) (nI (D 4 1)) (nI (D 4 2)) (45 : Int32) := ms_canDo hw h (k := 45) (by omega)
  unfold cf_X6_canDoMany_s4_45 vc_X6_canDoMany_s4_45
  rw [c.1]
  by_cases q : sp_can f r D 45 = true
  · rw [if_pos q, if_neg (show ¬ (1 : Int32) = 0 by decide +kernel), nI_1]
    have z : sp_c f r D 5 45 n = sp_c f r D 4 46 (n + 1) := by show sp_c f r D 4 46 _ = _; rw [if_pos q]
    rw [z]
    exact ⟨(cm_46 hw h (n + 1)).1, c.2, fun y => absurd y (by decide +kernel), fun _ => (cm_46 hw h (n + 1)).2⟩
  · rw [if_neg q, if_pos rfl]
    have z : sp_c f r D 5 45 n = sp_c f r D 4 46 n := by show sp_c f r D 4 46 _ = _; rw [if_neg q]
    rw [z]
    exact ⟨(cm_46 hw h n).1, c.2, fun _ => (cm_46 hw h n).2, fun y => absurd rfl y⟩
theorem cm_44 (hw : ab_W o f r) (h : ab_V o f r D) (n : Nat) : cf_X6_canDoMany_s4_44 (nI o) (nI f) (nI r) (ma_R D) (ma_C D) (nI (D 4 0)) (nI (D 4 1)) (nI (D 4 2)) (nI n) = nI (sp_c f r D 6 44 n) ∧ vc_X6_canDoMany_s4_44 (nI o) (nI f) (nI r) (ma_R D) (ma_C D) (nI (D 4 0)) (nI (D 4 1)) (nI (D 4 2)) (nI n) := by
  have c : cf_X6_canDo (nI o) (nI f) (nI r) (ma_R D) (ma_C D) (nI (D 4 0)) (nI (D 4 1)) (nI (D 4 2)) (44 : Int32) = (if sp_can f r D 44 = true then 1 else 0) ∧ vc_X6_canDo (nI o) (nI f) (nI r) (ma_R D) (ma_C D) (nI (D 4 0)) (nI (D 4 1)) (nI (D 4 2)) (44 : Int32) := ms_canDo hw h (k := 44) (by omega)
  unfold cf_X6_canDoMany_s4_44 vc_X6_canDoMany_s4_44
  rw [c.1]
  by_cases q : sp_can f r D 44 = true
  · rw [if_pos q, if_neg (show ¬ (1 : Int32) = 0 by decide +kernel), nI_1]
    have z : sp_c f r D 6 44 n = sp_c f r D 5 45 (n + 1) := by show sp_c f r D 5 45 _ = _; rw [if_pos q]
    rw [z]
    exact ⟨(cm_45 hw h (n + 1)).1, c.2, fun y => absurd y (by decide +kernel), fun _ => (cm_45 hw h (n + 1)).2⟩
  · rw [if_neg q, if_pos rfl]
    have z : sp_c f r D 6 44 n = sp_c f r D 5 45 n := by show sp_c f r D 5 45 _ = _; rw [if_neg q]
    rw [z]
    exact ⟨(cm_45 hw h n).1, c.2, fun _ => (cm_45 hw h n).2, fun y => absurd rfl y⟩
theorem cm_43 (hw : ab_W o f r) (h : ab_V o f r D) (n : Nat) : cf_X6_canDoMany_s4_43 (nI o) (nI f) (nI r) (ma_R D) (ma_C D) (nI (D 4 0)) (nI (D 4 1)) (nI (D 4 2)) (nI n) = nI (sp_c f r D 7 43 n) ∧ vc_X6_canDoMany_s4_43 (nI o) (nI f) (nI r) (ma_R D) (ma_C D) (nI (D 4 0)) (nI (D 4 1)) (nI (D 4 2)) (nI n) := by
  have c : cf_X6_canDo (nI o) (nI f) (nI r) (ma_R D) (ma_C D) (nI (D 4 0)) (nI (D 4 1)) (nI (D 4 2)) (43 : Int32) = (if sp_can f r D 43 = true then 1 else 0) ∧ vc_X6_canDo (nI o) (nI f) (nI r) (ma_R D) (ma_C D) (nI (D 4 0)) (nI (D 4 1)) (nI (D 4 2)) (43 : Int32) := ms_canDo hw h (k := 43) (by omega)
  unfold cf_X6_canDoMany_s4_43 vc_X6_canDoMany_s4_43
  rw [c.1]
  by_cases q : sp_can f r D 43 = true
  · rw [if_pos q, if_neg (show ¬ (1 : Int32) = 0 by decide +kernel), nI_1]
    have z : sp_c f r D 7 43 n = sp_c f r D 6 44 (n + 1) := by show sp_c f r D 6 44 _ = _; rw [if_pos q]
    rw [z]
    exact ⟨(cm_44 hw h (n + 1)).1, c.2, fun y => absurd y (by decide +kernel), fun _ => (cm_44 hw h (n + 1)).2⟩
  · rw [if_neg q, if_pos rfl]
    have z : sp_c f r D 7 43 n = sp_c f r D 6 44 n := by show sp_c f r D 6 44 _ = _; rw [if_neg q]
    rw [z]
    exact ⟨(cm_44 hw h n).1, c.2, fun _ => (cm_44 hw h n).2, fun y => absurd rfl y⟩
theorem cm_42 (hw : ab_W o f r) (h : ab_V o f r D) (n : Nat) : cf_X6_canDoMany_s4_42 (nI o) (nI f) (nI r) (ma_R D) (ma_C D) (nI (D 4 0)) (nI (D 4 1)) (nI (D 4 2)) (nI n) = nI (sp_c f r D 8 42 n) ∧ vc_X6_canDoMany_s4_42 (nI o) (nI f) (nI r) (ma_R D) (ma_C D) (nI (D 4 0)) (nI (D 4 1)) (nI (D 4 2)) (nI n) := by
  have c : cf_X6_canDo (nI o) (nI f) (nI r) (ma_R D) (ma_C D) (nI (D 4 0)) (nI (D 4 1)) (nI (D 4 2)) (42 : Int32) = (if sp_can f r D 42 = true then 1 else 0) ∧ vc_X6_canDo (nI o) (nI f) (nI r) (ma_R D) (ma_C D) (nI (D 4 0)) (nI (D 4 1)) (nI (D 4 2)) (42 : Int32) := ms_canDo hw h (k := 42) (by omega)
  unfold cf_X6_canDoMany_s4_42 vc_X6_canDoMany_s4_42
  rw [c.1]
  by_cases q : sp_can f r D 42 = true
  · rw [if_pos q, if_neg (show ¬ (1 : Int32) = 0 by decide +kernel), nI_1]
    have z : sp_c f r D 8 42 n = sp_c f r D 7 43 (n + 1) := by show sp_c f r D 7 43 _ = _; rw [if_pos q]
    rw [z]
    exact ⟨(cm_43 hw h (n + 1)).1, c.2, fun y => absurd y (by decide +kernel), fun _ => (cm_43 hw h (n + 1)).2⟩
  · rw [if_neg q, if_pos rfl]
    have z : sp_c f r D 8 42 n = sp_c f r D 7 43 n := by show sp_c f r D 7 43 _ = _; rw [if_neg q]
    rw [z]
    exact ⟨(cm_43 hw h n).1, c.2, fun _ => (cm_43 hw h n).2, fun y => absurd rfl y⟩
theorem cm_41 (hw : ab_W o f r) (h : ab_V o f r D) (n : Nat) : cf_X6_canDoMany_s4_41 (nI o) (nI f) (nI r) (ma_R D) (ma_C D) (nI (D 4 0)) (nI (D 4 1)) (nI (D 4 2)) (nI n) = nI (sp_c f r D 9 41 n) ∧ vc_X6_canDoMany_s4_41 (nI o) (nI f) (nI r) (ma_R D) (ma_C D) (nI (D 4 0)) (nI (D 4 1)) (nI (D 4 2)) (nI n) := by
  have c : cf_X6_canDo (nI o) (nI f) (nI r) (ma_R D) (ma_C D) (nI (D 4 0)) (nI (D 4 1)) (nI (D 4 2)) (41 : Int32) = (if sp_can f r D 41 = true then 1 else 0) ∧ vc_X6_canDo (nI o) (nI f) (nI r) (ma_R D) (ma_C D) (nI (D 4 0)) (nI (D 4 1)) (nI (D 4 2)) (41 : Int32) := ms_canDo hw h (k := 41) (by omega)
  unfold cf_X6_canDoMany_s4_41 vc_X6_canDoMany_s4_41
  rw [c.1]
  by_cases q : sp_can f r D 41 = true
  · rw [if_pos q, if_neg (show ¬ (1 : Int32) = 0 by decide +kernel), nI_1]
    have z : sp_c f r D 9 41 n = sp_c f r D 8 42 (n + 1) := by show sp_c f r D 8 42 _ = _; rw [if_pos q]
    rw [z]
    exact ⟨(cm_42 hw h (n + 1)).1, c.2, fun y => absurd y (by decide +kernel), fun _ => (cm_42 hw h (n + 1)).2⟩
  · rw [if_neg q, if_pos rfl]
    have z : sp_c f r D 9 41 n = sp_c f r D 8 42 n := by show sp_c f r D 8 42 _ = _; rw [if_neg q]
    rw [z]
    exact ⟨(cm_42 hw h n).1, c.2, fun _ => (cm_42 hw h n).2, fun y => absurd rfl y⟩
theorem cm_40 (hw : ab_W o f r) (h : ab_V o f r D) (n : Nat) : cf_X6_canDoMany_s4_40 (nI o) (nI f) (nI r) (ma_R D) (ma_C D) (nI (D 4 0)) (nI (D 4 1)) (nI (D 4 2)) (nI n) = nI (sp_c f r D 10 40 n) ∧ vc_X6_canDoMany_s4_40 (nI o) (nI f) (nI r) (ma_R D) (ma_C D) (nI (D 4 0)) (nI (D 4 1)) (nI (D 4 2)) (nI n) := by
  have c : cf_X6_canDo (nI o) (nI f) (nI r) (ma_R D) (ma_C D) (nI (D 4 0)) (nI (D 4 1)) (nI (D 4 2)) (40 : Int32) = (if sp_can f r D 40 = true then 1 else 0) ∧ vc_X6_canDo (nI o) (nI f) (nI r) (ma_R D) (ma_C D) (nI (D 4 0)) (nI (D 4 1)) (nI (D 4 2)) (40 : Int32) := ms_canDo hw h (k := 40) (by omega)
  unfold cf_X6_canDoMany_s4_40 vc_X6_canDoMany_s4_40
  rw [c.1]
  by_cases q : sp_can f r D 40 = true
  · rw [if_pos q, if_neg (show ¬ (1 : Int32) = 0 by decide +kernel), nI_1]
    have z : sp_c f r D 10 40 n = sp_c f r D 9 41 (n + 1) := by show sp_c f r D 9 41 _ = _; rw [if_pos q]
    rw [z]
    exact ⟨(cm_41 hw h (n + 1)).1, c.2, fun y => absurd y (by decide +kernel), fun _ => (cm_41 hw h (n + 1)).2⟩
  · rw [if_neg q, if_pos rfl]
    have z : sp_c f r D 10 40 n = sp_c f r D 9 41 n := by show sp_c f r D 9 41 _ = _; rw [if_neg q]
    rw [z]
    exact ⟨(cm_41 hw h n).1, c.2, fun _ => (cm_41 hw h n).2, fun y => absurd rfl y⟩
theorem cm_39 (hw : ab_W o f r) (h : ab_V o f r D) (n : Nat) : cf_X6_canDoMany_s4_39 (nI o) (nI f) (nI r) (ma_R D) (ma_C D) (nI (D 4 0)) (nI (D 4 1)) (nI (D 4 2)) (nI n) = nI (sp_c f r D 11 39 n) ∧ vc_X6_canDoMany_s4_39 (nI o) (nI f) (nI r) (ma_R D) (ma_C D) (nI (D 4 0)) (nI (D 4 1)) (nI (D 4 2)) (nI n) := by
  have c : cf_X6_canDo (nI o) (nI f) (nI r) (ma_R D) (ma_C D) (nI (D 4 0)) (nI (D 4 1)) (nI (D 4 2)) (39 : Int32) = (if sp_can f r D 39 = true then 1 else 0) ∧ vc_X6_canDo (nI o) (nI f) (nI r) (ma_R D) (ma_C D) (nI (D 4 0)) (nI (D 4 1)) (nI (D 4 2)) (39 : Int32) := ms_canDo hw h (k := 39) (by omega)
  unfold cf_X6_canDoMany_s4_39 vc_X6_canDoMany_s4_39
  rw [c.1]
  by_cases q : sp_can f r D 39 = true
  · rw [if_pos q, if_neg (show ¬ (1 : Int32) = 0 by decide +kernel), nI_1]
    have z : sp_c f r D 11 39 n = sp_c f r D 10 40 (n + 1) := by show sp_c f r D 10 40 _ = _; rw [if_pos q]
    rw [z]
    exact ⟨(cm_40 hw h (n + 1)).1, c.2, fun y => absurd y (by decide +kernel), fun _ => (cm_40 hw h (n + 1)).2⟩
  · rw [if_neg q, if_pos rfl]
    have z : sp_c f r D 11 39 n = sp_c f r D 10 40 n := by show sp_c f r D 10 40 _ = _; rw [if_neg q]
    rw [z]
    exact ⟨(cm_40 hw h n).1, c.2, fun _ => (cm_40 hw h n).2, fun y => absurd rfl y⟩
theorem cm_38 (hw : ab_W o f r) (h : ab_V o f r D) (n : Nat) : cf_X6_canDoMany_s4_38 (nI o) (nI f) (nI r) (ma_R D) (ma_C D) (nI (D 4 0)) (nI (D 4 1)) (nI (D 4 2)) (nI n) = nI (sp_c f r D 12 38 n) ∧ vc_X6_canDoMany_s4_38 (nI o) (nI f) (nI r) (ma_R D) (ma_C D) (nI (D 4 0)) (nI (D 4 1)) (nI (D 4 2)) (nI n) := by
  have c : cf_X6_canDo (nI o) (nI f) (nI r) (ma_R D) (ma_C D) (nI (D 4 0)) (nI (D 4 1)) (nI (D 4 2)) (38 : Int32) = (if sp_can f r D 38 = true then 1 else 0) ∧ vc_X6_canDo (nI o) (nI f) (nI r) (ma_R D) (ma_C D) (nI (D 4 0)) (nI (D 4 1)) (nI (D 4 2)) (38 : Int32) := ms_canDo hw h (k := 38) (by omega)
  unfold cf_X6_canDoMany_s4_38 vc_X6_canDoMany_s4_38
  rw [c.1]
  by_cases q : sp_can f r D 38 = true
  · rw [if_pos q, if_neg (show ¬ (1 : Int32) = 0 by decide +kernel), nI_1]
    have z : sp_c f r D 12 38 n = sp_c f r D 11 39 (n + 1) := by show sp_c f r D 11 39 _ = _; rw [if_pos q]
    rw [z]
    exact ⟨(cm_39 hw h (n + 1)).1, c.2, fun y => absurd y (by decide +kernel), fun _ => (cm_39 hw h (n + 1)).2⟩
  · rw [if_neg q, if_pos rfl]
    have z : sp_c f r D 12 38 n = sp_c f r D 11 39 n := by show sp_c f r D 11 39 _ = _; rw [if_neg q]
    rw [z]
    exact ⟨(cm_39 hw h n).1, c.2, fun _ => (cm_39 hw h n).2, fun y => absurd rfl y⟩
theorem cm_37 (hw : ab_W o f r) (h : ab_V o f r D) (n : Nat) : cf_X6_canDoMany_s4_37 (nI o) (nI f) (nI r) (ma_R D) (ma_C D) (nI (D 4 0)) (nI (D 4 1)) (nI (D 4 2)) (nI n) = nI (sp_c f r D 13 37 n) ∧ vc_X6_canDoMany_s4_37 (nI o) (nI f) (nI r) (ma_R D) (ma_C D) (nI (D 4 0)) (nI (D 4 1)) (nI (D 4 2)) (nI n) := by
  have c : cf_X6_canDo (nI o) (nI f) (nI r) (ma_R D) (ma_C D) (nI (D 4 0)) (nI (D 4 1)) (nI (D 4 2)) (37 : Int32) = (if sp_can f r D 37 = true then 1 else 0) ∧ vc_X6_canDo (nI o) (nI f) (nI r) (ma_R D) (ma_C D) (nI (D 4 0)) (nI (D 4 1)) (nI (D 4 2)) (37 : Int32) := ms_canDo hw h (k := 37) (by omega)
  unfold cf_X6_canDoMany_s4_37 vc_X6_canDoMany_s4_37
  rw [c.1]
  by_cases q : sp_can f r D 37 = true
  · rw [if_pos q, if_neg (show ¬ (1 : Int32) = 0 by decide +kernel), nI_1]
    have z : sp_c f r D 13 37 n = sp_c f r D 12 38 (n + 1) := by show sp_c f r D 12 38 _ = _; rw [if_pos q]
    rw [z]
    exact ⟨(cm_38 hw h (n + 1)).1, c.2, fun y => absurd y (by decide +kernel), fun _ => (cm_38 hw h (n + 1)).2⟩
  · rw [if_neg q, if_pos rfl]
    have z : sp_c f r D 13 37 n = sp_c f r D 12 38 n := by show sp_c f r D 12 38 _ = _; rw [if_neg q]
    rw [z]
    exact ⟨(cm_38 hw h n).1, c.2, fun _ => (cm_38 hw h n).2, fun y => absurd rfl y⟩
theorem cm_36 (hw : ab_W o f r) (h : ab_V o f r D) (n : Nat) : cf_X6_canDoMany_s4_36 (nI o) (nI f) (nI r) (ma_R D) (ma_C D) (nI (D 4 0)) (nI (D 4 1)) (nI (D 4 2)) (nI n) = nI (sp_c f r D 14 36 n) ∧ vc_X6_canDoMany_s4_36 (nI o) (nI f) (nI r) (ma_R D) (ma_C D) (nI (D 4 0)) (nI (D 4 1)) (nI (D 4 2)) (nI n) := by
  have c : cf_X6_canDo (nI o) (nI f) (nI r) (ma_R D) (ma_C D) (nI (D 4 0)) (nI (D 4 1)) (nI (D 4 2)) (36 : Int32) = (if sp_can f r D 36 = true then 1 else 0) ∧ vc_X6_canDo (nI o) (nI f) (nI r) (ma_R D) (ma_C D) (nI (D 4 0)) (nI (D 4 1)) (nI (D 4 2)) (36 : Int32) := ms_canDo hw h (k := 36) (by omega)
  unfold cf_X6_canDoMany_s4_36 vc_X6_canDoMany_s4_36
  rw [c.1]
  by_cases q : sp_can f r D 36 = true
  · rw [if_pos q, if_neg (show ¬ (1 : Int32) = 0 by decide +kernel), nI_1]
    have z : sp_c f r D 14 36 n = sp_c f r D 13 37 (n + 1) := by show sp_c f r D 13 37 _ = _; rw [if_pos q]
    rw [z]
    exact ⟨(cm_37 hw h (n + 1)).1, c.2, fun y => absurd y (by decide +kernel), fun _ => (cm_37 hw h (n + 1)).2⟩
  · rw [if_neg q, if_pos rfl]
    have z : sp_c f r D 14 36 n = sp_c f r D 13 37 n := by show sp_c f r D 13 37 _ = _; rw [if_neg q]
    rw [z]
    exact ⟨(cm_37 hw h n).1, c.2, fun _ => (cm_37 hw h n).2, fun y => absurd rfl y⟩
theorem cm_35 (hw : ab_W o f r) (h : ab_V o f r D) (n : Nat) : cf_X6_canDoMany_s4_35 (nI o) (nI f) (nI r) (ma_R D) (ma_C D) (nI (D 4 0)) (nI (D 4 1)) (nI (D 4 2)) (nI n) = nI (sp_c f r D 15 35 n) ∧ vc_X6_canDoMany_s4_35 (nI o) (nI f) (nI r) (ma_R D) (ma_C D) (nI (D 4 0)) (nI (D 4 1)) (nI (D 4 2)) (nI n) := by
  have c : cf_X6_canDo (nI o) (nI f) (nI r) (ma_R D) (ma_C D) (nI (D 4 0)) (nI (D 4 1)) (nI (D 4 2)) (35 : Int32) = (if sp_can f r D 35 = true then 1 else 0) ∧ vc_X6_canDo (nI o) (nI f) (nI r) (ma_R D) (ma_C D) (nI (D 4 0)) (nI (D 4 1)) (nI (D 4 2)) (35 : Int32) := ms_canDo hw h (k := 35) (by omega)
  unfold cf_X6_canDoMany_s4_35 vc_X6_canDoMany_s4_35
  rw [c.1]
  by_cases q : sp_can f r D 35 = true
  · rw [if_pos q, if_neg (show ¬ (1 : Int32) = 0 by decide +kernel), nI_1]
    have z : sp_c f r D 15 35 n = sp_c f r D 14 36 (n + 1) := by show sp_c f r D 14 36 _ = _; rw [if_pos q]
    rw [z]
    exact ⟨(cm_36 hw h (n + 1)).1, c.2, fun y => absurd y (by decide +kernel), fun _ => (cm_36 hw h (n + 1)).2⟩
  · rw [if_neg q, if_pos rfl]
    have z : sp_c f r D 15 35 n = sp_c f r D 14 36 n := by show sp_c f r D 14 36 _ = _; rw [if_neg q]
    rw [z]
    exact ⟨(cm_36 hw h n).1, c.2, fun _ => (cm_36 hw h n).2, fun y => absurd rfl y⟩
theorem cm_34 (hw : ab_W o f r) (h : ab_V o f r D) (n : Nat) : cf_X6_canDoMany_s4_34 (nI o) (nI f) (nI r) (ma_R D) (ma_C D) (nI (D 4 0)) (nI (D 4 1)) (nI (D 4 2)) (nI n) = nI (sp_c f r D 16 34 n) ∧ vc_X6_canDoMany_s4_34 (nI o) (nI f) (nI r) (ma_R D) (ma_C D) (nI (D 4 0)) (nI (D 4 1)) (nI (D 4 2)) (nI n) := by
  have c : cf_X6_canDo (nI o) (nI f) (nI r) (ma_R D) (ma_C D) (nI (D 4 0)) (nI (D 4 1)) (nI (D 4 2)) (34 : Int32) = (if sp_can f r D 34 = true then 1 else 0) ∧ vc_X6_canDo (nI o) (nI f) (nI r) (ma_R D) (ma_C D) (nI (D 4 0)) (nI (D 4 1)) (nI (D 4 2)) (34 : Int32) := ms_canDo hw h (k := 34) (by omega)
  unfold cf_X6_canDoMany_s4_34 vc_X6_canDoMany_s4_34
  rw [c.1]
  by_cases q : sp_can f r D 34 = true
  · rw [if_pos q, if_neg (show ¬ (1 : Int32) = 0 by decide +kernel), nI_1]
    have z : sp_c f r D 16 34 n = sp_c f r D 15 35 (n + 1) := by show sp_c f r D 15 35 _ = _; rw [if_pos q]
    rw [z]
    exact ⟨(cm_35 hw h (n + 1)).1, c.2, fun y => absurd y (by decide +kernel), fun _ => (cm_35 hw h (n + 1)).2⟩
  · rw [if_neg q, if_pos rfl]
    have z : sp_c f r D 16 34 n = sp_c f r D 15 35 n := by show sp_c f r D 15 35 _ = _; rw [if_neg q]
    rw [z]
    exact ⟨(cm_35 hw h n).1, c.2, fun _ => (cm_35 hw h n).2, fun y => absurd rfl y⟩
theorem cm_33 (hw : ab_W o f r) (h : ab_V o f r D) (n : Nat) : cf_X6_canDoMany_s4_33 (nI o) (nI f) (nI r) (ma_R D) (ma_C D) (nI (D 4 0)) (nI (D 4 1)) (nI (D 4 2)) (nI n) = nI (sp_c f r D 17 33 n) ∧ vc_X6_canDoMany_s4_33 (nI o) (nI f) (nI r) (ma_R D) (ma_C D) (nI (D 4 0)) (nI (D 4 1)) (nI (D 4 2)) (nI n) := by
  have c : cf_X6_canDo (nI o) (nI f) (nI r) (ma_R D) (ma_C D) (nI (D 4 0)) (nI (D 4 1)) (nI (D 4 2)) (33 : Int32) = (if sp_can f r D 33 = true then 1 else 0) ∧ vc_X6_canDo (nI o) (nI f) (nI r) (ma_R D) (ma_C D) (nI (D 4 0)) (nI (D 4 1)) (nI (D 4 2)) (33 : Int32) := ms_canDo hw h (k := 33) (by omega)
  unfold cf_X6_canDoMany_s4_33 vc_X6_canDoMany_s4_33
  rw [c.1]
  by_cases q : sp_can f r D 33 = true
  · rw [if_pos q, if_neg (show ¬ (1 : Int32) = 0 by decide +kernel), nI_1]
    have z : sp_c f r D 17 33 n = sp_c f r D 16 34 (n + 1) := by show sp_c f r D 16 34 _ = _; rw [if_pos q]
    rw [z]
    exact ⟨(cm_34 hw h (n + 1)).1, c.2, fun y => absurd y (by decide +kernel), fun _ => (cm_34 hw h (n + 1)).2⟩
  · rw [if_neg q, if_pos rfl]
    have z : sp_c f r D 17 33 n = sp_c f r D 16 34 n := by show sp_c f r D 16 34 _ = _; rw [if_neg q]
    rw [z]
    exact ⟨(cm_34 hw h n).1, c.2, fun _ => (cm_34 hw h n).2, fun y => absurd rfl y⟩
theorem cm_32 (hw : ab_W o f r) (h : ab_V o f r D) (n : Nat) : cf_X6_canDoMany_s4_32 (nI o) (nI f) (nI r) (ma_R D) (ma_C D) (nI (D 4 0)) (nI (D 4 1)) (nI (D 4 2)) (nI n) = nI (sp_c f r D 18 32 n) ∧ vc_X6_canDoMany_s4_32 (nI o) (nI f) (nI r) (ma_R D) (ma_C D) (nI (D 4 0)) (nI (D 4 1)) (nI (D 4 2)) (nI n) := by
  have c : cf_X6_canDo (nI o) (nI f) (nI r) (ma_R D) (ma_C D) (nI (D 4 0)) (nI (D 4 1)) (nI (D 4 2)) (32 : Int32) = (if sp_can f r D 32 = true then 1 else 0) ∧ vc_X6_canDo (nI o) (nI f) (nI r) (ma_R D) (ma_C D) (nI (D 4 0)) (nI (D 4 1)) (nI (D 4 2)) (32 : Int32) := ms_canDo hw h (k := 32) (by omega)
  unfold cf_X6_canDoMany_s4_32 vc_X6_canDoMany_s4_32
  rw [c.1]
  by_cases q : sp_can f r D 32 = true
  · rw [if_pos q, if_neg (show ¬ (1 : Int32) = 0 by decide +kernel), nI_1]
    have z : sp_c f r D 18 32 n = sp_c f r D 17 33 (n + 1) := by show sp_c f r D 17 33 _ = _; rw [if_pos q]
    rw [z]
    exact ⟨(cm_33 hw h (n + 1)).1, c.2, fun y => absurd y (by decide +kernel), fun _ => (cm_33 hw h (n + 1)).2⟩
  · rw [if_neg q, if_pos rfl]
    have z : sp_c f r D 18 32 n = sp_c f r D 17 33 n := by show sp_c f r D 17 33 _ = _; rw [if_neg q]
    rw [z]
    exact ⟨(cm_33 hw h n).1, c.2, fun _ => (cm_33 hw h n).2, fun y => absurd rfl y⟩
theorem cm_31 (hw : ab_W o f r) (h : ab_V o f r D) (n : Nat) : cf_X6_canDoMany_s4_31 (nI o) (nI f) (nI r) (ma_R D) (ma_C D) (nI (D 4 0)) (nI (D 4 1)) (nI (D 4 2)) (nI n) = nI (sp_c f r D 19 31 n) ∧ vc_X6_canDoMany_s4_31 (nI o) (nI f) (nI r) (ma_R D) (ma_C D) (nI (D 4 0)) (nI (D 4 1)) (nI (D 4 2)) (nI n) := by
  have c : cf_X6_canDo (nI o) (nI f) (nI r) (ma_R D) (ma_C D) (nI (D 4 0)) (nI (D 4 1)) (nI (D 4 2)) (31 : Int32) = (if sp_can f r D 31 = true then 1 else 0) ∧ vc_X6_canDo (nI o) (nI f) (nI r) (ma_R D) (ma_C D) (nI (D 4 0)) (nI (D 4 1)) (nI (D 4 2)) (31 : Int32) := ms_canDo hw h (k := 31) (by omega)
  unfold cf_X6_canDoMany_s4_31 vc_X6_canDoMany_s4_31
  rw [c.1]
  by_cases q : sp_can f r D 31 = true
  · rw [if_pos q, if_neg (show ¬ (1 : Int32) = 0 by decide +kernel), nI_1]
    have z : sp_c f r D 19 31 n = sp_c f r D 18 32 (n + 1) := by show sp_c f r D 18 32 _ = _; rw [if_pos q]
    rw [z]
    exact ⟨(cm_32 hw h (n + 1)).1, c.2, fun y => absurd y (by decide +kernel), fun _ => (cm_32 hw h (n + 1)).2⟩
  · rw [if_neg q, if_pos rfl]
    have z : sp_c f r D 19 31 n = sp_c f r D 18 32 n := by show sp_c f r D 18 32 _ = _; rw [if_neg q]
    rw [z]
    exact ⟨(cm_32 hw h n).1, c.2, fun _ => (cm_32 hw h n).2, fun y => absurd rfl y⟩
theorem cm_30 (hw : ab_W o f r) (h : ab_V o f r D) (n : Nat) : cf_X6_canDoMany_s4_30 (nI o) (nI f) (nI r) (ma_R D) (ma_C D) (nI (D 4 0)) (nI (D 4 1)) (nI (D 4 2)) (nI n) = nI (sp_c f r D 20 30 n) ∧ vc_X6_canDoMany_s4_30 (nI o) (nI f) (nI r) (ma_R D) (ma_C D) (nI (D 4 0)) (nI (D 4 1)) (nI (D 4 2)) (nI n) := by
  have c : cf_X6_canDo (nI o) (nI f) (nI r) (ma_R D) (ma_C D) (nI (D 4 0)) (nI (D 4 1)) (nI (D 4 2)) (30 : Int32) = (if sp_can f r D 30 = true then 1 else 0) ∧ vc_X6_canDo (nI o) (nI f) (nI r) (ma_R D) (ma_C D) (nI (D 4 0)) (nI (D 4 1)) (nI (D 4 2)) (30 : Int32) := ms_canDo hw h (k := 30) (by omega)
  unfold cf_X6_canDoMany_s4_30 vc_X6_canDoMany_s4_30
  rw [c.1]
  by_cases q : sp_can f r D 30 = true
  · rw [if_pos q, if_neg (show ¬ (1 : Int32) = 0 by decide +kernel), nI_1]
    have z : sp_c f r D 20 30 n = sp_c f r D 19 31 (n + 1) := by show sp_c f r D 19 31 _ = _; rw [if_pos q]
    rw [z]
    exact ⟨(cm_31 hw h (n + 1)).1, c.2, fun y => absurd y (by decide +kernel), fun _ => (cm_31 hw h (n + 1)).2⟩
  · rw [if_neg q, if_pos rfl]
    have z : sp_c f r D 20 30 n = sp_c f r D 19 31 n := by show sp_c f r D 19 31 _ = _; rw [if_neg q]
    rw [z]
    exact ⟨(cm_31 hw h n).1, c.2, fun _ => (cm_31 hw h n).2, fun y => absurd rfl y⟩
theorem cm_29 (hw : ab_W o f r) (h : ab_V o f r D) (n : Nat) : cf_X6_canDoMany_s4_29 (nI o) (nI f) (nI r) (ma_R D) (ma_C D) (nI (D 4 0)) (nI (D 4 1)) (nI (D 4 2)) (nI n) = nI (sp_c f r D 21 29 n) ∧ vc_X6_canDoMany_s4_29 (nI o) (nI f) (nI r) (ma_R D) (ma_C D) (nI (D 4 0)) (nI (D 4 1)) (nI (D 4 2)) (nI n) := by
  have c : cf_X6_canDo (nI o) (nI f) (nI r) (ma_R D) (ma_C D) (nI (D 4 0)) (nI (D 4 1)) (nI (D 4 2)) (29 : Int32) = (if sp_can f r D 29 = true then 1 else 0) ∧ vc_X6_canDo (nI o) (nI f) (nI r) (ma_R D) (ma_C D) (nI (D 4 0)) (nI (D 4 1)) (nI (D 4 2)) (29 : Int32) := ms_canDo hw h (k := 29) (by omega)
  unfold cf_X6_canDoMany_s4_29 vc_X6_canDoMany_s4_29
  rw [c.1]
  by_cases q : sp_can f r D 29 = true
  · rw [if_pos q, if_neg (show ¬ (1 : Int32) = 0 by decide +kernel), nI_1]
    have z : sp_c f r D 21 29 n = sp_c f r D 20 30 (n + 1) := by show sp_c f r D 20 30 _ = _; rw [if_pos q]
    rw [z]
    exact ⟨(cm_30 hw h (n + 1)).1, c.2, fun y => absurd y (by decide +kernel), fun _ => (cm_30 hw h (n + 1)).2⟩
  · rw [if_neg q, if_pos rfl]
    have z : sp_c f r D 21 29 n = sp_c f r D 20 30 n := by show sp_c f r D 20 30 _ = _; rw [if_neg q]
    rw [z]
    exact ⟨(cm_30 hw h n).1, c.2, fun _ => (cm_30 hw h n).2, fun y => absurd rfl y⟩
theorem cm_28 (hw : ab_W o f r) (h : ab_V o f r D) (n : Nat) : cf_X6_canDoMany_s4_28 (nI o) (nI f) (nI r) (ma_R D) (ma_C D) (nI (D 4 0)) (nI (D 4 1)) (nI (D 4 2)) (nI n) = nI (sp_c f r D 22 28 n) ∧ vc_X6_canDoMany_s4_28 (nI o) (nI f) (nI r) (ma_R D) (ma_C D) (nI (D 4 0)) (nI (D 4 1)) (nI (D 4 2)) (nI n) := by
  have c : cf_X6_canDo (nI o) (nI f) (nI r) (ma_R D) (ma_C D) (nI (D 4 0)) (nI (D 4 1)) (nI (D 4 2)) (28 : Int32) = (if sp_can f r D 28 = true then 1 else 0) ∧ vc_X6_canDo (nI o) (nI f) (nI r) (ma_R D) (ma_C D) (nI (D 4 0)) (nI (D 4 1)) (nI (D 4 2)) (28 : Int32) := ms_canDo hw h (k := 28) (by omega)
  unfold cf_X6_canDoMany_s4_28 vc_X6_canDoMany_s4_28
  rw [c.1]
  by_cases q : sp_can f r D 28 = true
  · rw [if_pos q, if_neg (show ¬ (1 : Int32) = 0 by decide +kernel), nI_1]
    have z : sp_c f r D 22 28 n = sp_c f r D 21 29 (n + 1) := by show sp_c f r D 21 29 _ = _; rw [if_pos q]
    rw [z]
    exact ⟨(cm_29 hw h (n + 1)).1, c.2, fun y => absurd y (by decide +kernel), fun _ => (cm_29 hw h (n + 1)).2⟩
  · rw [if_neg q, if_pos rfl]
    have z : sp_c f r D 22 28 n = sp_c f r D 21 29 n := by show sp_c f r D 21 29 _ = _; rw [if_neg q]
    rw [z]
    exact ⟨(cm_29 hw h n).1, c.2, fun _ => (cm_29 hw h n).2, fun y => absurd rfl y⟩
theorem cm_27 (hw : ab_W o f r) (h : ab_V o f r D) (n : Nat) : cf_X6_canDoMany_s4_27 (nI o) (nI f) (nI r) (ma_R D) (ma_C D) (nI (D 4 0)) (nI (D 4 1)) (nI (D 4 2)) (nI n) = nI (sp_c f r D 23 27 n) ∧ vc_X6_canDoMany_s4_27 (nI o) (nI f) (nI r) (ma_R D) (ma_C D) (nI (D 4 0)) (nI (D 4 1)) (nI (D 4 2)) (nI n) := by
  have c : cf_X6_canDo (nI o) (nI f) (nI r) (ma_R D) (ma_C D) (nI (D 4 0)) (nI (D 4 1)) (nI (D 4 2)) (27 : Int32) = (if sp_can f r D 27 = true then 1 else 0) ∧ vc_X6_canDo (nI o) (nI f) (nI r) (ma_R D) (ma_C D) (nI (D 4 0)) (nI (D 4 1)) (nI (D 4 2)) (27 : Int32) := ms_canDo hw h (k := 27) (by omega)
  unfold cf_X6_canDoMany_s4_27 vc_X6_canDoMany_s4_27
  rw [c.1]
  by_cases q : sp_can f r D 27 = true
  · rw [if_pos q, if_neg (show ¬ (1 : Int32) = 0 by decide +kernel), nI_1]
    have z : sp_c f r D 23 27 n = sp_c f r D 22 28 (n + 1) := by show sp_c f r D 22 28 _ = _; rw [if_pos q]
    rw [z]
    exact ⟨(cm_28 hw h (n + 1)).1, c.2, fun y => absurd y (by decide +kernel), fun _ => (cm_28 hw h (n + 1)).2⟩
  · rw [if_neg q, if_pos rfl]
    have z : sp_c f r D 23 27 n = sp_c f r D 22 28 n := by show sp_c f r D 22 28 _ = _; rw [if_neg q]
    rw [z]
    exact ⟨(cm_28 hw h n).1, c.2, fun _ => (cm_28 hw h n).2, fun y => absurd rfl y⟩
theorem cm_26 (hw : ab_W o f r) (h : ab_V o f r D) (n : Nat) : cf_X6_canDoMany_s4_26 (nI o) (nI f) (nI r) (ma_R D) (ma_C D) (nI (D 4 0)) (nI (D 4 1)) (nI (D 4 2)) (nI n) = nI (sp_c f r D 24 26 n) ∧ vc_X6_canDoMany_s4_26 (nI o) (nI f) (nI r) (ma_R D) (ma_C D) (nI (D 4 0)) (nI (D 4 1)) (nI (D 4 2)) (nI n) := by
  have c : cf_X6_canDo (nI o) (nI f) (nI r) (ma_R D) (ma_C D) (nI (D 4 0)) (nI (D 4 1)) (nI (D 4 2)) (26 : Int32) = (if sp_can f r D 26 = true then 1 else 0) ∧ vc_X6_canDo (nI o) (nI f) (nI r) (ma_R D) (ma_C D) (nI (D 4 0)) (nI (D 4 1)) (nI (D 4 2)) (26 : Int32) := ms_canDo hw h (k := 26) (by omega)
  unfold cf_X6_canDoMany_s4_26 vc_X6_canDoMany_s4_26
  rw [c.1]
  by_cases q : sp_can f r D 26 = true
  · rw [if_pos q, if_neg (show ¬ (1 : Int32) = 0 by decide +kernel), nI_1]
    have z : sp_c f r D 24 26 n = sp_c f r D 23 27 (n + 1) := by show sp_c f r D 23 27 _ = _; rw [if_pos q]
    rw [z]
    exact ⟨(cm_27 hw h (n + 1)).1, c.2, fun y => absurd y (by decide +kernel), fun _ => (cm_27 hw h (n + 1)).2⟩
  · rw [if_neg q, if_pos rfl]
    have z : sp_c f r D 24 26 n = sp_c f r D 23 27 n := by show sp_c f r D 23 27 _ = _; rw [if_neg q]
    rw [z]
    exact ⟨(cm_27 hw h n).1, c.2, fun _ => (cm_27 hw h n).2, fun y => absurd rfl y⟩
theorem cm_25 (hw : ab_W o f r) (h : ab_V o f r D) (n : Nat) : cf_X6_canDoMany_s4_25 (nI o) (nI f) (nI r) (ma_R D) (ma_C D) (nI (D 4 0)) (nI (D 4 1)) (nI (D 4 2)) (nI n) = nI (sp_c f r D 25 25 n) ∧ vc_X6_canDoMany_s4_25 (nI o) (nI f) (nI r) (ma_R D) (ma_C D) (nI (D 4 0)) (nI (D 4 1)) (nI (D 4 2)) (nI n) := by
  have c : cf_X6_canDo (nI o) (nI f) (nI r) (ma_R D) (ma_C D) (nI (D 4 0)) (nI (D 4 1)) (nI (D 4 2)) (25 : Int32) = (if sp_can f r D 25 = true then 1 else 0) ∧ vc_X6_canDo (nI o) (nI f) (nI r) (ma_R D) (ma_C D) (nI (D 4 0)) (nI (D 4 1)) (nI (D 4 2)) (25 : Int32) := ms_canDo hw h (k := 25) (by omega)
  unfold cf_X6_canDoMany_s4_25 vc_X6_canDoMany_s4_25
  rw [c.1]
  by_cases q : sp_can f r D 25 = true
  · rw [if_pos q, if_neg (show ¬ (1 : Int32) = 0 by decide +kernel), nI_1]
    have z : sp_c f r D 25 25 n = sp_c f r D 24 26 (n + 1) := by show sp_c f r D 24 26 _ = _; rw [if_pos q]
    rw [z]
    exact ⟨(cm_26 hw h (n + 1)).1, c.2, fun y => absurd y (by decide +kernel), fun _ => (cm_26 hw h (n + 1)).2⟩
  · rw [if_neg q, if_pos rfl]
    have z : sp_c f r D 25 25 n = sp_c f r D 24 26 n := by show sp_c f r D 24 26 _ = _; rw [if_neg q]
    rw [z]
    exact ⟨(cm_26 hw h n).1, c.2, fun _ => (cm_26 hw h n).2, fun y => absurd rfl y⟩
theorem cm_24 (hw : ab_W o f r) (h : ab_V o f r D) (n : Nat) : cf_X6_canDoMany_s4_24 (nI o) (nI f) (nI r) (ma_R D) (ma_C D) (nI (D 4 0)) (nI (D 4 1)) (nI (D 4 2)) (nI n) = nI (sp_c f r D 26 24 n) ∧ vc_X6_canDoMany_s4_24 (nI o) (nI f) (nI r) (ma_R D) (ma_C D) (nI (D 4 0)) (nI (D 4 1)) (nI (D 4 2)) (nI n) := by
  have c : cf_X6_canDo (nI o) (nI f) (nI r) (ma_R D) (ma_C D) (nI (D 4 0)) (nI (D 4 1)) (nI (D 4 2)) (24 : Int32) = (if sp_can f r D 24 = true then 1 else 0) ∧ vc_X6_canDo (nI o) (nI f) (nI r) (ma_R D) (ma_C D) (nI (D 4 0)) (nI (D 4 1)) (nI (D 4 2)) (24 : Int32) := ms_canDo hw h (k := 24) (by omega)
  unfold cf_X6_canDoMany_s4_24 vc_X6_canDoMany_s4_24
  rw [c.1]
  by_cases q : sp_can f r D 24 = true
  · rw [if_pos q, if_neg (show ¬ (1 : Int32) = 0 by decide +kernel), nI_1]
    have z : sp_c f r D 26 24 n = sp_c f r D 25 25 (n + 1) := by show sp_c f r D 25 25 _ = _; rw [if_pos q]
    rw [z]
    exact ⟨(cm_25 hw h (n + 1)).1, c.2, fun y => absurd y (by decide +kernel), fun _ => (cm_25 hw h (n + 1)).2⟩
  · rw [if_neg q, if_pos rfl]
    have z : sp_c f r D 26 24 n = sp_c f r D 25 25 n := by show sp_c f r D 25 25 _ = _; rw [if_neg q]
    rw [z]
    exact ⟨(cm_25 hw h n).1, c.2, fun _ => (cm_25 hw h n).2, fun y => absurd rfl y⟩
theorem cm_23 (hw : ab_W o f r) (h : ab_V o f r D) (n : Nat) : cf_X6_canDoMany_s4_23 (nI o) (nI f) (nI r) (ma_R D) (ma_C D) (nI (D 4 0)) (nI (D 4 1)) (nI (D 4 2)) (nI n) = nI (sp_c f r D 27 23 n) ∧ vc_X6_canDoMany_s4_23 (nI o) (nI f) (nI r) (ma_R D) (ma_C D) (nI (D 4 0)) (nI (D 4 1)) (nI (D 4 2)) (nI n) := by
  have c : cf_X6_canDo (nI o) (nI f) (nI r) (ma_R D) (ma_C D) (nI (D 4 0)) (nI (D 4 1)) (nI (D 4 2)) (23 : Int32) = (if sp_can f r D 23 = true then 1 else 0) ∧ vc_X6_canDo (nI o) (nI f) (nI r) (ma_R D) (ma_C D) (nI (D 4 0)) (nI (D 4 1)) (nI (D 4 2)) (23 : Int32) := ms_canDo hw h (k := 23) (by omega)
  unfold cf_X6_canDoMany_s4_23 vc_X6_canDoMany_s4_23
  rw [c.1]
  by_cases q : sp_can f r D 23 = true
  · rw [if_pos q, if_neg (show ¬ (1 : Int32) = 0 by decide +kernel), nI_1]
    have z : sp_c f r D 27 23 n = sp_c f r D 26 24 (n + 1) := by show sp_c f r D 26 24 _ = _; rw [if_pos q]
    rw [z]
    exact ⟨(cm_24 hw h (n + 1)).1, c.2, fun y => absurd y (by decide +kernel), fun _ => (cm_24 hw h (n + 1)).2⟩
  · rw [if_neg q, if_pos rfl]
    have z : sp_c f r D 27 23 n = sp_c f r D 26 24 n := by show sp_c f r D 26 24 _ = _; rw [if_neg q]
    rw [z]
    exact ⟨(cm_24 hw h n).1, c.2, fun _ => (cm_24 hw h n).2, fun y => absurd rfl y⟩
theorem cm_22 (hw : ab_W o f r) (h : ab_V o f r D) (n : Nat) : cf_X6_canDoMany_s4_22 (nI o) (nI f) (nI r) (ma_R D) (ma_C D) (nI (D 4 0)) (nI (D 4 1)) (nI (D 4 2)) (nI n) = nI (sp_c f r D 28 22 n) ∧ vc_X6_canDoMany_s4_22 (nI o) (nI f) (nI r) (ma_R D) (ma_C D) (nI (D 4 0)) (nI (D 4 1)) (nI (D 4 2)) (nI n) := by
  have c : cf_X6_canDo (nI o) (nI f) (nI r) (ma_R D) (ma_C D) (nI (D 4 0)) (nI (D 4 1)) (nI (D 4 2)) (22 : Int32) = (if sp_can f r D 22 = true then 1 else 0) ∧ vc_X6_canDo (nI o) (nI f) (nI r) (ma_R D) (ma_C D) (nI (D 4 0)) (nI (D 4 1)) (nI (D 4 2)) (22 : Int32) := ms_canDo hw h (k := 22) (by omega)
  unfold cf_X6_canDoMany_s4_22 vc_X6_canDoMany_s4_22
  rw [c.1]
  by_cases q : sp_can f r D 22 = true
  · rw [if_pos q, if_neg (show ¬ (1 : Int32) = 0 by decide +kernel), nI_1]
    have z : sp_c f r D 28 22 n = sp_c f r D 27 23 (n + 1) := by show sp_c f r D 27 23 _ = _; rw [if_pos q]
    rw [z]
    exact ⟨(cm_23 hw h (n + 1)).1, c.2, fun y => absurd y (by decide +kernel), fun _ => (cm_23 hw h (n + 1)).2⟩
  · rw [if_neg q, if_pos rfl]
    have z : sp_c f r D 28 22 n = sp_c f r D 27 23 n := by show sp_c f r D 27 23 _ = _; rw [if_neg q]
    rw [z]
    exact ⟨(cm_23 hw h n).1, c.2, fun _ => (cm_23 hw h n).2, fun y => absurd rfl y⟩
theorem cm_21 (hw : ab_W o f r) (h : ab_V o f r D) (n : Nat) : cf_X6_canDoMany_s4_21 (nI o) (nI f) (nI r) (ma_R D) (ma_C D) (nI (D 4 0)) (nI (D 4 1)) (nI (D 4 2)) (nI n) = nI (sp_c f r D 29 21 n) ∧ vc_X6_canDoMany_s4_21 (nI o) (nI f) (nI r) (ma_R D) (ma_C D) (nI (D 4 0)) (nI (D 4 1)) (nI (D 4 2)) (nI n) := by
  have c : cf_X6_canDo (nI o) (nI f) (nI r) (ma_R D) (ma_C D) (nI (D 4 0)) (nI (D 4 1)) (nI (D 4 2)) (21 : Int32) = (if sp_can f r D 21 = true then 1 else 0) ∧ vc_X6_canDo (nI o) (nI f) (nI r) (ma_R D) (ma_C D) (nI (D 4 0)) (nI (D 4 1)) (nI (D 4 2)) (21 : Int32) := ms_canDo hw h (k := 21) (by omega)
  unfold cf_X6_canDoMany_s4_21 vc_X6_canDoMany_s4_21
  rw [c.1]
  by_cases q : sp_can f r D 21 = true
  · rw [if_pos q, if_neg (show ¬ (1 : Int32) = 0 by decide +kernel), nI_1]
    have z : sp_c f r D 29 21 n = sp_c f r D 28 22 (n + 1) := by show sp_c f r D 28 22 _ = _; rw [if_pos q]
    rw [z]
    exact ⟨(cm_22 hw h (n + 1)).1, c.2, fun y => absurd y (by decide +kernel), fun _ => (cm_22 hw h (n + 1)).2⟩
  · rw [if_neg q, if_pos rfl]
    have z : sp_c f r D 29 21 n = sp_c f r D 28 22 n := by show sp_c f r D 28 22 _ = _; rw [if_neg q]
    rw [z]
    exact ⟨(cm_22 hw h n).1, c.2, fun _ => (cm_22 hw h n).2, fun y => absurd rfl y⟩
theorem cm_20 (hw : ab_W o f r) (h : ab_V o f r D) (n : Nat) : cf_X6_canDoMany_s4_20 (nI o) (nI f) (nI r) (ma_R D) (ma_C D) (nI (D 4 0)) (nI (D 4 1)) (nI (D 4 2)) (nI n) = nI (sp_c f r D 30 20 n) ∧ vc_X6_canDoMany_s4_20 (nI o) (nI f) (nI r) (ma_R D) (ma_C D) (nI (D 4 0)) (nI (D 4 1)) (nI (D 4 2)) (nI n) := by
  have c : cf_X6_canDo (nI o) (nI f) (nI r) (ma_R D) (ma_C D) (nI (D 4 0)) (nI (D 4 1)) (nI (D 4 2)) (20 : Int32) = (if sp_can f r D 20 = true then 1 else 0) ∧ vc_X6_canDo (nI o) (nI f) (nI r) (ma_R D) (ma_C D) (nI (D 4 0)) (nI (D 4 1)) (nI (D 4 2)) (20 : Int32) := ms_canDo hw h (k := 20) (by omega)
  unfold cf_X6_canDoMany_s4_20 vc_X6_canDoMany_s4_20
  rw [c.1]
  by_cases q : sp_can f r D 20 = true
  · rw [if_pos q, if_neg (show ¬ (1 : Int32) = 0 by decide +kernel), nI_1]
    have z : sp_c f r D 30 20 n = sp_c f r D 29 21 (n + 1) := by show sp_c f r D 29 21 _ = _; rw [if_pos q]
    rw [z]
    exact ⟨(cm_21 hw h (n + 1)).1, c.2, fun y => absurd y (by decide +kernel), fun _ => (cm_21 hw h (n + 1)).2⟩
  · rw [if_neg q, if_pos rfl]
    have z : sp_c f r D 30 20 n = sp_c f r D 29 21 n := by show sp_c f r D 29 21 _ = _; rw [if_neg q]
    rw [z]
    exact ⟨(cm_21 hw h n).1, c.2, fun _ => (cm_21 hw h n).2, fun y => absurd rfl y⟩
theorem cm_19 (hw : ab_W o f r) (h : ab_V o f r D) (n : Nat) : cf_X6_canDoMany_s4_19 (nI o) (nI f) (nI r) (ma_R D) (ma_C D) (nI (D 4 0)) (nI (D 4 1)) (nI (D 4 2)) (nI n) = nI (sp_c f r D 31 19 n) ∧ vc_X6_canDoMany_s4_19 (nI o) (nI f) (nI r) (ma_R D) (ma_C D) (nI (D 4 0)) (nI (D 4 1)) (nI (D 4 2)) (nI n) := by
  have c : cf_X6_canDo (nI o) (nI f) (nI r) (ma_R D) (ma_C D) (nI (D 4 0)) (nI (D 4 1)) (nI (D 4 2)) (19 : Int32) = (if sp_can f r D 19 = true then 1 else 0) ∧ vc_X6_canDo (nI o) (nI f) (nI r) (ma_R D) (ma_C D) (nI (D 4 0)) (nI (D 4 1)) (nI (D 4 2)) (19 : Int32) := ms_canDo hw h (k := 19) (by omega)
  unfold cf_X6_canDoMany_s4_19 vc_X6_canDoMany_s4_19
  rw [c.1]
  by_cases q : sp_can f r D 19 = true
  · rw [if_pos q, if_neg (show ¬ (1 : Int32) = 0 by decide +kernel), nI_1]
    have z : sp_c f r D 31 19 n = sp_c f r D 30 20 (n + 1) := by show sp_c f r D 30 20 _ = _; rw [if_pos q]
    rw [z]
    exact ⟨(cm_20 hw h (n + 1)).1, c.2, fun y => absurd y (by decide +kernel), fun _ => (cm_20 hw h (n + 1)).2⟩
  · rw [if_neg q, if_pos rfl]
    have z : sp_c f r D 31 19 n = sp_c f r D 30 20 n := by show sp_c f r D 30 20 _ = _; rw [if_neg q]
    rw [z]
    exact ⟨(cm_20 hw h n).1, c.2, fun _ => (cm_20 hw h n).2, fun y => absurd rfl y⟩
theorem cm_18 (hw : ab_W o f r) (h : ab_V o f r D) (n : Nat) : cf_X6_canDoMany_s4_18 (nI o) (nI f) (nI r) (ma_R D) (ma_C D) (nI (D 4 0)) (nI (D 4 1)) (nI (D 4 2)) (nI n) = nI (sp_c f r D 32 18 n) ∧ vc_X6_canDoMany_s4_18 (nI o) (nI f) (nI r) (ma_R D) (ma_C D) (nI (D 4 0)) (nI (D 4 1)) (nI (D 4 2)) (nI n) := by
  have c : cf_X6_canDo (nI o) (nI f) (nI r) (ma_R D) (ma_C D) (nI (D 4 0)) (nI (D 4 1)) (nI (D 4 2)) (18 : Int32) = (if sp_can f r D 18 = true then 1 else 0) ∧ vc_X6_canDo (nI o) (nI f) (nI r) (ma_R D) (ma_C D) (nI (D 4 0)) (nI (D 4 1)) (nI (D 4 2)) (18 : Int32) := ms_canDo hw h (k := 18) (by omega)
  unfold cf_X6_canDoMany_s4_18 vc_X6_canDoMany_s4_18
  rw [c.1]
  by_cases q : sp_can f r D 18 = true
  · rw [if_pos q, if_neg (show ¬ (1 : Int32) = 0 by decide +kernel), nI_1]
    have z : sp_c f r D 32 18 n = sp_c f r D 31 19 (n + 1) := by show sp_c f r D 31 19 _ = _; rw [if_pos q]
    rw [z]
    exact ⟨(cm_19 hw h (n + 1)).1, c.2, fun y => absurd y (by decide +kernel), fun _ => (cm_19 hw h (n + 1)).2⟩
  · rw [if_neg q, if_pos rfl]
    have z : sp_c f r D 32 18 n = sp_c f r D 31 19 n := by show sp_c f r D 31 19 _ = _; rw [if_neg q]
    rw [z]
    exact ⟨(cm_19 hw h n).1, c.2, fun _ => (cm_19 hw h n).2, fun y => absurd rfl y⟩
theorem cm_17 (hw : ab_W o f r) (h : ab_V o f r D) (n : Nat) : cf_X6_canDoMany_s4_17 (nI o) (nI f) (nI r) (ma_R D) (ma_C D) (nI (D 4 0)) (nI (D 4 1)) (nI (D 4 2)) (nI n) = nI (sp_c f r D 33 17 n) ∧ vc_X6_canDoMany_s4_17 (nI o) (nI f) (nI r) (ma_R D) (ma_C D) (nI (D 4 0)) (nI (D 4 1)) (nI (D 4 2)) (nI n) := by
  have c : cf_X6_canDo (nI o) (nI f) (nI r) (ma_R D) (ma_C D) (nI (D 4 0)) (nI (D 4 1)) (nI (D 4 2)) (17 : Int32) = (if sp_can f r D 17 = true then 1 else 0) ∧ vc_X6_canDo (nI o) (nI f) (nI r) (ma_R D) (ma_C D) (nI (D 4 0)) (nI (D 4 1)) (nI (D 4 2)) (17 : Int32) := ms_canDo hw h (k := 17) (by omega)
  unfold cf_X6_canDoMany_s4_17 vc_X6_canDoMany_s4_17
  rw [c.1]
  by_cases q : sp_can f r D 17 = true
  · rw [if_pos q, if_neg (show ¬ (1 : Int32) = 0 by decide +kernel), nI_1]
    have z : sp_c f r D 33 17 n = sp_c f r D 32 18 (n + 1) := by show sp_c f r D 32 18 _ = _; rw [if_pos q]
    rw [z]
    exact ⟨(cm_18 hw h (n + 1)).1, c.2, fun y => absurd y (by decide +kernel), fun _ => (cm_18 hw h (n + 1)).2⟩
  · rw [if_neg q, if_pos rfl]
    have z : sp_c f r D 33 17 n = sp_c f r D 32 18 n := by show sp_c f r D 32 18 _ = _; rw [if_neg q]
    rw [z]
    exact ⟨(cm_18 hw h n).1, c.2, fun _ => (cm_18 hw h n).2, fun y => absurd rfl y⟩
theorem cm_16 (hw : ab_W o f r) (h : ab_V o f r D) (n : Nat) : cf_X6_canDoMany_s4_16 (nI o) (nI f) (nI r) (ma_R D) (ma_C D) (nI (D 4 0)) (nI (D 4 1)) (nI (D 4 2)) (nI n) = nI (sp_c f r D 34 16 n) ∧ vc_X6_canDoMany_s4_16 (nI o) (nI f) (nI r) (ma_R D) (ma_C D) (nI (D 4 0)) (nI (D 4 1)) (nI (D 4 2)) (nI n) := by
  have c : cf_X6_canDo (nI o) (nI f) (nI r) (ma_R D) (ma_C D) (nI (D 4 0)) (nI (D 4 1)) (nI (D 4 2)) (16 : Int32) = (if sp_can f r D 16 = true then 1 else 0) ∧ vc_X6_canDo (nI o) (nI f) (nI r) (ma_R D) (ma_C D) (nI (D 4 0)) (nI (D 4 1)) (nI (D 4 2)) (16 : Int32) := ms_canDo hw h (k := 16) (by omega)
  unfold cf_X6_canDoMany_s4_16 vc_X6_canDoMany_s4_16
  rw [c.1]
  by_cases q : sp_can f r D 16 = true
  · rw [if_pos q, if_neg (show ¬ (1 : Int32) = 0 by decide +kernel), nI_1]
    have z : sp_c f r D 34 16 n = sp_c f r D 33 17 (n + 1) := by show sp_c f r D 33 17 _ = _; rw [if_pos q]
    rw [z]
    exact ⟨(cm_17 hw h (n + 1)).1, c.2, fun y => absurd y (by decide +kernel), fun _ => (cm_17 hw h (n + 1)).2⟩
  · rw [if_neg q, if_pos rfl]
    have z : sp_c f r D 34 16 n = sp_c f r D 33 17 n := by show sp_c f r D 33 17 _ = _; rw [if_neg q]
    rw [z]
    exact ⟨(cm_17 hw h n).1, c.2, fun _ => (cm_17 hw h n).2, fun y => absurd rfl y⟩
theorem cm_15 (hw : ab_W o f r) (h : ab_V o f r D) (n : Nat) : cf_X6_canDoMany_s4_15 (nI o) (nI f) (nI r) (ma_R D) (ma_C D) (nI (D 4 0)) (nI (D 4 1)) (nI (D 4 2)) (nI n) = nI (sp_c f r D 35 15 n) ∧ vc_X6_canDoMany_s4_15 (nI o) (nI f) (nI r) (ma_R D) (ma_C D) (nI (D 4 0)) (nI (D 4 1)) (nI (D 4 2)) (nI n) := by
  have c : cf_X6_canDo (nI o) (nI f) (nI r) (ma_R D) (ma_C D) (nI (D 4 0)) (nI (D 4 1)) (nI (D 4 2)) (15 : Int32) = (if sp_can f r D 15 = true then 1 else 0) ∧ vc_X6_canDo (nI o) (nI f) (nI r) (ma_R D) (ma_C D) (nI (D 4 0)) (nI (D 4 1)) (nI (D 4 2)) (15 : Int32) := ms_canDo hw h (k := 15) (by omega)
  unfold cf_X6_canDoMany_s4_15 vc_X6_canDoMany_s4_15
  rw [c.1]
  by_cases q : sp_can f r D 15 = true
  · rw [if_pos q, if_neg (show ¬ (1 : Int32) = 0 by decide +kernel), nI_1]
    have z : sp_c f r D 35 15 n = sp_c f r D 34 16 (n + 1) := by show sp_c f r D 34 16 _ = _; rw [if_pos q]
    rw [z]
    exact ⟨(cm_16 hw h (n + 1)).1, c.2, fun y => absurd y (by decide +kernel), fun _ => (cm_16 hw h (n + 1)).2⟩
  · rw [if_neg q, if_pos rfl]
    have z : sp_c f r D 35 15 n = sp_c f r D 34 16 n := by show sp_c f r D 34 16 _ = _; rw [if_neg q]
    rw [z]
    exact ⟨(cm_16 hw h n).1, c.2, fun _ => (cm_16 hw h n).2, fun y => absurd rfl y⟩
theorem cm_14 (hw : ab_W o f r) (h : ab_V o f r D) (n : Nat) : cf_X6_canDoMany_s4_14 (nI o) (nI f) (nI r) (ma_R D) (ma_C D) (nI (D 4 0)) (nI (D 4 1)) (nI (D 4 2)) (nI n) = nI (sp_c f r D 36 14 n) ∧ vc_X6_canDoMany_s4_14 (nI o) (nI f) (nI r) (ma_R D) (ma_C D) (nI (D 4 0)) (nI (D 4 1)) (nI (D 4 2)) (nI n) := by
  have c : cf_X6_canDo (nI o) (nI f) (nI r) (ma_R D) (ma_C D) (nI (D 4 0)) (nI (D 4 1)) (nI (D 4 2)) (14 : Int32) = (if sp_can f r D 14 = true then 1 else 0) ∧ vc_X6_canDo (nI o) (nI f) (nI r) (ma_R D) (ma_C D) (nI (D 4 0)) (nI (D 4 1)) (nI (D 4 2)) (14 : Int32) := ms_canDo hw h (k := 14) (by omega)
  unfold cf_X6_canDoMany_s4_14 vc_X6_canDoMany_s4_14
  rw [c.1]
  by_cases q : sp_can f r D 14 = true
  · rw [if_pos q, if_neg (show ¬ (1 : Int32) = 0 by decide +kernel), nI_1]
    have z : sp_c f r D 36 14 n = sp_c f r D 35 15 (n + 1) := by show sp_c f r D 35 15 _ = _; rw [if_pos q]
    rw [z]
    exact ⟨(cm_15 hw h (n + 1)).1, c.2, fun y => absurd y (by decide +kernel), fun _ => (cm_15 hw h (n + 1)).2⟩
  · rw [if_neg q, if_pos rfl]
    have z : sp_c f r D 36 14 n = sp_c f r D 35 15 n := by show sp_c f r D 35 15 _ = _; rw [if_neg q]
    rw [z]
    exact ⟨(cm_15 hw h n).1, c.2, fun _ => (cm_15 hw h n).2, fun y => absurd rfl y⟩
theorem cm_13 (hw : ab_W o f r) (h : ab_V o f r D) (n : Nat) : cf_X6_canDoMany_s4_13 (nI o) (nI f) (nI r) (ma_R D) (ma_C D) (nI (D 4 0)) (nI (D 4 1)) (nI (D 4 2)) (nI n) = nI (sp_c f r D 37 13 n) ∧ vc_X6_canDoMany_s4_13 (nI o) (nI f) (nI r) (ma_R D) (ma_C D) (nI (D 4 0)) (nI (D 4 1)) (nI (D 4 2)) (nI n) := by
  have c : cf_X6_canDo (nI o) (nI f) (nI r) (ma_R D) (ma_C D) (nI (D 4 0)) (nI (D 4 1)) (nI (D 4 2)) (13 : Int32) = (if sp_can f r D 13 = true then 1 else 0) ∧ vc_X6_canDo (nI o) (nI f) (nI r) (ma_R D) (ma_C D) (nI (D 4 0)) (nI (D 4 1)) (nI (D 4 2)) (13 : Int32) := ms_canDo hw h (k := 13) (by omega)
  unfold cf_X6_canDoMany_s4_13 vc_X6_canDoMany_s4_13
  rw [c.1]
  by_cases q : sp_can f r D 13 = true
  · rw [if_pos q, if_neg (show ¬ (1 : Int32) = 0 by decide +kernel), nI_1]
    have z : sp_c f r D 37 13 n = sp_c f r D 36 14 (n + 1) := by show sp_c f r D 36 14 _ = _; rw [if_pos q]
    rw [z]
    exact ⟨(cm_14 hw h (n + 1)).1, c.2, fun y => absurd y (by decide +kernel), fun _ => (cm_14 hw h (n + 1)).2⟩
  · rw [if_neg q, if_pos rfl]
    have z : sp_c f r D 37 13 n = sp_c f r D 36 14 n := by show sp_c f r D 36 14 _ = _; rw [if_neg q]
    rw [z]
    exact ⟨(cm_14 hw h n).1, c.2, fun _ => (cm_14 hw h n).2, fun y => absurd rfl y⟩
theorem cm_12 (hw : ab_W o f r) (h : ab_V o f r D) (n : Nat) : cf_X6_canDoMany_s4_12 (nI o) (nI f) (nI r) (ma_R D) (ma_C D) (nI (D 4 0)) (nI (D 4 1)) (nI (D 4 2)) (nI n) = nI (sp_c f r D 38 12 n) ∧ vc_X6_canDoMany_s4_12 (nI o) (nI f) (nI r) (ma_R D) (ma_C D) (nI (D 4 0)) (nI (D 4 1)) (nI (D 4 2)) (nI n) := by
  have c : cf_X6_canDo (nI o) (nI f) (nI r) (ma_R D) (ma_C D) (nI (D 4 0)) (nI (D 4 1)) (nI (D 4 2)) (12 : Int32) = (if sp_can f r D 12 = true then 1 else 0) ∧ vc_X6_canDo (nI o) (nI f) (nI r) (ma_R D) (ma_C D) (nI (D 4 0)) (nI (D 4 1)) (nI (D 4 2)) (12 : Int32) := ms_canDo hw h (k := 12) (by omega)
  unfold cf_X6_canDoMany_s4_12 vc_X6_canDoMany_s4_12
  rw [c.1]
  by_cases q : sp_can f r D 12 = true
  · rw [if_pos q, if_neg (show ¬ (1 : Int32) = 0 by decide +kernel), nI_1]
    have z : sp_c f r D 38 12 n = sp_c f r D 37 13 (n + 1) := by show sp_c f r D 37 13 _ = _; rw [if_pos q]
    rw [z]
    exact ⟨(cm_13 hw h (n + 1)).1, c.2, fun y => absurd y (by decide +kernel), fun _ => (cm_13 hw h (n + 1)).2⟩
  · rw [if_neg q, if_pos rfl]
    have z : sp_c f r D 38 12 n = sp_c f r D 37 13 n := by show sp_c f r D 37 13 _ = _; rw [if_neg q]
    rw [z]
    exact ⟨(cm_13 hw h n).1, c.2, fun _ => (cm_13 hw h n).2, fun y => absurd rfl y⟩
theorem cm_11 (hw : ab_W o f r) (h : ab_V o f r D) (n : Nat) : cf_X6_canDoMany_s4_11 (nI o) (nI f) (nI r) (ma_R D) (ma_C D) (nI (D 4 0)) (nI (D 4 1)) (nI (D 4 2)) (nI n) = nI (sp_c f r D 39 11 n) ∧ vc_X6_canDoMany_s4_11 (nI o) (nI f) (nI r) (ma_R D) (ma_C D) (nI (D 4 0)) (nI (D 4 1)) (nI (D 4 2)) (nI n) := by
  have c : cf_X6_canDo (nI o) (nI f) (nI r) (ma_R D) (ma_C D) (nI (D 4 0)) (nI (D 4 1)) (nI (D 4 2)) (11 : Int32) = (if sp_can f r D 11 = true then 1 else 0) ∧ vc_X6_canDo (nI o) (nI f) (nI r) (ma_R D) (ma_C D) (nI (D 4 0)) (nI (D 4 1)) (nI (D 4 2)) (11 : Int32) := ms_canDo hw h (k := 11) (by omega)
  unfold cf_X6_canDoMany_s4_11 vc_X6_canDoMany_s4_11
  rw [c.1]
  by_cases q : sp_can f r D 11 = true
  · rw [if_pos q, if_neg (show ¬ (1 : Int32) = 0 by decide +kernel), nI_1]
    have z : sp_c f r D 39 11 n = sp_c f r D 38 12 (n + 1) := by show sp_c f r D 38 12 _ = _; rw [if_pos q]
    rw [z]
    exact ⟨(cm_12 hw h (n + 1)).1, c.2, fun y => absurd y (by decide +kernel), fun _ => (cm_12 hw h (n + 1)).2⟩
  · rw [if_neg q, if_pos rfl]
    have z : sp_c f r D 39 11 n = sp_c f r D 38 12 n := by show sp_c f r D 38 12 _ = _; rw [if_neg q]
    rw [z]
    exact ⟨(cm_12 hw h n).1, c.2, fun _ => (cm_12 hw h n).2, fun y => absurd rfl y⟩
theorem cm_10 (hw : ab_W o f r) (h : ab_V o f r D) (n : Nat) : cf_X6_canDoMany_s4_10 (nI o) (nI f) (nI r) (ma_R D) (ma_C D) (nI (D 4 0)) (nI (D 4 1)) (nI (D 4 2)) (nI n) = nI (sp_c f r D 40 10 n) ∧ vc_X6_canDoMany_s4_10 (nI o) (nI f) (nI r) (ma_R D) (ma_C D) (nI (D 4 0)) (nI (D 4 1)) (nI (D 4 2)) (nI n) := by
  have c : cf_X6_canDo (nI o) (nI f) (nI r) (ma_R D) (ma_C D) (nI (D 4 0)) (nI (D 4 1)) (nI (D 4 2)) (10 : Int32) = (if sp_can f r D 10 = true then 1 else 0) ∧ vc_X6_canDo (nI o) (nI f) (nI r) (ma_R D) (ma_C D) (nI (D 4 0)) (nI (D 4 1)) (nI (D 4 2)) (10 : Int32) := ms_canDo hw h (k := 10) (by omega)
  unfold cf_X6_canDoMany_s4_10 vc_X6_canDoMany_s4_10
  rw [c.1]
  by_cases q : sp_can f r D 10 = true
  · rw [if_pos q, if_neg (show ¬ (1 : Int32) = 0 by decide +kernel), nI_1]
    have z : sp_c f r D 40 10 n = sp_c f r D 39 11 (n + 1) := by show sp_c f r D 39 11 _ = _; rw [if_pos q]
    rw [z]
    exact ⟨(cm_11 hw h (n + 1)).1, c.2, fun y => absurd y (by decide +kernel), fun _ => (cm_11 hw h (n + 1)).2⟩
  · rw [if_neg q, if_pos rfl]
    have z : sp_c f r D 40 10 n = sp_c f r D 39 11 n := by show sp_c f r D 39 11 _ = _; rw [if_neg q]
    rw [z]
    exact ⟨(cm_11 hw h n).1, c.2, fun _ => (cm_11 hw h n).2, fun y => absurd rfl y⟩
theorem cm_9 (hw : ab_W o f r) (h : ab_V o f r D) (n : Nat) : cf_X6_canDoMany_s4_9 (nI o) (nI f) (nI r) (ma_R D) (ma_C D) (nI (D 4 0)) (nI (D 4 1)) (nI (D 4 2)) (nI n) = nI (sp_c f r D 41 9 n) ∧ vc_X6_canDoMany_s4_9 (nI o) (nI f) (nI r) (ma_R D) (ma_C D) (nI (D 4 0)) (nI (D 4 1)) (nI (D 4 2)) (nI n) := by
  have c : cf_X6_canDo (nI o) (nI f) (nI r) (ma_R D) (ma_C D) (nI (D 4 0)) (nI (D 4 1)) (nI (D 4 2)) (9 : Int32) = (if sp_can f r D 9 = true then 1 else 0) ∧ vc_X6_canDo (nI o) (nI f) (nI r) (ma_R D) (ma_C D) (nI (D 4 0)) (nI (D 4 1)) (nI (D 4 2)) (9 : Int32) := ms_canDo hw h (k := 9) (by omega)
  unfold cf_X6_canDoMany_s4_9 vc_X6_canDoMany_s4_9
  rw [c.1]
  by_cases q : sp_can f r D 9 = true
  · rw [if_pos q, if_neg (show ¬ (1 : Int32) = 0 by decide +kernel), nI_1]
    have z : sp_c f r D 41 9 n = sp_c f r D 40 10 (n + 1) := by show sp_c f r D 40 10 _ = _; rw [if_pos q]
    rw [z]
    exact ⟨(cm_10 hw h (n + 1)).1, c.2, fun y => absurd y (by decide +kernel), fun _ => (cm_10 hw h (n + 1)).2⟩
  · rw [if_neg q, if_pos rfl]
    have z : sp_c f r D 41 9 n = sp_c f r D 40 10 n := by show sp_c f r D 40 10 _ = _; rw [if_neg q]
    rw [z]
    exact ⟨(cm_10 hw h n).1, c.2, fun _ => (cm_10 hw h n).2, fun y => absurd rfl y⟩
theorem cm_8 (hw : ab_W o f r) (h : ab_V o f r D) (n : Nat) : cf_X6_canDoMany_s4_8 (nI o) (nI f) (nI r) (ma_R D) (ma_C D) (nI (D 4 0)) (nI (D 4 1)) (nI (D 4 2)) (nI n) = nI (sp_c f r D 42 8 n) ∧ vc_X6_canDoMany_s4_8 (nI o) (nI f) (nI r) (ma_R D) (ma_C D) (nI (D 4 0)) (nI (D 4 1)) (nI (D 4 2)) (nI n) := by
  have c : cf_X6_canDo (nI o) (nI f) (nI r) (ma_R D) (ma_C D) (nI (D 4 0)) (nI (D 4 1)) (nI (D 4 2)) (8 : Int32) = (if sp_can f r D 8 = true then 1 else 0) ∧ vc_X6_canDo (nI o) (nI f) (nI r) (ma_R D) (ma_C D) (nI (D 4 0)) (nI (D 4 1)) (nI (D 4 2)) (8 : Int32) := ms_canDo hw h (k := 8) (by omega)
  unfold cf_X6_canDoMany_s4_8 vc_X6_canDoMany_s4_8
  rw [c.1]
  by_cases q : sp_can f r D 8 = true
  · rw [if_pos q, if_neg (show ¬ (1 : Int32) = 0 by decide +kernel), nI_1]
    have z : sp_c f r D 42 8 n = sp_c f r D 41 9 (n + 1) := by show sp_c f r D 41 9 _ = _; rw [if_pos q]
    rw [z]
    exact ⟨(cm_9 hw h (n + 1)).1, c.2, fun y => absurd y (by decide +kernel), fun _ => (cm_9 hw h (n + 1)).2⟩
  · rw [if_neg q, if_pos rfl]
    have z : sp_c f r D 42 8 n = sp_c f r D 41 9 n := by show sp_c f r D 41 9 _ = _; rw [if_neg q]
    rw [z]
    exact ⟨(cm_9 hw h n).1, c.2, fun _ => (cm_9 hw h n).2, fun y => absurd rfl y⟩
theorem cm_7 (hw : ab_W o f r) (h : ab_V o f r D) (n : Nat) : cf_X6_canDoMany_s4_7 (nI o) (nI f) (nI r) (ma_R D) (ma_C D) (nI (D 4 0)) (nI (D 4 1)) (nI (D 4 2)) (nI n) = nI (sp_c f r D 43 7 n) ∧ vc_X6_canDoMany_s4_7 (nI o) (nI f) (nI r) (ma_R D) (ma_C D) (nI (D 4 0)) (nI (D 4 1)) (nI (D 4 2)) (nI n) := by
  have c : cf_X6_canDo (nI o) (nI f) (nI r) (ma_R D) (ma_C D) (nI (D 4 0)) (nI (D 4 1)) (nI (D 4 2)) (7 : Int32) = (if sp_can f r D 7 = true then 1 else 0) ∧ vc_X6_canDo (nI o) (nI f) (nI r) (ma_R D) (ma_C D) (nI (D 4 0)) (nI (D 4 1)) (nI (D 4 2)) (7 : Int32) := ms_canDo hw h (k := 7) (by omega)
  unfold cf_X6_canDoMany_s4_7 vc_X6_canDoMany_s4_7
  rw [c.1]
  by_cases q : sp_can f r D 7 = true
  · rw [if_pos q, if_neg (show ¬ (1 : Int32) = 0 by decide +kernel), nI_1]
    have z : sp_c f r D 43 7 n = sp_c f r D 42 8 (n + 1) := by show sp_c f r D 42 8 _ = _; rw [if_pos q]
    rw [z]
    exact ⟨(cm_8 hw h (n + 1)).1, c.2, fun y => absurd y (by decide +kernel), fun _ => (cm_8 hw h (n + 1)).2⟩
  · rw [if_neg q, if_pos rfl]
    have z : sp_c f r D 43 7 n = sp_c f r D 42 8 n := by show sp_c f r D 42 8 _ = _; rw [if_neg q]
    rw [z]
    exact ⟨(cm_8 hw h n).1, c.2, fun _ => (cm_8 hw h n).2, fun y => absurd rfl y⟩
theorem cm_6 (hw : ab_W o f r) (h : ab_V o f r D) (n : Nat) : cf_X6_canDoMany_s4_6 (nI o) (nI f) (nI r) (ma_R D) (ma_C D) (nI (D 4 0)) (nI (D 4 1)) (nI (D 4 2)) (nI n) = nI (sp_c f r D 44 6 n) ∧ vc_X6_canDoMany_s4_6 (nI o) (nI f) (nI r) (ma_R D) (ma_C D) (nI (D 4 0)) (nI (D 4 1)) (nI (D 4 2)) (nI n) := by
  have c : cf_X6_canDo (nI o) (nI f) (nI r) (ma_R D) (ma_C D) (nI (D 4 0)) (nI (D 4 1)) (nI (D 4 2)) (6 : Int32) = (if sp_can f r D 6 = true then 1 else 0) ∧ vc_X6_canDo (nI o) (nI f) (nI r) (ma_R D) (ma_C D) (nI (D 4 0)) (nI (D 4 1)) (nI (D 4 2)) (6 : Int32) := ms_canDo hw h (k := 6) (by omega)
  unfold cf_X6_canDoMany_s4_6 vc_X6_canDoMany_s4_6
  rw [c.1]
  by_cases q : sp_can f r D 6 = true
  · rw [if_pos q, if_neg (show ¬ (1 : Int32) = 0 by decide +kernel), nI_1]
    have z : sp_c f r D 44 6 n = sp_c f r D 43 7 (n + 1) := by show sp_c f r D 43 7 _ = _; rw [if_pos q]
    rw [z]
    exact ⟨(cm_7 hw h (n + 1)).1, c.2, fun y => absurd y (by decide +kernel), fun _ => (cm_7 hw h (n + 1)).2⟩
  · rw [if_neg q, if_pos rfl]
    have z : sp_c f r D 44 6 n = sp_c f r D 43 7 n := by show sp_c f r D 43 7 _ = _; rw [if_neg q]
    rw [z]
    exact ⟨(cm_7 hw h n).1, c.2, fun _ => (cm_7 hw h n).2, fun y => absurd rfl y⟩
theorem cm_5 (hw : ab_W o f r) (h : ab_V o f r D) (n : Nat) : cf_X6_canDoMany_s4_5 (nI o) (nI f) (nI r) (ma_R D) (ma_C D) (nI (D 4 0)) (nI (D 4 1)) (nI (D 4 2)) (nI n) = nI (sp_c f r D 45 5 n) ∧ vc_X6_canDoMany_s4_5 (nI o) (nI f) (nI r) (ma_R D) (ma_C D) (nI (D 4 0)) (nI (D 4 1)) (nI (D 4 2)) (nI n) := by
  have c : cf_X6_canDo (nI o) (nI f) (nI r) (ma_R D) (ma_C D) (nI (D 4 0)) (nI (D 4 1)) (nI (D 4 2)) (5 : Int32) = (if sp_can f r D 5 = true then 1 else 0) ∧ vc_X6_canDo (nI o) (nI f) (nI r) (ma_R D) (ma_C D) (nI (D 4 0)) (nI (D 4 1)) (nI (D 4 2)) (5 : Int32) := ms_canDo hw h (k := 5) (by omega)
  unfold cf_X6_canDoMany_s4_5 vc_X6_canDoMany_s4_5
  rw [c.1]
  by_cases q : sp_can f r D 5 = true
  · rw [if_pos q, if_neg (show ¬ (1 : Int32) = 0 by decide +kernel), nI_1]
    have z : sp_c f r D 45 5 n = sp_c f r D 44 6 (n + 1) := by show sp_c f r D 44 6 _ = _; rw [if_pos q]
    rw [z]
    exact ⟨(cm_6 hw h (n + 1)).1, c.2, fun y => absurd y (by decide +kernel), fun _ => (cm_6 hw h (n + 1)).2⟩
  · rw [if_neg q, if_pos rfl]
    have z : sp_c f r D 45 5 n = sp_c f r D 44 6 n := by show sp_c f r D 44 6 _ = _; rw [if_neg q]
    rw [z]
    exact ⟨(cm_6 hw h n).1, c.2, fun _ => (cm_6 hw h n).2, fun y => absurd rfl y⟩
theorem cm_4 (hw : ab_W o f r) (h : ab_V o f r D) (n : Nat) : cf_X6_canDoMany_s4_4 (nI o) (nI f) (nI r) (ma_R D) (ma_C D) (nI (D 4 0)) (nI (D 4 1)) (nI (D 4 2)) (nI n) = nI (sp_c f r D 46 4 n) ∧ vc_X6_canDoMany_s4_4 (nI o) (nI f) (nI r) (ma_R D) (ma_C D) (nI (D 4 0)) (nI (D 4 1)) (nI (D 4 2)) (nI n) := by
  have c : cf_X6_canDo (nI o) (nI f) (nI r) (ma_R D) (ma_C D) (nI (D 4 0)) (nI (D 4 1)) (nI (D 4 2)) (4 : Int32) = (if sp_can f r D 4 = true then 1 else 0) ∧ vc_X6_canDo (nI o) (nI f) (nI r) (ma_R D) (ma_C D) (nI (D 4 0)) (nI (D 4 1)) (nI (D 4 2)) (4 : Int32) := ms_canDo hw h (k := 4) (by omega)
  unfold cf_X6_canDoMany_s4_4 vc_X6_canDoMany_s4_4
  rw [c.1]
  by_cases q : sp_can f r D 4 = true
  · rw [if_pos q, if_neg (show ¬ (1 : Int32) = 0 by decide +kernel), nI_1]
    have z : sp_c f r D 46 4 n = sp_c f r D 45 5 (n + 1) := by show sp_c f r D 45 5 _ = _; rw [if_pos q]
    rw [z]
    exact ⟨(cm_5 hw h (n + 1)).1, c.2, fun y => absurd y (by decide +kernel), fun _ => (cm_5 hw h (n + 1)).2⟩
  · rw [if_neg q, if_pos rfl]
    have z : sp_c f r D 46 4 n = sp_c f r D 45 5 n := by show sp_c f r D 45 5 _ = _; rw [if_neg q]
    rw [z]
    exact ⟨(cm_5 hw h n).1, c.2, fun _ => (cm_5 hw h n).2, fun y => absurd rfl y⟩
theorem cm_3 (hw : ab_W o f r) (h : ab_V o f r D) (n : Nat) : cf_X6_canDoMany_s4_3 (nI o) (nI f) (nI r) (ma_R D) (ma_C D) (nI (D 4 0)) (nI (D 4 1)) (nI (D 4 2)) (nI n) = nI (sp_c f r D 47 3 n) ∧ vc_X6_canDoMany_s4_3 (nI o) (nI f) (nI r) (ma_R D) (ma_C D) (nI (D 4 0)) (nI (D 4 1)) (nI (D 4 2)) (nI n) := by
  have c : cf_X6_canDo (nI o) (nI f) (nI r) (ma_R D) (ma_C D) (nI (D 4 0)) (nI (D 4 1)) (nI (D 4 2)) (3 : Int32) = (if sp_can f r D 3 = true then 1 else 0) ∧ vc_X6_canDo (nI o) (nI f) (nI r) (ma_R D) (ma_C D) (nI (D 4 0)) (nI (D 4 1)) (nI (D 4 2)) (3 : Int32) := ms_canDo hw h (k := 3) (by omega)
  unfold cf_X6_canDoMany_s4_3 vc_X6_canDoMany_s4_3
  rw [c.1]
  by_cases q : sp_can f r D 3 = true
  · rw [if_pos q, if_neg (show ¬ (1 : Int32) = 0 by decide +kernel), nI_1]
    have z : sp_c f r D 47 3 n = sp_c f r D 46 4 (n + 1) := by show sp_c f r D 46 4 _ = _; rw [if_pos q]
    rw [z]
    exact ⟨(cm_4 hw h (n + 1)).1, c.2, fun y => absurd y (by decide +kernel), fun _ => (cm_4 hw h (n + 1)).2⟩
  · rw [if_neg q, if_pos rfl]
    have z : sp_c f r D 47 3 n = sp_c f r D 46 4 n := by show sp_c f r D 46 4 _ = _; rw [if_neg q]
    rw [z]
    exact ⟨(cm_4 hw h n).1, c.2, fun _ => (cm_4 hw h n).2, fun y => absurd rfl y⟩
theorem cm_2 (hw : ab_W o f r) (h : ab_V o f r D) (n : Nat) : cf_X6_canDoMany_s4_2 (nI o) (nI f) (nI r) (ma_R D) (ma_C D) (nI (D 4 0)) (nI (D 4 1)) (nI (D 4 2)) (nI n) = nI (sp_c f r D 48 2 n) ∧ vc_X6_canDoMany_s4_2 (nI o) (nI f) (nI r) (ma_R D) (ma_C D) (nI (D 4 0)) (nI (D 4 1)) (nI (D 4 2)) (nI n) := by
  have c : cf_X6_canDo (nI o) (nI f) (nI r) (ma_R D) (ma_C D) (nI (D 4 0)) (nI (D 4 1)) (nI (D 4 2)) (2 : Int32) = (if sp_can f r D 2 = true then 1 else 0) ∧ vc_X6_canDo (nI o) (nI f) (nI r) (ma_R D) (ma_C D) (nI (D 4 0)) (nI (D 4 1)) (nI (D 4 2)) (2 : Int32) := ms_canDo hw h (k := 2) (by omega)
  unfold cf_X6_canDoMany_s4_2 vc_X6_canDoMany_s4_2
  rw [c.1]
  by_cases q : sp_can f r D 2 = true
  · rw [if_pos q, if_neg (show ¬ (1 : Int32) = 0 by decide +kernel), nI_1]
    have z : sp_c f r D 48 2 n = sp_c f r D 47 3 (n + 1) := by show sp_c f r D 47 3 _ = _; rw [if_pos q]
    rw [z]
    exact ⟨(cm_3 hw h (n + 1)).1, c.2, fun y => absurd y (by decide +kernel), fun _ => (cm_3 hw h (n + 1)).2⟩
  · rw [if_neg q, if_pos rfl]
    have z : sp_c f r D 48 2 n = sp_c f r D 47 3 n := by show sp_c f r D 47 3 _ = _; rw [if_neg q]
    rw [z]
    exact ⟨(cm_3 hw h n).1, c.2, fun _ => (cm_3 hw h n).2, fun y => absurd rfl y⟩
theorem cm_1 (hw : ab_W o f r) (h : ab_V o f r D) (n : Nat) : cf_X6_canDoMany_s4_1 (nI o) (nI f) (nI r) (ma_R D) (ma_C D) (nI (D 4 0)) (nI (D 4 1)) (nI (D 4 2)) (nI n) = nI (sp_c f r D 49 1 n) ∧ vc_X6_canDoMany_s4_1 (nI o) (nI f) (nI r) (ma_R D) (ma_C D) (nI (D 4 0)) (nI (D 4 1)) (nI (D 4 2)) (nI n) := by
  have c : cf_X6_canDo (nI o) (nI f) (nI r) (ma_R D) (ma_C D) (nI (D 4 0)) (nI (D 4 1)) (nI (D 4 2)) (1 : Int32) = (if sp_can f r D 1 = true then 1 else 0) ∧ vc_X6_canDo (nI o) (nI f) (nI r) (ma_R D) (ma_C D) (nI (D 4 0)) (nI (D 4 1)) (nI (D 4 2)) (1 : Int32) := ms_canDo hw h (k := 1) (by omega)
  unfold cf_X6_canDoMany_s4_1 vc_X6_canDoMany_s4_1
  rw [c.1]
  by_cases q : sp_can f r D 1 = true
  · rw [if_pos q, if_neg (show ¬ (1 : Int32) = 0 by decide +kernel), nI_1]
    have z : sp_c f r D 49 1 n = sp_c f r D 48 2 (n + 1) := by show sp_c f r D 48 2 _ = _; rw [if_pos q]
    rw [z]
    exact ⟨(cm_2 hw h (n + 1)).1, c.2, fun y => absurd y (by decide +kernel), fun _ => (cm_2 hw h (n + 1)).2⟩
  · rw [if_neg q, if_pos rfl]
    have z : sp_c f r D 49 1 n = sp_c f r D 48 2 n := by show sp_c f r D 48 2 _ = _; rw [if_neg q]
    rw [z]
    exact ⟨(cm_2 hw h n).1, c.2, fun _ => (cm_2 hw h n).2, fun y => absurd rfl y⟩
theorem cm_0 (hw : ab_W o f r) (h : ab_V o f r D) (n : Nat) : cf_X6_canDoMany_s4_0 (nI o) (nI f) (nI r) (ma_R D) (ma_C D) (nI (D 4 0)) (nI (D 4 1)) (nI (D 4 2)) (nI n) = nI (sp_c f r D 50 0 n) ∧ vc_X6_canDoMany_s4_0 (nI o) (nI f) (nI r) (ma_R D) (ma_C D) (nI (D 4 0)) (nI (D 4 1)) (nI (D 4 2)) (nI n) := by
  have c : cf_X6_canDo (nI o) (nI f) (nI r) (ma_R D) (ma_C D) (nI (D 4 0)) (nI (D 4 1)) (nI (D 4 2)) (0 : Int32) = (if sp_can f r D 0 = true then 1 else 0) ∧ vc_X6_canDo (nI o) (nI f) (nI r) (ma_R D) (ma_C D) (nI (D 4 0)) (nI (D 4 1)) (nI (D 4 2)) (0 : Int32) := ms_canDo hw h (k := 0) (by omega)
  unfold cf_X6_canDoMany_s4_0 vc_X6_canDoMany_s4_0
  rw [c.1]
  by_cases q : sp_can f r D 0 = true
  · rw [if_pos q, if_neg (show ¬ (1 : Int32) = 0 by decide +kernel), nI_1]
    have z : sp_c f r D 50 0 n = sp_c f r D 49 1 (n + 1) := by show sp_c f r D 49 1 _ = _; rw [if_pos q]
    rw [z]
    exact ⟨(cm_1 hw h (n + 1)).1, c.2, fun y => absurd y (by decide +kernel), fun _ => (cm_1 hw h (n + 1)).2⟩
  · rw [if_neg q, if_pos rfl]
    have z : sp_c f r D 50 0 n = sp_c f r D 49 1 n := by show sp_c f r D 49 1 _ = _; rw [if_neg q]
    rw [z]
    exact ⟨(cm_1 hw h n).1, c.2, fun _ => (cm_1 hw h n).2, fun y => absurd rfl y⟩
theorem ms_many (hw : ab_W o f r) (h : ab_V o f r D) : cf_X6_canDoMany (nI o) (nI f) (nI r) (ma_R D) (ma_C D) (nI (D 4 0)) (nI (D 4 1)) (nI (D 4 2)) = nI (sp_n f r D) ∧ vc_X6_canDoMany (nI o) (nI f) (nI r) (ma_R D) (ma_C D) (nI (D 4 0)) (nI (D 4 1)) (nI (D 4 2)) := cm_0 hw h 0
end CN

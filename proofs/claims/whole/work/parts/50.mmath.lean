/-! the reference's arrays, as digits -/
def ma_F (D : ab_D) : Nat → Int32 := fun k => nI (D 0 k) - 1
def ma_R (D : ab_D) : Nat → Int32 := fun k => nI (D 1 k) - 1
def ma_C (D : ab_D) : Nat → Int32 := fun k => nI (D 2 k)
def ma_L (D : ab_D) : Nat → Int32 := fun k => nI (D 3 k)
theorem ms_t : ∀ t, t < 8 → ((nI t - 1 < (0 : Int32)) ↔ t = 0) ∧ (t ≠ 0 → (nI t - 1).toNatClampNeg = t - 1 ∧ nI t - 1 = nI (t - 1)) := by decide +kernel
theorem ms_0 {n : Nat} (h : n < 200) : nI n = (0 : Int32) ↔ n = 0 := nl_eq (c := 0) h (by omega)
theorem ms_1 {n : Nat} (h : n < 200) : nI n = (1 : Int32) ↔ n = 1 := nl_eq (c := 1) h (by omega)
theorem ms_2 {n : Nat} (h : n < 200) : nI n = (2 : Int32) ↔ n = 2 := nl_eq (c := 2) h (by omega)
theorem ma_upC (D : ab_D) (k v w : Nat) : upd (ma_C D) k (nI v) = ma_C (ab_up (ab_up D 2 k v) 3 k w) := by
  funext j
  unfold upd ma_C
  by_cases h : j = k
  · subst h; rw [if_pos rfl, ab_un _ _ (by omega), ab_us]
  · rw [if_neg h, ab_un _ _ (by omega), ab_un _ _ (by omega)]
theorem ma_upL (D : ab_D) (k v w : Nat) : upd (ma_L D) k (nI w) = ma_L (ab_up (ab_up D 2 k v) 3 k w) := by
  funext j
  unfold upd ma_L
  by_cases h : j = k
  · subst h; rw [if_pos rfl, ab_us]
  · rw [if_neg h, ab_un _ _ (by omega), ab_un _ _ (by omega)]
theorem ma_upL1 (D : ab_D) (k w : Nat) : upd (ma_L D) k (nI w) = ma_L (ab_up D 3 k w) := by
  funext j
  unfold upd ma_L
  by_cases h : j = k
  · subst h; rw [if_pos rfl, ab_us]
  · rw [if_neg h, ab_un _ _ (by omega)]
theorem ma_upF (D : ab_D) (k v : Nat) : upd (ma_F D) k (nI v - 1) = ma_F (ab_up D 0 k v) := by
  funext j
  unfold upd ma_F
  by_cases h : j = k
  · subst h; rw [if_pos rfl, ab_us]
  · rw [if_neg h, ab_un _ _ (by omega)]
theorem ma_upR (D : ab_D) (k v : Nat) : upd (ma_R D) k (nI v - 1) = ma_R (ab_up D 1 k v) := by
  funext j
  unfold upd ma_R
  by_cases h : j = k
  · subst h; rw [if_pos rfl, ab_us]
  · rw [if_neg h, ab_un _ _ (by omega)]
theorem ma_Fx {D : ab_D} {i k v : Nat} (h : i ≠ 0) : ma_F (ab_up D i k v) = ma_F D := by funext j; unfold ma_F; rw [ab_un _ _ (by omega)]
theorem ma_Rx {D : ab_D} {i k v : Nat} (h : i ≠ 1) : ma_R (ab_up D i k v) = ma_R D := by funext j; unfold ma_R; rw [ab_un _ _ (by omega)]
theorem ma_Cx {D : ab_D} {i k v : Nat} (h : i ≠ 2) : ma_C (ab_up D i k v) = ma_C D := by funext j; unfold ma_C; rw [ab_un _ _ (by omega)]
theorem ma_Lx {D : ab_D} {i k v : Nat} (h : i ≠ 3) : ma_L (ab_up D i k v) = ma_L D := by funext j; unfold ma_L; rw [ab_un _ _ (by omega)]
theorem ma_Fg {D : ab_D} {t : Nat} : ma_F (sp_g D t) = ma_F D := by funext j; unfold ma_F; rw [sp_g_ne (by omega) (by omega)]
theorem ma_Rg {D : ab_D} {t : Nat} : ma_R (sp_g D t) = ma_R D := by funext j; unfold ma_R; rw [sp_g_ne (by omega) (by omega)]
theorem ms_grey {D : ab_D} {t : Nat} (ht : t ≤ 4) (hc : D 2 (t - 1) ≤ 2) : cf_X6_toGrey (ma_C D) (ma_L D) (nI t - 1) = (ma_C (sp_g D t), ma_L (sp_g D t)) ∧ vc_X6_toGrey (ma_C D) (ma_L D) (nI t - 1) := by
  obtain ⟨e0, e1⟩ := ms_t t (by omega)
  unfold cf_X6_toGrey vc_X6_toGrey sp_g
  by_cases q : t = 0
  · rw [if_pos (e0.mpr q), if_neg (by simp [sp_w, q])]
    exact ⟨rfl, fun _ => trivial, fun z => absurd (e0.mpr q) z⟩
  · obtain ⟨e2, e3⟩ := e1 q
    rw [if_neg (fun z => q (e0.mp z)), e2]
    have hv : vp_in (nI t - 1) 4 := by rw [e3]; exact vp_in_nI (by omega) (by omega)
    have hm : ma_C D (t - 1) = 0 ↔ D 2 (t - 1) = 0 := ms_0 (by omega)
    refine ⟨?_, fun z => absurd (e0.mp z) q, fun _ => ⟨hv, fun _ => ⟨hv, hv, trivial⟩, fun _ => trivial⟩⟩
    by_cases q2 : D 2 (t - 1) = 0
    · rw [if_pos (hm.mpr q2), if_pos (sp_w_iff.mpr ⟨q, q2⟩)]
      rw [show (1 : Int32) = nI 1 from rfl, show (0 : Int32) = nI 0 from rfl, ma_upC D (t - 1) 1 0, ma_upL D (t - 1) 1 0]
    · rw [if_neg (fun z => q2 (hm.mp z)), if_neg (by simp [sp_w, q, q2])]
section MM
variable {o f r b : Nat} {D : ab_D}
theorem ms_gV (hw : ab_W o f r) (h : ab_V o f r D) {t : Nat} (ht : t ≤ o) : cf_X6_toGrey (ma_C D) (ma_L D) (nI t - 1) = (ma_C (sp_g D t), ma_L (sp_g D t)) ∧ vc_X6_toGrey (ma_C D) (ma_L D) (nI t - 1) := by
  obtain ⟨w1, w2, w3, w4, w5, w6⟩ := id hw
  exact ms_grey (by omega) (h.C (by omega))
theorem ms_lg (hw : ab_W o f r) (h : ab_V o f r D) : cf_X6_leastGrey (nI o) (ma_C D) = if sp_lg D < 4 then nI (sp_lg D) else -1 := by
  obtain ⟨w1, w2, w3, w4, w5, w6⟩ := id hw
  have c0 := h.C (k := 0) (by omega); have c1 := h.C (k := 1) (by omega); have c2 := h.C (k := 2) (by omega); have c3 := h.C (k := 3) (by omega)
  have z0 := h.C0 (k := 0) (by omega); have z1 := h.C0 (k := 1) (by omega); have z2 := h.C0 (k := 2) (by omega); have z3 := h.C0 (k := 3) (by omega)
  have l0 : (nI o ≤ (0 : Int32)) ↔ o ≤ 0 := nl_le (c := 0) (by omega) (by omega)
  have l1 : (nI o ≤ (1 : Int32)) ↔ o ≤ 1 := nl_le (c := 1) (by omega) (by omega)
  have l2 : (nI o ≤ (2 : Int32)) ↔ o ≤ 2 := nl_le (c := 2) (by omega) (by omega)
  have l3 : (nI o ≤ (3 : Int32)) ↔ o ≤ 3 := nl_le (c := 3) (by omega) (by omega)
  have g0 : ma_C D ((0 : Int32)).toNatClampNeg = 1 ↔ D 2 0 = 1 := ms_1 (n := D 2 0) (by omega)
  have g1 : ma_C D ((1 : Int32)).toNatClampNeg = 1 ↔ D 2 1 = 1 := ms_1 (n := D 2 1) (by omega)
  have g2 : ma_C D ((2 : Int32)).toNatClampNeg = 1 ↔ D 2 2 = 1 := ms_1 (n := D 2 2) (by omega)
  have g3 : ma_C D ((3 : Int32)).toNatClampNeg = 1 ↔ D 2 3 = 1 := ms_1 (n := D 2 3) (by omega)
  unfold cf_X6_leastGrey cf_X6_leastGrey_s2_0 cf_X6_leastGrey_s2_1 cf_X6_leastGrey_s2_2 cf_X6_leastGrey_s2_3 cf_X6_leastGrey_s2_4 sp_lg
  simp only [l0, l1, l2, l3, g0, g1, g2, g3]
  rcases (show o = 1 ∨ o = 2 ∨ o = 3 ∨ o = 4 by omega) with rfl | rfl | rfl | rfl
  · have y1 := z1 (by omega); have y2 := z2 (by omega); have y3 := z3 (by omega)
    by_cases q0 : D 2 0 = 1 <;> simp [q0, y1, y2, y3] <;> rfl
  · have y2 := z2 (by omega); have y3 := z3 (by omega)
    by_cases q0 : D 2 0 = 1 <;> by_cases q1 : D 2 1 = 1 <;> simp [q0, q1, y2, y3] <;> rfl
  · have y3 := z3 (by omega)
    by_cases q0 : D 2 0 = 1 <;> by_cases q1 : D 2 1 = 1 <;> by_cases q2 : D 2 2 = 1 <;> simp [q0, q1, q2, y3] <;> rfl
  · by_cases q0 : D 2 0 = 1 <;> by_cases q1 : D 2 1 = 1 <;> by_cases q2 : D 2 2 = 1 <;> by_cases q3 : D 2 3 = 1 <;> simp [q0, q1, q2, q3] <;> rfl
theorem ms_lgn : ∀ k, k < 5 → ((if k < 4 then nI k else (-1 : Int32)) < 0 ↔ ¬ k < 4) ∧ (0 ≤ (if k < 4 then nI k else (-1 : Int32)) ↔ k < 4) := by decide +kernel
theorem sp_lg_le (D : ab_D) : sp_lg D < 5 := by rcases sp_lg_spec D with q | q <;> omega
theorem ms_ir {a : Nat} (hr : r < 200) (ha : a < 200) : cf_X6_isRoot (nI r) (nI a) = 0 ↔ r ≤ a := by
  unfold cf_X6_isRoot
  by_cases q : r ≤ a
  · rw [if_pos ((nl_le hr ha).mpr q)]; exact ⟨fun _ => q, fun _ => rfl⟩
  · rw [if_neg (fun z => q ((nl_le hr ha).mp z))]; exact ⟨fun z => absurd z (by decide +kernel), fun z => absurd z q⟩
theorem ms_kq : ∀ k, k < 50 → ((nI k < (47 : Int32)) ↔ k < 47) := by decide +kernel
theorem ms_kn : ∀ n, n < 18 → nI n / (6 : Int32) = nI (n / 6) ∧ (nI n - nI n / 6 * 6) / (2 : Int32) = nI (n % 6 / 2) ∧ nI n - nI n / 2 * 2 = nI (n % 2) := by decide +kernel
theorem ms_k29 : ∀ k, k < 50 → 29 ≤ k → nI k - (29 : Int32) = nI (k - 29) := by decide +kernel
theorem ms_k11 : ∀ k, k < 50 → 11 ≤ k → nI k - (11 : Int32) = nI (k - 11) := by decide +kernel
theorem ms_k2 : ∀ k, k < 50 → 2 ≤ k → nI k - (2 : Int32) = nI (k - 2) := by decide +kernel
theorem ms_kc : ∀ n, n < 9 → nI n / (3 : Int32) = nI (n / 3) ∧ nI n - nI n / 3 * 3 = nI (n % 3) := by decide +kernel
theorem ms_215 (h : ab_V o f r D) (hw : ab_W o f r) {x y z u v w : Int32} {g : Nat → Int32} {a : Nat} (ha : a < 3) : cf_X6_canDo_s215 x y z (ma_R D) g u v w (nI a) = (if D 1 a = 0 then 0 else 1) ∧ vc_X6_canDo_s215 x y z (ma_R D) g u v w (nI a) := by
  obtain ⟨w1, w2, w3, w4, w5, w6⟩ := id hw
  have hR := h.R (k := a) ha
  unfold cf_X6_canDo_s215 vc_X6_canDo_s215
  refine ⟨?_, vp_in_nI (by omega) (by omega), trivial⟩
  rw [nI_clamp (by omega)]
  have e : ma_R D a < 0 ↔ D 1 a = 0 := (ms_t (D 1 a) (by omega)).1
  by_cases q : D 1 a = 0
  · rw [if_pos (e.mpr q), if_pos q]
  · rw [if_neg (fun z => q (e.mp z)), if_neg q]
theorem ms_156 (h : ab_V o f r D) (hw : ab_W o f r) {x u v w : Int32} {g : Nat → Int32} {n k : Nat} (hn : n < 18) (hk : k < 50) : cf_X6_canDo_s156 x (nI f) (nI r) (ma_R D) g u v w (nI k) (nI n) = (if n / 6 < r ∧ n % 6 / 2 < r ∧ n % 2 < f ∧ D 1 (if 29 ≤ k then n / 6 else n % 6 / 2) ≠ 0 then 1 else 0) ∧ vc_X6_canDo_s156 x (nI f) (nI r) (ma_R D) g u v w (nI k) (nI n) := by
  obtain ⟨w1, w2, w3, w4, w5, w6⟩ := id hw
  obtain ⟨e1, e2, e3⟩ := ms_kn n hn
  have k29 := (cs_k k hk).2.2.2.1
  unfold cf_X6_canDo_s156 vc_X6_canDo_s156 cf_X6_canDo_s197
  rw [e2, e1, e3]
  obtain ⟨s1, s2⟩ := ms_215 (x := x) (y := nI f) (z := nI r) (g := g) (u := u) (v := v) (w := w) h hw (a := n / 6) (by omega)
  obtain ⟨s3, s4⟩ := ms_215 (x := x) (y := nI f) (z := nI r) (g := g) (u := u) (v := v) (w := w) h hw (a := n % 6 / 2) (by omega)
  refine ⟨?_, fun _ => trivial, fun _ => ⟨fun _ => trivial, fun _ => ⟨fun _ => ⟨fun _ => s2, fun _ => s4⟩, fun _ => trivial⟩⟩⟩
  simp only [ms_ir (show r < 200 by omega) (show n / 6 < 200 by omega), ms_ir (show r < 200 by omega) (show n % 6 / 2 < 200 by omega), nl_lt (show n % 2 < 200 by omega) (show f < 200 by omega), k29, s1, s3]
  by_cases q1 : r ≤ n / 6
  · rw [if_pos q1, if_neg (by omega)]
  rw [if_neg q1]
  by_cases q2 : r ≤ n % 6 / 2
  · rw [if_pos q2, if_neg (by omega)]
  rw [if_neg q2]
  by_cases q3 : n % 2 < f
  · rw [if_pos q3]
    by_cases q4 : 29 ≤ k
    · simp only [if_pos q4]
      by_cases q5 : D 1 (n / 6) = 0
      · rw [if_pos q5, if_neg (fun z => z.2.2.2 q5)]
      · rw [if_neg q5, if_pos ⟨by omega, by omega, q3, q5⟩]
    · simp only [if_neg q4]
      by_cases q5 : D 1 (n % 6 / 2) = 0
      · rw [if_pos q5, if_neg (fun z => z.2.2.2 q5)]
      · rw [if_neg q5, if_pos ⟨by omega, by omega, q3, q5⟩]
  · rw [if_neg q3, if_neg (by omega)]
theorem ms_canDo (hw : ab_W o f r) (h : ab_V o f r D) {k : Nat} (hk : k < 50) : cf_X6_canDo (nI o) (nI f) (nI r) (ma_R D) (ma_C D) (nI (D 4 0)) (nI (D 4 1)) (nI (D 4 2)) (nI k) = (if sp_can f r D k = true then 1 else 0) ∧ vc_X6_canDo (nI o) (nI f) (nI r) (ma_R D) (ma_C D) (nI (D 4 0)) (nI (D 4 1)) (nI (D 4 2)) (nI k) := by
  obtain ⟨w1, w2, w3, w4, w5, w6⟩ := id hw
  have h40 := h.2.2.2.1
  have h41 := h.2.2.2.2.1
  have h42 := h.2.2.2.2.2
  obtain ⟨k0, k1, k11, k29, k47⟩ := cs_k k hk
  have V156 : ∀ n, n < 18 → vc_X6_canDo_s156 (nI o) (nI f) (nI r) (ma_R D) (ma_C D) (nI (D 4 0)) (nI (D 4 1)) (nI (D 4 2)) (nI k) (nI n) := fun n hn => (ms_156 h hw hn hk).2
  constructor
  · unfold cf_X6_canDo cf_X6_canDo_s31 cf_X6_canDo_s64 cf_X6_canDo_s122 sp_can
    rw [ms_lg hw h]
    simp only [k0, k1, k11, k29, ms_kq k hk, ms_0 (show D 4 2 < 200 by omega), ms_0 (show D 4 1 < 200 by omega), nl_lt (show D 4 0 < 200 by omega) (show r < 200 by omega), nl_eq (show D 4 0 < 200 by omega) (show r < 200 by omega), (ms_lgn (sp_lg D) (sp_lg_le D)).1, (ms_lgn (sp_lg D) (sp_lg_le D)).2]
    by_cases q : D 4 2 = 1
    · rw [if_neg (by omega), if_pos q, if_neg (by decide)]
    rw [if_pos (by omega), if_neg q]
    by_cases e0 : k = 0
    · rw [if_pos e0, if_pos e0]
      by_cases q1 : D 4 0 < r <;> by_cases q2 : sp_lg D < 4 <;> simp [q1, q2]
    rw [if_neg e0, if_neg e0]
    by_cases e1 : k = 1
    · rw [if_pos e1, if_pos e1]
      have := sp_lg_le D
      by_cases q1 : D 4 0 = r <;> by_cases q2 : sp_lg D < 4
      · have : sp_lg D ≠ 4 := by omega
        simp [q1, q2, this]
      · have : sp_lg D = 4 := by omega
        simp [q1, this]
      · simp [q1]
      · simp [q1]
    rw [if_neg e1, if_neg e1]
    by_cases e2 : D 4 1 = 0
    · rw [if_pos e2, if_pos e2, if_neg (by decide)]
    rw [if_neg e2, if_neg e2]
    by_cases e11 : 11 ≤ k
    · rw [if_pos e11, if_neg (show ¬ k < 11 by omega)]
      by_cases e47 : k < 47
      · rw [if_pos e47, if_neg (show ¬ 47 ≤ k by omega)]
        by_cases e29 : 29 ≤ k
        · rw [if_pos e29, if_neg (show ¬ k < 29 by omega), ms_k29 k hk e29, (ms_156 h hw (show k - 29 < 18 by omega) hk).1]
          simp only [if_pos e29, Bool.and_eq_true, decide_eq_true_eq, and_assoc]
        · rw [if_neg e29, if_pos (show k < 29 by omega), ms_k11 k hk e11, (ms_156 h hw (show k - 11 < 18 by omega) hk).1]
          simp only [if_neg e29, Bool.and_eq_true, decide_eq_true_eq, and_assoc]
      · rw [if_neg e47, if_pos (show 47 ≤ k by omega), cs_kx k hk (by omega)]
        unfold cf_X6_isRoot
        simp only [nl_le (show r < 200 by omega) (show k - 47 < 200 by omega)]
        by_cases z : r ≤ k - 47
        · rw [if_pos z, if_neg (by simp; omega)]
        · rw [if_neg z, if_pos (by simp; omega)]
    · rw [if_neg e11, if_pos (show k < 11 by omega), ms_k2 k hk (by omega)]
      obtain ⟨z1, z2⟩ := ms_kc (k - 2) (by omega)
      rw [z2, z1]
      simp only [ms_ir (show r < 200 by omega) (show (k - 2) / 3 < 200 by omega), ms_ir (show r < 200 by omega) (show (k - 2) % 3 < 200 by omega), nl_eq (show (k - 2) / 3 < 200 by omega) (show (k - 2) % 3 < 200 by omega)]
      by_cases y1 : r ≤ (k - 2) / 3
      · rw [if_pos y1, if_neg (by simp; omega)]
      rw [if_neg y1]
      by_cases y2 : r ≤ (k - 2) % 3
      · rw [if_pos y2, if_neg (by simp; omega)]
      rw [if_neg y2]
      by_cases y3 : (k - 2) / 3 = (k - 2) % 3
      · rw [if_pos y3, if_neg (by simp; omega)]
      · rw [if_neg y3, if_pos (by simp; omega)]
  · unfold vc_X6_canDo
    refine ⟨fun _ => ⟨fun _ => trivial, fun _ => ⟨fun _ => trivial, fun _ => ⟨fun _ => trivial, fun _ => ⟨fun z => ⟨fun y => ⟨fun x => ?_, fun x => ?_⟩, fun _ => trivial⟩, fun _ => trivial⟩⟩⟩⟩, fun _ => trivial⟩
    · have a1 := k29.mp x
      have a2 := (ms_kq k hk).mp y
      rw [ms_k29 k hk a1]; exact V156 _ (by omega)
    · have a1 : ¬ 29 ≤ k := fun q => x (k29.mpr q)
      have a2 := k11.mp z
      rw [ms_k11 k hk a2]; exact V156 _ (by omega)
end MM

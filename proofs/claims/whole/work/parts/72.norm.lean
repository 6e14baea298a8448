/-! STATES with nothing beyond their cells -/
def ab_N (D : ab_D) : Prop := (∀ k, 8 ≤ k → D 0 k = 0) ∧ (∀ k, 3 ≤ k → D 1 k = 0) ∧ (∀ k, 4 ≤ k → D 2 k = 0) ∧ (∀ k, 4 ≤ k → D 3 k = 0)
def no_1 (n : Nat) (g : Nat → Int32) : Prop := ∀ k, n ≤ k → g k = -1
def no_0 (n : Nat) (g : Nat → Int32) : Prop := ∀ k, n ≤ k → g k = 0
theorem ab_N.F {D : ab_D} (h : ab_N D) : no_1 8 (ma_F D) := fun k hk => by show nI (D 0 k) - 1 = -1; rw [h.1 k hk]; decide +kernel
theorem ab_N.R {D : ab_D} (h : ab_N D) : no_1 3 (ma_R D) := fun k hk => by show nI (D 1 k) - 1 = -1; rw [h.2.1 k hk]; decide +kernel
theorem ab_N.C {D : ab_D} (h : ab_N D) : no_0 4 (ma_C D) := fun k hk => by show nI (D 2 k) = 0; rw [h.2.2.1 k hk]; decide +kernel
theorem ab_N.L {D : ab_D} (h : ab_N D) : no_0 4 (ma_L D) := fun k hk => by show nI (D 3 k) = 0; rw [h.2.2.2 k hk]; decide +kernel
theorem ma_ext1 {n : Nat} {f g : Nat → Int32} (h : ma_eq n f g) (hf : no_1 n f) (hg : no_1 n g) : f = g := by
  funext k
  rcases Nat.lt_or_ge k n with q | q
  · exact h k q
  · rw [hf k q, hg k q]
theorem ma_ext0 {n : Nat} {f g : Nat → Int32} (h : ma_eq n f g) (hf : no_0 n f) (hg : no_0 n g) : f = g := by
  funext k
  rcases Nat.lt_or_ge k n with q | q
  · exact h k q
  · rw [hf k q, hg k q]
theorem upd_off {g : Nat → Int32} {n k : Nat} {i v : Int32} (h : i.toNatClampNeg < n) (hk : n ≤ k) : upd g i.toNatClampNeg v k = g k := by
  unfold upd; rw [if_neg (by omega)]
theorem no_u1 {g : Nat → Int32} {n : Nat} {i v : Int32} (hg : no_1 n g) (h : i.toNatClampNeg < n) : no_1 n (upd g i.toNatClampNeg v) := fun k hk => by rw [upd_off h hk]; exact hg k hk
theorem no_u0 {g : Nat → Int32} {n : Nat} {i v : Int32} (hg : no_0 n g) (h : i.toNatClampNeg < n) : no_0 n (upd g i.toNatClampNeg v) := fun k hk => by rw [upd_off h hk]; exact hg k hk

theorem mt_off {g_F g_R g_C g_L : Nat → Int32} {x y z : Int32} {v : Int64} (hF : no_1 8 g_F) (hR : no_1 3 g_R) (hC : no_0 4 g_C) (hL : no_0 4 g_L) : no_1 8 (cf_X6_take g_F g_R g_C g_L x y z v).1 ∧ no_1 3 (cf_X6_take g_F g_R g_C g_L x y z v).2.1 ∧ no_0 4 (cf_X6_take g_F g_R g_C g_L x y z v).2.2.1 ∧ no_0 4 (cf_X6_take g_F g_R g_C g_L x y z v).2.2.2.1 := by
  unfold cf_X6_take cf_X6_take_s11_7 cf_X6_take_s11_6 cf_X6_take_s11_5 cf_X6_take_s11_4 cf_X6_take_s11_3 cf_X6_take_s11_2 cf_X6_take_s11_1 cf_X6_take_s11_0 cf_X6_take_s11_m1 cf_X6_take_s46_3 cf_X6_take_s46_2 cf_X6_take_s46_1 cf_X6_take_s46_0 cf_X6_take_s46_m1 cf_X6_take_s98_2 cf_X6_take_s98_1 cf_X6_take_s98_0 cf_X6_take_s98_m1
  split
  · exact ⟨(no_u1 (no_u1 (no_u1 (no_u1 (no_u1 (no_u1 (no_u1 (no_u1 hF (by decide)) (by decide)) (by decide)) (by decide)) (by decide)) (by decide)) (by decide)) (by decide)), (no_u1 (no_u1 (no_u1 hR (by decide)) (by decide)) (by decide)), (no_u0 (no_u0 (no_u0 (no_u0 hC (by decide)) (by decide)) (by decide)) (by decide)), (no_u0 (no_u0 (no_u0 (no_u0 hL (by decide)) (by decide)) (by decide)) (by decide))⟩
  · exact ⟨(no_u1 (no_u1 (no_u1 (no_u1 (no_u1 (no_u1 (no_u1 (no_u1 hF (by decide)) (by decide)) (by decide)) (by decide)) (by decide)) (by decide)) (by decide)) (by decide)), (no_u1 (no_u1 (no_u1 hR (by decide)) (by decide)) (by decide)), (no_u0 (no_u0 (no_u0 (no_u0 hC (by decide)) (by decide)) (by decide)) (by decide)), (no_u0 (no_u0 (no_u0 (no_u0 hL (by decide)) (by decide)) (by decide)) (by decide))⟩
theorem ms_takeN {D : ab_D} (h : ab_B D) (hN : ab_N D) {g_F g_R g_C g_L : Nat → Int32} (x y z : Int32) (hF : no_1 8 g_F) (hR : no_1 3 g_R) (hC : no_0 4 g_C) (hL : no_0 4 g_L) : cf_X6_take g_F g_R g_C g_L x y z (ab_n D) = (ma_F D, ma_R D, ma_C D, ma_L D, nI (D 4 0), nI (D 4 1), nI (D 4 2)) := by
  obtain ⟨u1, u2, u3, u4, e, a1, a2, a3, a4⟩ := ms_take h g_F g_R g_C g_L x y z
  have q := mt_off (x := x) (y := y) (z := z) (v := ab_n D) hF hR hC hL
  rw [e] at q
  rw [e, ma_ext1 a1 q.1 hN.F, ma_ext1 a2 q.2.1 hN.R, ma_ext0 a3 q.2.2.1 hN.C, ma_ext0 a4 q.2.2.2 hN.L]
/-- the first STATE of a set-up -/
def ab_1 (E : ab_D) (a : Nat) : ab_D := fun i k => if i = 0 then E 0 k else if i = 1 then E 1 k else if i = 4 ∧ k = 1 then a else 0
/-- a set-up's links -/
def ab_L (o f r : Nat) (E : ab_D) : Prop := (∀ k, k < 8 → E 0 k ≤ o ∧ (o ≤ k / 2 ∨ f ≤ k % 2 → E 0 k = 0)) ∧ (∀ k, k < 3 → E 1 k ≤ o ∧ (r ≤ k → E 1 k = 0)) ∧ (∀ k, 8 ≤ k → E 0 k = 0) ∧ (∀ k, 3 ≤ k → E 1 k = 0)
theorem ab_1V {o f r a : Nat} {E : ab_D} (hw : ab_W o f r) (h : ab_L o f r E) (ha : a ≤ 8) : ab_V o f r (ab_1 E a) := by
  obtain ⟨w1, w2, w3, w4, w5, w6⟩ := hw
  refine ⟨fun k hk => h.1 k hk, fun k hk => h.2.1 k hk, fun k hk => ⟨Nat.zero_le 2, fun _ => rfl, w3, fun _ => rfl⟩, Nat.zero_le r, ha, Nat.zero_le 1⟩
theorem ab_1N {o f r a : Nat} {E : ab_D} (h : ab_L o f r E) : ab_N (ab_1 E a) := ⟨fun k hk => h.2.2.1 k hk, fun k hk => h.2.2.2 k hk, fun _ _ => rfl, fun _ _ => rfl⟩

theorem ms_first {o f r a : Nat} {E : ab_D} (hw : ab_W o f r) (h : ab_L o f r E) (ha : a ≤ 8) {g_F g_R g_C g_L : Nat → Int32} (x y z : Int32) (hF : no_1 8 g_F) (hR : no_1 3 g_R) (hC : no_0 4 g_C) (hL : no_0 4 g_L) : cf_X6_first (nI a) (ma_F E) (ma_R E) g_F g_R g_C g_L x y z = (ma_F (ab_1 E a), ma_R (ab_1 E a), ma_C (ab_1 E a), ma_L (ab_1 E a), 0, nI a, 0, ab_n (ab_1 E a)) := by
  have hN : ab_N (ab_1 E a) := ab_1N h
  have eF : (upd (upd (upd (upd (upd (upd (upd (upd g_F ((0 : Int32)).toNatClampNeg (ma_F E ((0 : Int32)).toNatClampNeg)) ((1 : Int32)).toNatClampNeg (ma_F E ((1 : Int32)).toNatClampNeg)) ((2 : Int32)).toNatClampNeg (ma_F E ((2 : Int32)).toNatClampNeg)) ((3 : Int32)).toNatClampNeg (ma_F E ((3 : Int32)).toNatClampNeg)) ((4 : Int32)).toNatClampNeg (ma_F E ((4 : Int32)).toNatClampNeg)) ((5 : Int32)).toNatClampNeg (ma_F E ((5 : Int32)).toNatClampNeg)) ((6 : Int32)).toNatClampNeg (ma_F E ((6 : Int32)).toNatClampNeg)) ((7 : Int32)).toNatClampNeg (ma_F E ((7 : Int32)).toNatClampNeg)) = ma_F (ab_1 E a) := ma_ext1 (n := 8) (fun k hk => c_ix8 (P := fun k => (upd (upd (upd (upd (upd (upd (upd (upd g_F ((0 : Int32)).toNatClampNeg (ma_F E ((0 : Int32)).toNatClampNeg)) ((1 : Int32)).toNatClampNeg (ma_F E ((1 : Int32)).toNatClampNeg)) ((2 : Int32)).toNatClampNeg (ma_F E ((2 : Int32)).toNatClampNeg)) ((3 : Int32)).toNatClampNeg (ma_F E ((3 : Int32)).toNatClampNeg)) ((4 : Int32)).toNatClampNeg (ma_F E ((4 : Int32)).toNatClampNeg)) ((5 : Int32)).toNatClampNeg (ma_F E ((5 : Int32)).toNatClampNeg)) ((6 : Int32)).toNatClampNeg (ma_F E ((6 : Int32)).toNatClampNeg)) ((7 : Int32)).toNatClampNeg (ma_F E ((7 : Int32)).toNatClampNeg)) k = ma_F (ab_1 E a) k) rfl rfl rfl rfl rfl rfl rfl rfl hk) (no_u1 (no_u1 (no_u1 (no_u1 (no_u1 (no_u1 (no_u1 (no_u1 hF (by decide)) (by decide)) (by decide)) (by decide)) (by decide)) (by decide)) (by decide)) (by decide)) hN.F
  have eR : (upd (upd (upd g_R ((0 : Int32)).toNatClampNeg (ma_R E ((0 : Int32)).toNatClampNeg)) ((1 : Int32)).toNatClampNeg (ma_R E ((1 : Int32)).toNatClampNeg)) ((2 : Int32)).toNatClampNeg (ma_R E ((2 : Int32)).toNatClampNeg)) = ma_R (ab_1 E a) := ma_ext1 (n := 3) (fun k hk => co_3 (P := fun k => (upd (upd (upd g_R ((0 : Int32)).toNatClampNeg (ma_R E ((0 : Int32)).toNatClampNeg)) ((1 : Int32)).toNatClampNeg (ma_R E ((1 : Int32)).toNatClampNeg)) ((2 : Int32)).toNatClampNeg (ma_R E ((2 : Int32)).toNatClampNeg)) k = ma_R (ab_1 E a) k) rfl rfl rfl hk) (no_u1 (no_u1 (no_u1 hR (by decide)) (by decide)) (by decide)) hN.R
  have eC : (upd (upd (upd (upd g_C ((0 : Int32)).toNatClampNeg (0 : Int32)) ((1 : Int32)).toNatClampNeg (0 : Int32)) ((2 : Int32)).toNatClampNeg (0 : Int32)) ((3 : Int32)).toNatClampNeg (0 : Int32)) = ma_C (ab_1 E a) := ma_ext0 (n := 4) (fun k hk => co_4 (P := fun k => (upd (upd (upd (upd g_C ((0 : Int32)).toNatClampNeg (0 : Int32)) ((1 : Int32)).toNatClampNeg (0 : Int32)) ((2 : Int32)).toNatClampNeg (0 : Int32)) ((3 : Int32)).toNatClampNeg (0 : Int32)) k = ma_C (ab_1 E a) k) rfl rfl rfl rfl hk) (no_u0 (no_u0 (no_u0 (no_u0 hC (by decide)) (by decide)) (by decide)) (by decide)) hN.C
  have eL : (upd (upd (upd (upd g_L ((0 : Int32)).toNatClampNeg (0 : Int32)) ((1 : Int32)).toNatClampNeg (0 : Int32)) ((2 : Int32)).toNatClampNeg (0 : Int32)) ((3 : Int32)).toNatClampNeg (0 : Int32)) = ma_L (ab_1 E a) := ma_ext0 (n := 4) (fun k hk => co_4 (P := fun k => (upd (upd (upd (upd g_L ((0 : Int32)).toNatClampNeg (0 : Int32)) ((1 : Int32)).toNatClampNeg (0 : Int32)) ((2 : Int32)).toNatClampNeg (0 : Int32)) ((3 : Int32)).toNatClampNeg (0 : Int32)) k = ma_L (ab_1 E a) k) rfl rfl rfl rfl hk) (no_u0 (no_u0 (no_u0 (no_u0 hL (by decide)) (by decide)) (by decide)) (by decide)) hN.L
  have e0 := ms_number ((ab_1V hw h ha).B hw)
  unfold cf_X6_first cf_X6_first_s2_0 cf_X6_first_s2_1 cf_X6_first_s2_2 cf_X6_first_s2_3 cf_X6_first_s2_4 cf_X6_first_s2_5 cf_X6_first_s2_6 cf_X6_first_s2_7 cf_X6_first_s2_8 cf_X6_first_s31_0 cf_X6_first_s31_1 cf_X6_first_s31_2 cf_X6_first_s31_3 cf_X6_first_s56_0 cf_X6_first_s56_1 cf_X6_first_s56_2 cf_X6_first_s56_3 cf_X6_first_s56_4
  rw [eF, eR, eC, eL, ← e0]
  rfl

/-! acts leave what lies beyond alone -/
theorem ab_N.up {D : ab_D} (h : ab_N D) {i k v : Nat} (h0 : i = 0 → k < 8) (h1 : i = 1 → k < 3) (h2 : i = 2 → k < 4) (h3 : i = 3 → k < 4) : ab_N (ab_up D i k v) := by
  obtain ⟨a, b, c, d⟩ := h
  refine ⟨fun j hj => ?_, fun j hj => ?_, fun j hj => ?_, fun j hj => ?_⟩
  · rw [ab_un _ _ (by omega)]; exact a j hj
  · rw [ab_un _ _ (by omega)]; exact b j hj
  · rw [ab_un _ _ (by omega)]; exact c j hj
  · rw [ab_un _ _ (by omega)]; exact d j hj
theorem ab_N.g {D : ab_D} (h : ab_N D) {t : Nat} (ht : t ≤ 4) : ab_N (sp_g D t) := by
  unfold sp_g
  split
  · rename_i q
    have h0 : t ≠ 0 := by intro z; rw [z] at q; simp [sp_w] at q
    exact (h.up (by omega) (by omega) (by omega) (by omega)).up (by omega) (by omega) (by omega) (by omega)
  · exact h
theorem ab_N.gb {D : ab_D} (h : ab_N D) {t b i : Nat} (ht : t ≤ 4) : ab_N (sp_gb b i D t) := by unfold sp_gb; split; exact h.g ht; exact h
theorem ab_N.root {D : ab_D} (h : ab_N D) {b a t : Nat} (hB : ab_B D) (ha : a < 3) (ht : t ≤ 4) : ab_N (sp_root b D a t) := by
  unfold sp_root
  exact ((h.gb (hB.2.1 a ha)).gb ht).up (by omega) (by omega) (by omega) (by omega)
theorem ab_N.sp {D : ab_D} (h : ab_N D) : ab_N (sp_sp D) := h.up (by omega) (by omega) (by omega) (by omega)
theorem ab_Bsp {D : ab_D} (h : ab_B D) : ab_B (sp_sp D) := by
  unfold sp_sp
  obtain ⟨h1, h2, h3, h4, h5, h6⟩ := h
  refine ⟨fun k hk => ?_, fun k hk => ?_, fun k hk => ?_, ?_, ?_, ?_⟩
  · rw [ab_un _ _ (by omega)]; exact h1 k hk
  · rw [ab_un _ _ (by omega)]; exact h2 k hk
  · rw [ab_un _ _ (by omega), ab_un _ _ (by omega)]; exact h3 k hk
  · rw [ab_un _ _ (by omega)]; exact h4
  · rw [ab_us]; omega
  · rw [ab_un _ _ (by omega)]; exact h6
theorem ab_N.act {o f r b : Nat} {D : ab_D} (hw : ab_W o f r) (hV : ab_V o f r D) (h : ab_N D) {k : Nat} (hk : k < 50) (hc : sp_can f r D k = true) : ab_N (sp_act f r b D k) := by
  obtain ⟨w1, w2, w3, w4, w5, w6⟩ := id hw
  have hB := hV.B hw
  have hBs := ab_Bsp hB
  unfold sp_act
  unfold sp_can at hc
  split at hc
  · cases hc
  split
  · rename_i k0
    rw [if_pos k0] at hc
    unfold sp_look
    split
    · rename_i q
      exact (h.g (hB.2.1 _ (by omega))).up (by omega) (by omega) (by omega) (by omega)
    · rename_i q
      have l : sp_lg D < 4 := by simpa [q] using hc
      have f1 := (hB.2.2.1 _ l).2
      have ht : D 0 (2 * sp_lg D + D 3 (sp_lg D)) ≤ 4 := hB.1 _ (by omega)
      split
      · exact (h.g ht).up (by omega) (by omega) (by omega) (by omega)
      · exact ((h.g ht).up (by omega) (by omega) (by omega) (by omega)).up (by omega) (by omega) (by omega) (by omega)
  split
  · unfold sp_end
    have b0 := hB.2.1 0 (by omega); have b1 := hB.2.1 1 (by omega); have b2 := hB.2.1 2 (by omega)
    split
    · exact ((h.g b0).g b1).g b2
    · exact h.up (by omega) (by omega) (by omega) (by omega)
  split
  · exact h.sp.root hBs (by omega) (hB.2.1 _ (by omega))
  split
  · rename_i k0 k1 k11 k29
    have : D 1 ((k - 11) % 6 / 2) ≤ 4 := hB.2.1 _ (by omega)
    rw [if_neg k0, if_neg k1] at hc
    split at hc
    · cases hc
    rw [if_neg (show ¬ 47 ≤ k by omega)] at hc
    simp only [Bool.and_eq_true, decide_eq_true_eq] at hc
    exact h.sp.root hBs (by omega) (hB.1 _ (by omega))
  split
  · rename_i k0 k1 k11 k29 k47
    rw [if_neg k0, if_neg k1] at hc
    split at hc
    · cases hc
    rw [if_neg (show ¬ 47 ≤ k by omega)] at hc
    simp only [Bool.and_eq_true, decide_eq_true_eq] at hc
    have ha : D 1 ((k - 29) / 6) ≤ 4 := hB.2.1 _ (by omega)
    have hx : sp_sp D 1 ((k - 29) / 6) = D 1 ((k - 29) / 6) := by unfold sp_sp; rw [ab_un _ _ (by omega)]
    have hc4 : sp_sp D 1 ((k - 29) % 6 / 2) ≤ 4 := hBs.2.1 _ (by omega)
    unfold sp_store
    rw [hx]
    have n1 : ab_N (sp_s1 b (sp_sp D) (D 1 ((k - 29) / 6) - 1) (sp_sp D 1 ((k - 29) % 6 / 2)) ((k - 29) % 2)) := (h.sp.gb (hBs.1 _ (by omega))).gb hc4
    have n2 : ab_N (sp_s2 b (sp_sp D) (D 1 ((k - 29) / 6) - 1) (sp_sp D 1 ((k - 29) % 6 / 2)) ((k - 29) % 2)) := by unfold sp_s2; split; exact n1.g hc4; exact n1
    have n3 : ab_N (sp_s3 b (sp_sp D) (D 1 ((k - 29) / 6) - 1) (sp_sp D 1 ((k - 29) % 6 / 2)) ((k - 29) % 2)) := by unfold sp_s3; split; exact (n2.up (by omega) (by omega) (by omega) (by omega)).up (by omega) (by omega) (by omega) (by omega); exact n2
    exact n3.up (by omega) (by omega) (by omega) (by omega)
  · exact h.sp.root hBs (by omega) (Nat.zero_le 4)

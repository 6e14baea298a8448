/-! both sides, call by call -/
def LI (o f r b a L : Nat) (E D : ab_D) (g_F g_R g_C g_L t_W g_W : Nat → Int32) : Prop := ab_W o f r ∧ b < 128 ∧ a ≤ 8 ∧ ab_L o f r E ∧ ab_V o f r D ∧ ab_N D ∧ L ≤ 40 ∧ no_1 8 g_F ∧ no_1 3 g_R ∧ no_0 4 g_C ∧ no_0 4 g_L ∧ ∀ k, k < L → g_W k = t_W k
theorem p_pred {n : Nat} (h1 : 1 ≤ n) : nI n - 1 = nI (n - 1) := by
  obtain ⟨q, rfl⟩ : ∃ q, n = q + 1 := ⟨n - 1, by omega⟩
  rw [nI_pred]; rfl
theorem p_le {x : Int32} {n : Nat} (h1 : 1 ≤ n) (hn : n < 2 ^ 31) : x ≤ nI n - 1 ↔ ¬ nI n ≤ x := by
  rw [p_pred h1, Int32.le_iff_toInt_le, Int32.le_iff_toInt_le, nI_toInt (by omega), nI_toInt hn]; omega
theorem p_lt {x : Int32} {n : Nat} (hn : n < 2 ^ 31) : x < nI n ↔ ¬ nI n ≤ x := by
  rw [Int32.lt_iff_toInt_lt, Int32.le_iff_toInt_le]; omega
theorem p_nle {x : Int32} {n : Nat} (hn : n < 2 ^ 31) : x ≤ nI n ↔ ¬ nI n < x := by
  rw [Int32.lt_iff_toInt_lt, Int32.le_iff_toInt_le]; omega
theorem p_rg {x : Int32} {lo hi : Nat} (h1 : ¬ x < nI lo) (h2 : x ≤ nI hi) (hlo : lo < 2 ^ 31) (hh : hi < 2 ^ 31) : ∃ j, lo ≤ j ∧ j ≤ hi ∧ x = nI j := by
  rw [Int32.lt_iff_toInt_lt, nI_toInt hlo] at h1
  rw [Int32.le_iff_toInt_le, nI_toInt hh] at h2
  have h0 : ¬ x < 0 := by rw [Int32.lt_iff_toInt_lt]; show ¬ x.toInt < 0; omega
  obtain ⟨j, hj, rfl⟩ := nI_of h0
  rw [nI_toInt hj] at h1 h2
  exact ⟨j, by omega, by omega, rfl⟩
theorem p_m1 : ((-1 : Int32)).toInt = -1 := by decide +kernel
theorem p_to {x : Int32} {o : Nat} (ho : 1 ≤ o) (h4 : o ≤ 4) (h1 : ¬ x < -1) (h2 : x ≤ nI o - 1) : ∃ t, t ≤ o ∧ x = nI t - 1 := by
  by_cases q : x < 0
  · refine ⟨0, Nat.zero_le o, ?_⟩
    rw [Int32.lt_iff_toInt_lt, p_m1] at h1
    rw [Int32.lt_iff_toInt_lt] at q
    have q : x.toInt < 0 := q
    apply Int32.toInt_inj.mp
    rw [show (nI 0 - 1 : Int32).toInt = -1 by decide +kernel]; omega
  · obtain ⟨j, hj, rfl⟩ := nI_of q
    rw [p_pred ho, Int32.le_iff_toInt_le, nI_toInt hj, nI_toInt (by omega)] at h2
    exact ⟨j + 1, by omega, by rw [nI_pred]⟩
theorem f_0 (m : Int32) : cf_X6_fails m 0 = (0, 0) := by unfold cf_X6_fails; rw [if_pos rfl]
theorem f_1 (m : Int32) : cf_X6_fails m 1 = (1, 1) := by unfold cf_X6_fails; rw [if_neg (by decide +kernel)]
theorem f_2 (m : Int32) : cf_X6_fails m 2 = (2, 1) := by unfold cf_X6_fails; rw [if_neg (by decide +kernel)]
theorem f_n : ¬ (1 : Int32) = 0 := by decide +kernel
def e0 : ab_D := fun _ _ => 0
theorem e0_L {o f r : Nat} : ab_L o f r e0 := ⟨fun _ _ => ⟨Nat.zero_le o, fun _ => rfl⟩, fun _ _ => ⟨Nat.zero_le o, fun _ => rfl⟩, fun _ _ => rfl, fun _ _ => rfl⟩
theorem e0_s : ab_s (ab_1 e0 0) = 0 := by decide +kernel
section PR
variable {o f r b a L : Nat} {E D : ab_D} {m_th rl lf ov : Int32} {g_F g_R g_C g_L t_W g_W : Nat → Int32}
theorem LI.to {E' D' : ab_D} (h : LI o f r b a L E D g_F g_R g_C g_L t_W g_W) (hE : ab_L o f r E') (hV : ab_V o f r D') (hN : ab_N D') : LI o f r b a L E' D' (ma_F D') (ma_R D') (ma_C D') (ma_L D') t_W g_W :=
  ⟨h.1, h.2.1, h.2.2.1, hE, hV, hN, h.2.2.2.2.2.2.1, hN.F, hN.R, hN.C, hN.L, h.2.2.2.2.2.2.2.2.2.2.2⟩
theorem LI.same (h : LI o f r b a L E D g_F g_R g_C g_L t_W g_W) : LI o f r b a L E D (ma_F D) (ma_R D) (ma_C D) (ma_L D) t_W g_W := h.to h.2.2.2.1 h.2.2.2.2.1 h.2.2.2.2.2.1

theorem ab_LF {o f r : Nat} {E : ab_D} (h : ab_L o f r E) : no_1 8 (ma_F E) := fun k hk => by show nI (E 0 k) - 1 = -1; rw [h.2.2.1 k hk]; decide +kernel
theorem ab_LR {o f r : Nat} {E : ab_D} (h : ab_L o f r E) : no_1 3 (ma_R E) := fun k hk => by show nI (E 1 k) - 1 = -1; rw [h.2.2.2 k hk]; decide +kernel
theorem pr_size (hI : LI o f r b a L E D g_F g_R g_C g_L t_W g_W) (x y z : Int32) :
    (cf_X5_size (nI o) (nI f) (nI r) (nI b) (nI a) (ab_s (ab_1 E 0)) (ab_s D) x y z = .error ex_A ∧ cf_X6_size m_th (nI o) (nI f) (nI r) (nI a) (ma_F E) (ma_R E) g_F g_R g_C g_L rl lf ov (ab_n D) x y z = (1, nI o, nI f, nI r, ma_F E, ma_R E, g_F, g_R, g_C, g_L, rl, lf, ov, ab_n D)) ∨
    (∃ o' f' r', LI o' f' r' b a L e0 (ab_1 e0 a) (ma_F (ab_1 e0 a)) (ma_R (ab_1 e0 a)) (ma_C (ab_1 e0 a)) (ma_L (ab_1 e0 a)) t_W g_W ∧ cf_X5_size (nI o) (nI f) (nI r) (nI b) (nI a) (ab_s (ab_1 E 0)) (ab_s D) x y z = .ok (nI o', nI f', nI r', ab_s (ab_1 e0 0), ab_s (ab_1 e0 a)) ∧ cf_X6_size m_th (nI o) (nI f) (nI r) (nI a) (ma_F E) (ma_R E) g_F g_R g_C g_L rl lf ov (ab_n D) x y z = (0, nI o', nI f', nI r', ma_F e0, ma_R e0, ma_F (ab_1 e0 a), ma_R (ab_1 e0 a), ma_C (ab_1 e0 a), ma_L (ab_1 e0 a), nI ((ab_1 e0 a) 4 0), nI ((ab_1 e0 a) 4 1), nI ((ab_1 e0 a) 4 2), ab_n (ab_1 e0 a))) := by
  obtain ⟨hw, hb, ha, hE, hV, hN, hL, nF, nR, nC, nL, hrow⟩ := id hI
  have bad : ∀ x y z, cf_X6_size_s31 m_th (nI o) (nI f) (nI r) (nI a) (ma_F E) (ma_R E) g_F g_R g_C g_L rl lf ov (ab_n D) x y z = (1, nI o, nI f, nI r, ma_F E, ma_R E, g_F, g_R, g_C, g_L, rl, lf, ov, ab_n D) := by
    intro x y z
    unfold cf_X6_size_s31 cf_X6_size_s36
    rw [f_1]; exact if_neg f_n
  unfold cf_X5_size
  by_cases c1 : x < (1 : Int32) ∨ ¬ x ≤ (4 : Int32)
  · left
    rw [if_pos c1]
    refine ⟨rfl, ?_⟩
    unfold cf_X6_size
    rcases c1 with c | c
    · rw [if_pos c, bad]
    · by_cases d : x < (1 : Int32)
      · rw [if_pos d, bad]
      · rw [if_neg d, if_pos (show (4 : Int32) < x from Int32.not_le.mp c), bad]
  rw [if_neg c1]
  have c1a : ¬ x < (1 : Int32) := fun q => c1 (Or.inl q)
  have c1b : x ≤ (4 : Int32) := Classical.byContradiction (fun q => c1 (Or.inr q))
  by_cases c2 : y < (1 : Int32) ∨ ¬ y ≤ (2 : Int32)
  · left
    rw [if_pos c2]
    refine ⟨rfl, ?_⟩
    unfold cf_X6_size
    rw [if_neg c1a, if_neg (show ¬ (4 : Int32) < x from Int32.not_lt.mpr c1b)]
    rcases c2 with c | c
    · rw [if_pos c, bad]
    · by_cases d : y < (1 : Int32)
      · rw [if_pos d, bad]
      · rw [if_neg d, if_pos (show (2 : Int32) < y from Int32.not_le.mp c), bad]
  rw [if_neg c2]
  have c2a : ¬ y < (1 : Int32) := fun q => c2 (Or.inl q)
  have c2b : y ≤ (2 : Int32) := Classical.byContradiction (fun q => c2 (Or.inr q))
  by_cases c3 : z < (1 : Int32) ∨ ¬ z ≤ (3 : Int32)
  · left
    rw [if_pos c3]
    refine ⟨rfl, ?_⟩
    unfold cf_X6_size
    rw [if_neg c1a, if_neg (show ¬ (4 : Int32) < x from Int32.not_lt.mpr c1b), if_neg c2a, if_neg (show ¬ (2 : Int32) < y from Int32.not_lt.mpr c2b)]
    rcases c3 with c | c
    · rw [if_pos c, bad]
    · by_cases d : z < (1 : Int32)
      · rw [if_pos d, bad]
      · rw [if_neg d, if_neg c, bad]
  rw [if_neg c3]
  have c3a : ¬ z < (1 : Int32) := fun q => c3 (Or.inl q)
  have c3b : z ≤ (3 : Int32) := Classical.byContradiction (fun q => c3 (Or.inr q))
  right
  obtain ⟨o', p1, p2, rfl⟩ := p_rg (lo := 1) (hi := 4) c1a c1b (by omega) (by omega)
  obtain ⟨f', p3, p4, rfl⟩ := p_rg (lo := 1) (hi := 2) c2a c2b (by omega) (by omega)
  obtain ⟨r', p5, p6, rfl⟩ := p_rg (lo := 1) (hi := 3) c3a c3b (by omega) (by omega)
  have hw' : ab_W o' f' r' := ⟨p1, p2, p3, p4, p5, p6⟩
  have hE' : ab_L o' f' r' e0 := e0_L
  have hV' := ab_1V hw' hE' ha
  have hN' : ab_N (ab_1 e0 a) := ab_1N hE'
  have eF : (upd (upd (upd (upd (upd (upd (upd (upd (ma_F E) ((0 : Int32)).toNatClampNeg (-1 : Int32)) ((1 : Int32)).toNatClampNeg (-1 : Int32)) ((2 : Int32)).toNatClampNeg (-1 : Int32)) ((3 : Int32)).toNatClampNeg (-1 : Int32)) ((4 : Int32)).toNatClampNeg (-1 : Int32)) ((5 : Int32)).toNatClampNeg (-1 : Int32)) ((6 : Int32)).toNatClampNeg (-1 : Int32)) ((7 : Int32)).toNatClampNeg (-1 : Int32)) = ma_F e0 := ma_ext1 (n := 8) (fun k hk => c_ix8 (P := fun k => (upd (upd (upd (upd (upd (upd (upd (upd (ma_F E) ((0 : Int32)).toNatClampNeg (-1 : Int32)) ((1 : Int32)).toNatClampNeg (-1 : Int32)) ((2 : Int32)).toNatClampNeg (-1 : Int32)) ((3 : Int32)).toNatClampNeg (-1 : Int32)) ((4 : Int32)).toNatClampNeg (-1 : Int32)) ((5 : Int32)).toNatClampNeg (-1 : Int32)) ((6 : Int32)).toNatClampNeg (-1 : Int32)) ((7 : Int32)).toNatClampNeg (-1 : Int32)) k = ma_F e0 k) rfl rfl rfl rfl rfl rfl rfl rfl hk) (no_u1 (no_u1 (no_u1 (no_u1 (no_u1 (no_u1 (no_u1 (no_u1 (ab_LF hE) (by decide)) (by decide)) (by decide)) (by decide)) (by decide)) (by decide)) (by decide)) (by decide)) (ab_LF hE')
  have eR : (upd (upd (upd (ma_R E) ((0 : Int32)).toNatClampNeg (-1 : Int32)) ((1 : Int32)).toNatClampNeg (-1 : Int32)) ((2 : Int32)).toNatClampNeg (-1 : Int32)) = ma_R e0 := ma_ext1 (n := 3) (fun k hk => co_3 (P := fun k => (upd (upd (upd (ma_R E) ((0 : Int32)).toNatClampNeg (-1 : Int32)) ((1 : Int32)).toNatClampNeg (-1 : Int32)) ((2 : Int32)).toNatClampNeg (-1 : Int32)) k = ma_R e0 k) rfl rfl rfl hk) (no_u1 (no_u1 (no_u1 (ab_LR hE) (by decide)) (by decide)) (by decide)) (ab_LR hE')
  refine ⟨o', f', r', ⟨hw', hb, ha, hE', hV', hN', hL, hN'.F, hN'.R, hN'.C, hN'.L, hrow⟩, ?_, ?_⟩
  · unfold cf_X3_resize
    rw [e0_s]
    show Except.ok (nI o', nI f', nI r', (0 : Int64), cf_X3_firstState (nI o') (nI f') (nI r') (nI b) (nI a) (0 : Int64)) = _
    rw [← e0_s, cs_firstState hw' hE' ha]
  · unfold cf_X6_size
    rw [if_neg c1a, if_neg (show ¬ (4 : Int32) < nI o' from Int32.not_lt.mpr c1b), if_neg c2a, if_neg (show ¬ (2 : Int32) < nI f' from Int32.not_lt.mpr c2b), if_neg c3a, if_pos c3b]
    unfold cf_X6_size_s36
    rw [f_0]
    refine (if_pos rfl).trans ?_
    unfold cf_X6_size_s61_0 cf_X6_size_s61_1 cf_X6_size_s61_2 cf_X6_size_s61_3 cf_X6_size_s61_4 cf_X6_size_s61_5 cf_X6_size_s61_6 cf_X6_size_s61_7 cf_X6_size_s61_8 cf_X6_size_s88_0 cf_X6_size_s88_1 cf_X6_size_s88_2 cf_X6_size_s88_3 cf_X6_size_s113
    rw [eF, eR, ms_first hw' hE' ha rl lf ov nF nR nC nL]
    rfl
theorem it_1 {x : Int32} (ho : 1 ≤ o) (h4 : o ≤ 4) : cf_X6_isThing (nI o) x = 0 ↔ (x < -1 ∨ ¬ x ≤ nI o - 1) := by
  unfold cf_X6_isThing cf_X6_isThing_s17
  by_cases c : x < -1
  · rw [if_pos c]; exact ⟨fun _ => Or.inl c, fun _ => rfl⟩
  · rw [if_neg c]
    by_cases d : nI o ≤ x
    · rw [if_pos d]; exact ⟨fun _ => Or.inr (fun q => (p_le ho (by omega)).mp q d), fun _ => rfl⟩
    · rw [if_neg d]; exact ⟨fun q => absurd q f_n, fun q => q.elim (fun y => absurd y c) (fun y => absurd ((p_le ho (by omega)).mpr d) y)⟩
theorem pr_point (hI : LI o f r b a L E D g_F g_R g_C g_L t_W g_W) (x y z : Int32) : vc_X6_point m_th (nI o) (nI f) (nI a) (ma_F E) (ma_R E) g_F g_R g_C g_L rl lf ov (ab_n D) x y z ∧
    ((cf_X5_point (nI o) (nI f) (nI r) (nI b) (nI a) (ab_s (ab_1 E 0)) (ab_s D) x y z = .error ex_A ∧ cf_X6_point m_th (nI o) (nI f) (nI a) (ma_F E) (ma_R E) g_F g_R g_C g_L rl lf ov (ab_n D) x y z = (1, ma_F E, g_F, g_R, g_C, g_L, rl, lf, ov, ab_n D)) ∨
    (∃ E', LI o f r b a L E' (ab_1 E' a) (ma_F (ab_1 E' a)) (ma_R (ab_1 E' a)) (ma_C (ab_1 E' a)) (ma_L (ab_1 E' a)) t_W g_W ∧ cf_X5_point (nI o) (nI f) (nI r) (nI b) (nI a) (ab_s (ab_1 E 0)) (ab_s D) x y z = .ok (ab_s (ab_1 E' 0), ab_s (ab_1 E' a)) ∧ cf_X6_point m_th (nI o) (nI f) (nI a) (ma_F E) (ma_R E) g_F g_R g_C g_L rl lf ov (ab_n D) x y z = (0, ma_F E', ma_F (ab_1 E' a), ma_R (ab_1 E' a), ma_C (ab_1 E' a), ma_L (ab_1 E' a), nI ((ab_1 E' a) 4 0), nI ((ab_1 E' a) 4 1), nI ((ab_1 E' a) 4 2), ab_n (ab_1 E' a)) ∧ ma_R E' = ma_R E)) := by
  obtain ⟨hw, hb, ha, hE, hV, hN, hL, nF, nR, nC, nL, hrow⟩ := id hI
  obtain ⟨w1, w2, w3, w4, w5, w6⟩ := id hw
  have bad : ∀ x y z, cf_X6_point_s33 m_th (nI o) (nI f) (nI a) (ma_F E) (ma_R E) g_F g_R g_C g_L rl lf ov (ab_n D) x y z = (1, ma_F E, g_F, g_R, g_C, g_L, rl, lf, ov, ab_n D) ∧ vc_X6_point_s33 m_th (nI o) (nI f) (nI a) (ma_F E) (ma_R E) g_F g_R g_C g_L rl lf ov (ab_n D) x y z := by
    intro x y z
    unfold cf_X6_point_s33 cf_X6_point_s38 vc_X6_point_s33 vc_X6_point_s38
    rw [f_1]; exact ⟨if_neg f_n, fun q => absurd q f_n, fun _ => trivial⟩
  unfold cf_X5_point cf_X6_point vc_X6_point
  by_cases c1 : x < (0 : Int32)
  · rw [if_pos (Or.inl c1), if_pos c1]
    exact ⟨⟨fun _ => (bad x y z).2, fun q => absurd c1 q⟩, Or.inl ⟨rfl, (bad x y z).1⟩⟩
  by_cases c2 : nI o ≤ x
  · rw [if_pos (Or.inr (fun q => (p_le w1 (by omega)).mp q c2)), if_neg c1, if_pos c2]
    exact ⟨⟨fun q => absurd q c1, fun _ => ⟨fun _ => (bad x y z).2, fun q => absurd c2 q⟩⟩, Or.inl ⟨rfl, (bad x y z).1⟩⟩
  have c2' := (p_le (x := x) w1 (by omega)).mpr c2
  rw [if_neg (fun q => q.elim c1 (fun z => z c2')), if_neg c1, if_neg c2]
  by_cases c3 : y < (0 : Int32)
  · rw [if_pos (Or.inl c3), if_pos c3]
    exact ⟨⟨fun q => absurd q c1, fun _ => ⟨fun q => absurd q c2, fun _ => ⟨fun _ => (bad x y z).2, fun q => absurd c3 q⟩⟩⟩, Or.inl ⟨rfl, (bad x y z).1⟩⟩
  by_cases c4 : nI f ≤ y
  · rw [if_pos (Or.inr (fun q => (p_le w3 (by omega)).mp q c4)), if_neg c3, if_pos c4]
    exact ⟨⟨fun q => absurd q c1, fun _ => ⟨fun q => absurd q c2, fun _ => ⟨fun q => absurd q c3, fun _ => ⟨fun _ => (bad x y z).2, fun q => absurd c4 q⟩⟩⟩⟩, Or.inl ⟨rfl, (bad x y z).1⟩⟩
  have c4' := (p_le (x := y) w3 (by omega)).mpr c4
  rw [if_neg (fun q => q.elim c3 (fun z => z c4')), if_neg c3, if_neg c4]
  by_cases c5 : cf_X6_isThing (nI o) z = 0
  · rw [if_pos ((it_1 w1 w2).mp c5), if_pos c5]
    exact ⟨⟨fun q => absurd q c1, fun _ => ⟨fun q => absurd q c2, fun _ => ⟨fun q => absurd q c3, fun _ => ⟨fun q => absurd q c4, fun _ => ⟨fun _ => (bad x y z).2, fun q => absurd c5 q⟩⟩⟩⟩⟩, Or.inl ⟨rfl, (bad x y z).1⟩⟩
  have c5' := fun q => c5 ((it_1 w1 w2).mpr q)
  rw [if_neg c5', if_neg c5]
  rw [p_pred w1] at c2'
  rw [p_pred w3] at c4'
  obtain ⟨i, -, hi, rfl⟩ := p_rg (lo := 0) (hi := o - 1) c1 c2' (by omega) (by omega)
  obtain ⟨j, -, hj, rfl⟩ := p_rg (lo := 0) (hi := f - 1) c3 c4' (by omega) (by omega)
  obtain ⟨t, ht, rfl⟩ := p_to w1 w2 (fun q => c5' (Or.inl q)) (Classical.byContradiction (fun q => c5' (Or.inr q)))
  have e1 : (2 : Int32) * nI i + nI j = nI (2 * i + j) := ms_2x (by omega) (by omega)
  have hin : vp_in (nI (2 * i + j)) 8 := vp_in_nI (by omega) (by omega)
  have hE' : ab_L o f r (ab_up E 0 (2 * i + j) t) := by
    refine ⟨fun k hk => ?_, fun k hk => ?_, fun k hk => ?_, fun k hk => ?_⟩
    · by_cases q : k = 2 * i + j
      · rw [q, ab_us]; exact ⟨ht, fun z => by omega⟩
      · rw [ab_un _ _ (by omega)]; exact hE.1 k hk
    · rw [ab_un _ _ (by omega)]; exact hE.2.1 k hk
    · rw [ab_un _ _ (by omega)]; exact hE.2.2.1 k hk
    · rw [ab_un _ _ (by omega)]; exact hE.2.2.2 k hk
  have hV' := ab_1V hw hE' ha
  have hN' : ab_N (ab_1 (ab_up E 0 (2 * i + j) t) a) := ab_1N hE'
  have eu : upd (ma_F E) ((2 : Int32) * nI i + nI j).toNatClampNeg (nI t - 1) = ma_F (ab_up E 0 (2 * i + j) t) := by rw [e1, nI_clamp (by omega), ma_upF]
  have eR : ma_R (ab_up E 0 (2 * i + j) t) = ma_R E := ma_Rx (by omega)
  have el : cf_X4_withField (ab_s (ab_1 E 0)) (nI i) (nI j) (nI t - 1) = ab_s (ab_1 (ab_up E 0 (2 * i + j) t) 0) := by
    rw [cs_withField ((ab_1V hw hE (Nat.zero_le 8)).B hw) (by omega) (by omega) (by omega)]
    refine congrArg lN (ab_E.sN ⟨fun k _ => ?_, fun k _ => ?_, fun k _ => ⟨?_, ?_⟩, ?_, ?_, ?_⟩)
    · show ab_up (ab_1 E 0) 0 (2 * i + j) t 0 k = ab_up E 0 (2 * i + j) t 0 k
      by_cases q : k = 2 * i + j
      · rw [q, ab_us, ab_us]
      · rw [ab_un _ _ (by omega), ab_un _ _ (by omega)]; rfl
    · show ab_up (ab_1 E 0) 0 (2 * i + j) t 1 k = ab_up E 0 (2 * i + j) t 1 k
      rw [ab_un _ _ (by omega), ab_un _ _ (by omega)]; rfl
    · rw [ab_un _ _ (by omega)]; rfl
    · rw [ab_un _ _ (by omega)]; rfl
    · rw [ab_un _ _ (by omega)]; rfl
    · rw [ab_un _ _ (by omega)]; rfl
    · rw [ab_un _ _ (by omega)]; rfl
  have mo : cf_X6_point_s38 m_th (nI o) (nI f) (nI a) (ma_F E) (ma_R E) g_F g_R g_C g_L rl lf ov (ab_n D) (nI i) (nI j) (nI t - 1) (0 : Int32) = (0, ma_F (ab_up E 0 (2 * i + j) t), ma_F (ab_1 (ab_up E 0 (2 * i + j) t) a), ma_R (ab_1 (ab_up E 0 (2 * i + j) t) a), ma_C (ab_1 (ab_up E 0 (2 * i + j) t) a), ma_L (ab_1 (ab_up E 0 (2 * i + j) t) a), nI ((ab_1 (ab_up E 0 (2 * i + j) t) a) 4 0), nI ((ab_1 (ab_up E 0 (2 * i + j) t) a) 4 1), nI ((ab_1 (ab_up E 0 (2 * i + j) t) a) 4 2), ab_n (ab_1 (ab_up E 0 (2 * i + j) t) a)) ∧ vc_X6_point_s38 m_th (nI o) (nI f) (nI a) (ma_F E) (ma_R E) g_F g_R g_C g_L rl lf ov (ab_n D) (nI i) (nI j) (nI t - 1) (0 : Int32) := by
    unfold cf_X6_point_s38 vc_X6_point_s38 cf_X6_point_s61
    rw [f_0, eu, ← eR, ms_first hw hE' ha rl lf ov nF nR nC nL]
    refine ⟨(if_pos rfl).trans rfl, fun _ => ⟨by rw [e1]; exact hin, trivial⟩, fun q => absurd rfl q⟩
  refine ⟨⟨fun q => absurd q c1, fun _ => ⟨fun q => absurd q c2, fun _ => ⟨fun q => absurd q c3, fun _ => ⟨fun q => absurd q c4, fun _ => ⟨fun q => absurd q c5, fun _ => mo.2⟩⟩⟩⟩⟩, Or.inr ⟨ab_up E 0 (2 * i + j) t, hI.to hE' hV' hN', ?_, mo.1, eR⟩⟩
  rw [el, cs_firstState hw hE' ha]
theorem pr_root (hI : LI o f r b a L E D g_F g_R g_C g_L t_W g_W) (x z : Int32) : vc_X6_root m_th (nI o) (nI r) (nI a) (ma_F E) (ma_R E) g_F g_R g_C g_L rl lf ov (ab_n D) x z ∧
    ((cf_X5_root (nI o) (nI f) (nI r) (nI b) (nI a) (ab_s (ab_1 E 0)) (ab_s D) x z = .error ex_A ∧ cf_X6_root m_th (nI o) (nI r) (nI a) (ma_F E) (ma_R E) g_F g_R g_C g_L rl lf ov (ab_n D) x z = (1, ma_R E, g_F, g_R, g_C, g_L, rl, lf, ov, ab_n D)) ∨
    (∃ E', LI o f r b a L E' (ab_1 E' a) (ma_F (ab_1 E' a)) (ma_R (ab_1 E' a)) (ma_C (ab_1 E' a)) (ma_L (ab_1 E' a)) t_W g_W ∧ cf_X5_root (nI o) (nI f) (nI r) (nI b) (nI a) (ab_s (ab_1 E 0)) (ab_s D) x z = .ok (ab_s (ab_1 E' 0), ab_s (ab_1 E' a)) ∧ cf_X6_root m_th (nI o) (nI r) (nI a) (ma_F E) (ma_R E) g_F g_R g_C g_L rl lf ov (ab_n D) x z = (0, ma_R E', ma_F (ab_1 E' a), ma_R (ab_1 E' a), ma_C (ab_1 E' a), ma_L (ab_1 E' a), nI ((ab_1 E' a) 4 0), nI ((ab_1 E' a) 4 1), nI ((ab_1 E' a) 4 2), ab_n (ab_1 E' a)) ∧ ma_F E' = ma_F E)) := by
  obtain ⟨hw, hb, ha, hE, hV, hN, hL, nF, nR, nC, nL, hrow⟩ := id hI
  obtain ⟨w1, w2, w3, w4, w5, w6⟩ := id hw
  have bad : ∀ x z, cf_X6_root_s21 m_th (nI o) (nI r) (nI a) (ma_F E) (ma_R E) g_F g_R g_C g_L rl lf ov (ab_n D) x z = (1, ma_R E, g_F, g_R, g_C, g_L, rl, lf, ov, ab_n D) ∧ vc_X6_root_s21 m_th (nI o) (nI r) (nI a) (ma_F E) (ma_R E) g_F g_R g_C g_L rl lf ov (ab_n D) x z := by
    intro x z
    unfold cf_X6_root_s21 cf_X6_root_s26 vc_X6_root_s21 vc_X6_root_s26
    rw [f_1]; exact ⟨if_neg f_n, fun q => absurd q f_n, fun _ => trivial⟩
  unfold cf_X5_root cf_X6_root vc_X6_root
  by_cases c1 : x < (0 : Int32)
  · rw [if_pos (Or.inl c1), if_pos c1]
    exact ⟨⟨fun _ => (bad x z).2, fun q => absurd c1 q⟩, Or.inl ⟨rfl, (bad x z).1⟩⟩
  by_cases c2 : nI r ≤ x
  · rw [if_pos (Or.inr (fun q => (p_le w5 (by omega)).mp q c2)), if_neg c1, if_pos c2]
    exact ⟨⟨fun q => absurd q c1, fun _ => ⟨fun _ => (bad x z).2, fun q => absurd c2 q⟩⟩, Or.inl ⟨rfl, (bad x z).1⟩⟩
  have c2' := (p_le (x := x) w5 (by omega)).mpr c2
  rw [if_neg (fun q => q.elim c1 (fun z => z c2')), if_neg c1, if_neg c2]
  by_cases c5 : cf_X6_isThing (nI o) z = 0
  · rw [if_pos ((it_1 w1 w2).mp c5), if_pos c5]
    exact ⟨⟨fun q => absurd q c1, fun _ => ⟨fun q => absurd q c2, fun _ => ⟨fun _ => (bad x z).2, fun q => absurd c5 q⟩⟩⟩, Or.inl ⟨rfl, (bad x z).1⟩⟩
  have c5' := fun q => c5 ((it_1 w1 w2).mpr q)
  rw [if_neg c5', if_neg c5]
  rw [p_pred w5] at c2'
  obtain ⟨i, -, hi, rfl⟩ := p_rg (lo := 0) (hi := r - 1) c1 c2' (by omega) (by omega)
  obtain ⟨t, ht, rfl⟩ := p_to w1 w2 (fun q => c5' (Or.inl q)) (Classical.byContradiction (fun q => c5' (Or.inr q)))
  have hin : vp_in (nI i) 3 := vp_in_nI (by omega) (by omega)
  have hE' : ab_L o f r (ab_up E 1 i t) := by
    refine ⟨fun k hk => ?_, fun k hk => ?_, fun k hk => ?_, fun k hk => ?_⟩
    · rw [ab_un _ _ (by omega)]; exact hE.1 k hk
    · by_cases q : k = i
      · rw [q, ab_us]; exact ⟨ht, fun z => by omega⟩
      · rw [ab_un _ _ (by omega)]; exact hE.2.1 k hk
    · rw [ab_un _ _ (by omega)]; exact hE.2.2.1 k hk
    · rw [ab_un _ _ (by omega)]; exact hE.2.2.2 k hk
  have hV' := ab_1V hw hE' ha
  have hN' : ab_N (ab_1 (ab_up E 1 i t) a) := ab_1N hE'
  have eu : upd (ma_R E) (nI i).toNatClampNeg (nI t - 1) = ma_R (ab_up E 1 i t) := by rw [nI_clamp (by omega), ma_upR]
  have eF : ma_F (ab_up E 1 i t) = ma_F E := ma_Fx (by omega)
  have el : cf_X4_withRoot (ab_s (ab_1 E 0)) (nI i) (nI t - 1) = ab_s (ab_1 (ab_up E 1 i t) 0) := by
    rw [cs_withRoot ((ab_1V hw hE (Nat.zero_le 8)).B hw) (by omega) (by omega)]
    refine congrArg lN (ab_E.sN ⟨fun k _ => ?_, fun k _ => ?_, fun k _ => ⟨?_, ?_⟩, ?_, ?_, ?_⟩)
    · show ab_up (ab_1 E 0) 1 i t 0 k = ab_up E 1 i t 0 k
      rw [ab_un _ _ (by omega), ab_un _ _ (by omega)]; rfl
    · show ab_up (ab_1 E 0) 1 i t 1 k = ab_up E 1 i t 1 k
      by_cases q : k = i
      · rw [q, ab_us, ab_us]
      · rw [ab_un _ _ (by omega), ab_un _ _ (by omega)]; rfl
    · rw [ab_un _ _ (by omega)]; rfl
    · rw [ab_un _ _ (by omega)]; rfl
    · rw [ab_un _ _ (by omega)]; rfl
    · rw [ab_un _ _ (by omega)]; rfl
    · rw [ab_un _ _ (by omega)]; rfl
  have mo : cf_X6_root_s26 m_th (nI o) (nI r) (nI a) (ma_F E) (ma_R E) g_F g_R g_C g_L rl lf ov (ab_n D) (nI i) (nI t - 1) (0 : Int32) = (0, ma_R (ab_up E 1 i t), ma_F (ab_1 (ab_up E 1 i t) a), ma_R (ab_1 (ab_up E 1 i t) a), ma_C (ab_1 (ab_up E 1 i t) a), ma_L (ab_1 (ab_up E 1 i t) a), nI ((ab_1 (ab_up E 1 i t) a) 4 0), nI ((ab_1 (ab_up E 1 i t) a) 4 1), nI ((ab_1 (ab_up E 1 i t) a) 4 2), ab_n (ab_1 (ab_up E 1 i t) a)) ∧ vc_X6_root_s26 m_th (nI o) (nI r) (nI a) (ma_F E) (ma_R E) g_F g_R g_C g_L rl lf ov (ab_n D) (nI i) (nI t - 1) (0 : Int32) := by
    unfold cf_X6_root_s26 vc_X6_root_s26 cf_X6_root_s45
    rw [f_0, eu, ← eF, ms_first hw hE' ha rl lf ov nF nR nC nL]
    exact ⟨(if_pos rfl).trans rfl, fun _ => ⟨hin, trivial⟩, fun q => absurd rfl q⟩
  refine ⟨⟨fun q => absurd q c1, fun _ => ⟨fun q => absurd q c2, fun _ => ⟨fun q => absurd q c5, fun _ => mo.2⟩⟩⟩, Or.inr ⟨ab_up E 1 i t, hI.to hE' hV' hN', ?_, mo.1, eF⟩⟩
  rw [el, cs_firstState hw hE' ha]
theorem pr_rules (hI : LI o f r b a L E D g_F g_R g_C g_L t_W g_W) (x y : Int32) :
    (cf_X5_rules (nI o) (nI f) (nI r) (nI b) (nI a) (ab_s (ab_1 E 0)) (ab_s D) x y = .error ex_A ∧ cf_X6_rules m_th (nI b) (nI a) (ma_F E) (ma_R E) g_F g_R g_C g_L rl lf ov (ab_n D) x y = (1, nI b, nI a, g_F, g_R, g_C, g_L, rl, lf, ov, ab_n D)) ∨
    (∃ b' a', LI o f r b' a' L E (ab_1 E a') (ma_F (ab_1 E a')) (ma_R (ab_1 E a')) (ma_C (ab_1 E a')) (ma_L (ab_1 E a')) t_W g_W ∧ cf_X5_rules (nI o) (nI f) (nI r) (nI b) (nI a) (ab_s (ab_1 E 0)) (ab_s D) x y = .ok (nI b', nI a', ab_s (ab_1 E a')) ∧ cf_X6_rules m_th (nI b) (nI a) (ma_F E) (ma_R E) g_F g_R g_C g_L rl lf ov (ab_n D) x y = (0, nI b', nI a', ma_F (ab_1 E a'), ma_R (ab_1 E a'), ma_C (ab_1 E a'), ma_L (ab_1 E a'), nI ((ab_1 E a') 4 0), nI ((ab_1 E a') 4 1), nI ((ab_1 E a') 4 2), ab_n (ab_1 E a'))) := by
  obtain ⟨hw, hb, ha, hE, hV, hN, hL, nF, nR, nC, nL, hrow⟩ := id hI
  obtain ⟨w1, w2, w3, w4, w5, w6⟩ := id hw
  have bad : ∀ x y, cf_X6_rules_s21 m_th (nI b) (nI a) (ma_F E) (ma_R E) g_F g_R g_C g_L rl lf ov (ab_n D) x y = (1, nI b, nI a, g_F, g_R, g_C, g_L, rl, lf, ov, ab_n D) := by
    intro x y
    unfold cf_X6_rules_s21 cf_X6_rules_s26
    rw [f_1]; exact if_neg f_n
  unfold cf_X5_rules cf_X6_rules
  by_cases c1 : x < (0 : Int32)
  · rw [if_pos (Or.inl c1), if_pos c1]; exact Or.inl ⟨rfl, bad x y⟩
  by_cases c2 : x ≤ (127 : Int32)
  · rw [if_neg (fun q => q.elim c1 (fun z => z c2)), if_neg c1, if_neg (show ¬ (127 : Int32) < x from Int32.not_lt.mpr c2)]
    by_cases c3 : y < (0 : Int32)
    · rw [if_pos (Or.inl c3), if_pos c3]; exact Or.inl ⟨rfl, bad x y⟩
    by_cases c4 : y ≤ (8 : Int32)
    · rw [if_neg (fun q => q.elim c3 (fun z => z c4)), if_neg c3, if_pos c4]
      right
      obtain ⟨b', -, hb', rfl⟩ := p_rg (lo := 0) (hi := 127) c1 c2 (by omega) (by omega)
      obtain ⟨a', -, ha', rfl⟩ := p_rg (lo := 0) (hi := 8) c3 c4 (by omega) (by omega)
      have hN' : ab_N (ab_1 E a') := ab_1N hE
      refine ⟨b', a', ⟨hw, by omega, ha', hE, ab_1V hw hE ha', hN', hL, hN'.F, hN'.R, hN'.C, hN'.L, hrow⟩, by rw [cs_firstState hw hE ha'], ?_⟩
      unfold cf_X6_rules_s26 cf_X6_rules_s48
      rw [f_0, ms_first hw hE ha' rl lf ov nF nR nC nL]
      exact (if_pos rfl).trans rfl
    · rw [if_pos (Or.inr c4), if_neg c3, if_neg c4]; exact Or.inl ⟨rfl, bad x y⟩
  · rw [if_pos (Or.inr c2), if_neg c1, if_pos (show (127 : Int32) < x from Int32.not_le.mp c2)]; exact Or.inl ⟨rfl, bad x y⟩
end PR

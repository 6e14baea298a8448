section PS
variable {o f r b a L fu : Nat} {E D : ab_D} {m_th rl lf ov sn m_st : Int32} {g_F g_R g_C g_L t_W g_W g_O g_Y g_H g_M t_O t_H : Nat → Int32} {g_S t_S : Nat → Int64}
theorem pr_find (hI : LI o f r b a L E D g_F g_R g_C g_L t_W g_W) (hfu : 66000 < fu) (x : Int32) : vc_X5_find fu (nI o) (nI f) (nI r) (nI b) (nI a) (ab_s (ab_1 E 0)) t_S t_O t_H sn t_W (nI L) x ∧ vc_X6_find fu m_th (nI o) (nI f) (nI r) (nI b) (nI a) (ma_F E) (ma_R E) g_F g_R g_C g_L rl lf ov g_S g_O g_Y g_H m_st g_W (nI L) sn g_M x ∧
    ((cf_X5_find fu (nI o) (nI f) (nI r) (nI b) (nI a) (ab_s (ab_1 E 0)) t_S t_O t_H sn t_W (nI L) x = .error ex_A ∧ cf_X6_find fu m_th (nI o) (nI f) (nI r) (nI b) (nI a) (ma_F E) (ma_R E) g_F g_R g_C g_L rl lf ov g_S g_O g_Y g_H m_st g_W (nI L) sn g_M x = (1, g_F, g_R, g_C, g_L, rl, lf, ov, g_S, g_O, g_Y, g_H, m_st, g_W, nI L, sn, g_M, 0)) ∨
    (∃ L' S' O' H' n' W' F2 R2 C2 L2 rl2 lf2 ov2 S2 O2 Y2 H2 st2 W2 M2 res, LI o f r b a L' E D F2 R2 C2 L2 W' W2 ∧ cf_X5_find fu (nI o) (nI f) (nI r) (nI b) (nI a) (ab_s (ab_1 E 0)) t_S t_O t_H sn t_W (nI L) x = .ok ((S', O', H', n', W', nI L'), res) ∧ cf_X6_find fu m_th (nI o) (nI f) (nI r) (nI b) (nI a) (ma_F E) (ma_R E) g_F g_R g_C g_L rl lf ov g_S g_O g_Y g_H m_st g_W (nI L) sn g_M x = (0, F2, R2, C2, L2, rl2, lf2, ov2, S2, O2, Y2, H2, st2, W2, nI L', n', M2, res))) := by
  obtain ⟨hw, hb, ha, hE, hV, hN, hL, nF, nR, nC, nL, hrow⟩ := id hI
  obtain ⟨w1, w2, w3, w4, w5, w6⟩ := id hw
  have bad : cf_X6_find_s10 fu m_th (nI o) (nI f) (nI r) (nI b) (nI a) (ma_F E) (ma_R E) g_F g_R g_C g_L rl lf ov g_S g_O g_Y g_H m_st g_W (nI L) sn g_M x = (1, g_F, g_R, g_C, g_L, rl, lf, ov, g_S, g_O, g_Y, g_H, m_st, g_W, nI L, sn, g_M, 0) ∧ vc_X6_find_s10 fu m_th (nI o) (nI f) (nI r) (nI b) (nI a) (ma_F E) (ma_R E) g_F g_R g_C g_L rl lf ov g_S g_O g_Y g_H m_st g_W (nI L) sn g_M x := by
    unfold cf_X6_find_s10 cf_X6_find_s15 vc_X6_find_s10 vc_X6_find_s15
    rw [f_1]; exact ⟨if_neg f_n, fun q => absurd q f_n, fun _ => trivial⟩
  unfold vc_X5_find cf_X5_find cf_X6_find vc_X6_find
  by_cases c1 : x < (0 : Int32)
  · rw [if_pos (Or.inl c1), if_pos c1]
    exact ⟨fun q => absurd (Or.inl c1) q, ⟨fun _ => bad.2, fun q => absurd c1 q⟩, Or.inl ⟨rfl, bad.1⟩⟩
  by_cases c2 : x ≤ (3 : Int32)
  · rw [if_neg (fun q => q.elim c1 (fun z => z c2)), if_neg c1, if_pos c2]
    obtain ⟨w, -, hw3, rfl⟩ := p_rg (lo := 0) (hi := 3) c1 c2 (by omega) (by omega)
    have hV1 := ab_1V hw hE ha
    have hN1 : ab_N (ab_1 E a) := ab_1N hE
    obtain ⟨S', O', H', W', K', res, e1, v1, o1⟩ := sr_all (fu := fu) (wo := nI o) (wa := nI a) (wl := ab_s (ab_1 E 0)) (t_W := t_W) (sk := nI L) (t_S := t_S) (t_O := t_O) (t_H := t_H) (sn := sn) hw hb (show w < 4 by omega) (by omega) hV1 hN1
    obtain ⟨F2, R2, C2, L2, rl2, lf2, ov2, S2, O2, Y2, H2, M2, W2, K2, res2, ⟨m1, m2, m3, m4⟩, e2, v2, o2⟩ := mf_L (fu := fu) (m_th := 0) (m_st := m_st) (rl := rl) (lf := lf) (ov := ov) (g_S := g_S) (g_O := g_O) (g_Y := g_Y) (g_M := g_M) (g_W := g_W) (rm := nI L) (fs := sn) hw hb (show w < 4 by omega) hfu hE ha nF nR nC nL 65536 0 fu g_H rfl (by omega) (fun t ht => absurd ht (Nat.not_lt_zero _))
    have hI1 : bf_I o f r (bf_fin f r b (fun D => sp_br D w) (ab_1 E a)) := by unfold bf_fin; exact (bf_0I hV1).out (b := b) (br := fun D => sp_br D w) hw 20000
    have hJ1 : bf_J f r (bf_fin f r b (fun D => sp_br D w) (ab_1 E a)) := by unfold bf_fin; exact bf_J.out (b := b) (br := fun D => sp_br D w) hw (bf_0I hV1) (bf_0J hN1) 20000
    have h40 := bf_len40 hw hI1 hJ1 (i := bf_n (bf_fin f r b (fun D => sp_br D w) (ab_1 E a)) - 1) (by have := hI1.1; omega)
    rw [cs_firstState hw hE ha, e1]
    have mo : cf_X6_find_s15 fu m_th (nI o) (nI f) (nI r) (nI b) (nI a) (ma_F E) (ma_R E) g_F g_R g_C g_L rl lf ov g_S g_O g_Y g_H m_st g_W (nI L) sn g_M (nI w) (0 : Int32) = (0, F2, R2, C2, L2, rl2, lf2, ov2, S2, O2, Y2, H2, nI (bf_n (bf_fin f r b (fun D => sp_br D w) (ab_1 E a))), W2, K2, nI (bf_n (bf_fin f r b (fun D => sp_br D w) (ab_1 E a))), M2, res2) ∧ vc_X6_find_s15 fu m_th (nI o) (nI f) (nI r) (nI b) (nI a) (ma_F E) (ma_R E) g_F g_R g_C g_L rl lf ov g_S g_O g_Y g_H m_st g_W (nI L) sn g_M (nI w) (0 : Int32) := by
      unfold cf_X6_find_s15 vc_X6_find_s15
      rw [f_0]
      exact ⟨(if_pos rfl).trans e2, fun _ => v2, fun q => absurd rfl q⟩
    refine ⟨fun _ => ⟨v1, trivial⟩, ⟨fun q => absurd q c1, fun _ => ⟨fun _ => mo.2, fun q => absurd c2 q⟩⟩, Or.inr ?_⟩
    rw [mo.1]
    have hc := hI1.2.2.1
    have fin : ∀ L', L' ≤ 40 → K' = nI L' → K2 = nI L' → res2 = res → (∀ k, k < L' → W2 k = W' k) → ∃ L' S2' O2' H2' n' W'' F3 R3 C3 L3 rl3 lf3 ov3 S3 O3 Y3 H3 st3 W3 M3 res', LI o f r b a L' E D F3 R3 C3 L3 W'' W3 ∧ Except.ok (ε := String) ((S', O', H', nI (bf_n (bf_fin f r b (fun D => sp_br D w) (ab_1 E a))), W', K'), res) = .ok ((S2', O2', H2', n', W'', nI L'), res') ∧ (((0 : Int32), F2, R2, C2, L2, rl2, lf2, ov2, S2, O2, Y2, H2, nI (bf_n (bf_fin f r b (fun D => sp_br D w) (ab_1 E a))), W2, K2, nI (bf_n (bf_fin f r b (fun D => sp_br D w) (ab_1 E a))), M2, res2) : Int32 × (Nat → Int32) × (Nat → Int32) × (Nat → Int32) × (Nat → Int32) × Int32 × Int32 × Int32 × (Nat → Int64) × (Nat → Int32) × (Nat → Int32) × (Nat → Int32) × Int32 × (Nat → Int32) × Int32 × Int32 × (Nat → Int32) × Int32) = (0, F3, R3, C3, L3, rl3, lf3, ov3, S3, O3, Y3, H3, st3, W3, nI L', n', M3, res') := by
      intro L' h1 h2 h3 h4 h5
      subst h2 h3 h4
      exact ⟨L', _, _, _, _, _, _, _, _, _, _, _, _, _, _, _, _, _, _, _, _, ⟨hw, hb, ha, hE, hV, hN, h1, m1, m2, m3, m4, h5⟩, rfl, rfl⟩
    rcases (show bf_c (bf_fin f r b (fun D => sp_br D w) (ab_1 E a)) = 0 ∨ bf_c (bf_fin f r b (fun D => sp_br D w) (ab_1 E a)) = 1 ∨ bf_c (bf_fin f r b (fun D => sp_br D w) (ab_1 E a)) = 2 by omega) with q | q | q
    · obtain ⟨a1, a2, a3⟩ := o1.1 q
      obtain ⟨b1, b2, b3⟩ := o2.1 q
      exact fin 0 (Nat.zero_le _) a3 b3 (b1.trans a1.symm) (fun k hk => absurd hk (Nat.not_lt_zero _))
    · obtain ⟨a1, a2, a3⟩ := o1.2.1 q
      obtain ⟨b1, b2, b3⟩ := o2.2.1 q
      exact fin _ h40 (a2.trans a1) (b2.trans b1) (b1.trans a1.symm) (fun k hk => (b3 k hk).trans (a3 k hk).symm)
    · obtain ⟨a1, a2, a3⟩ := o1.2.2 q
      obtain ⟨b1, b2, b3⟩ := o2.2.2 q
      exact fin 0 (Nat.zero_le _) a3 b3 (b1.trans a1.symm) (fun k hk => absurd hk (Nat.not_lt_zero _))
  · rw [if_pos (Or.inr c2), if_neg c1, if_neg c2]
    exact ⟨fun q => absurd (Or.inr c2) q, ⟨fun q => absurd q c1, fun _ => ⟨fun q => absurd q c2, fun _ => bad.2⟩⟩, Or.inl ⟨rfl, bad.1⟩⟩
theorem pr_act (hI : LI o f r b a L E D g_F g_R g_C g_L t_W g_W) (x : Int32) : vc_X5_act t_W (nI L) x ∧ vc_X6_act m_th g_W (nI L) x ∧
    ((cf_X5_act t_W (nI L) x = .error ex_I ∧ cf_X6_act m_th g_W (nI L) x = (1, 0)) ∨ (∃ v, cf_X5_act t_W (nI L) x = .ok ((), v) ∧ cf_X6_act m_th g_W (nI L) x = (0, v))) := by
  obtain ⟨hw, hb, ha, hE, hV, hN, hL, nF, nR, nC, nL, hrow⟩ := id hI
  obtain ⟨w1, w2, w3, w4, w5, w6⟩ := id hw
  have bad : cf_X6_act_s13 m_th g_W (nI L) x = (1, 0) ∧ vc_X6_act_s13 m_th g_W (nI L) x := by
    unfold cf_X6_act_s13 cf_X6_act_s18 vc_X6_act_s13 vc_X6_act_s18
    rw [f_1]; exact ⟨if_neg f_n, fun q => absurd q f_n, fun _ => trivial⟩
  unfold vc_X5_act cf_X5_act cf_X6_act vc_X6_act
  by_cases c1 : x < 0
  · rw [if_pos c1, if_pos c1]
    exact ⟨⟨fun _ => trivial, fun q => absurd c1 q⟩, ⟨fun _ => bad.2, fun q => absurd c1 q⟩, Or.inl ⟨rfl, bad.1⟩⟩
  by_cases c2 : x < nI L
  · rw [if_neg c1, if_pos c2, if_neg c1, if_pos c2]
    obtain ⟨j, hj, rfl⟩ := nI_of c1
    have hjL : j < L := by rw [Int32.lt_iff_toInt_lt, nI_toInt hj, nI_toInt (by omega)] at c2; omega
    have mo : cf_X6_act_s18 m_th g_W (nI L) (nI j) (0 : Int32) = (0, g_W (nI j).toNatClampNeg) ∧ vc_X6_act_s18 m_th g_W (nI L) (nI j) (0 : Int32) := by
      unfold cf_X6_act_s18 vc_X6_act_s18
      rw [f_0]
      exact ⟨if_pos rfl, fun _ => ⟨vp_in_nI (by omega) (by omega), trivial⟩, fun q => absurd rfl q⟩
    refine ⟨⟨fun q => absurd q c1, fun _ => ⟨fun _ => ⟨vp_in_nI (by omega) (by omega), trivial⟩, fun q => absurd c2 q⟩⟩, ⟨fun q => absurd q c1, fun _ => ⟨fun _ => mo.2, fun q => absurd c2 q⟩⟩, Or.inr ⟨t_W (nI j).toNatClampNeg, rfl, mo.1.trans ?_⟩⟩
    rw [nI_clamp hj, hrow j hjL]
  · rw [if_neg c1, if_neg c2, if_neg c1, if_neg c2]
    exact ⟨⟨fun q => absurd q c1, fun _ => ⟨fun q => absurd q c2, fun _ => trivial⟩⟩, ⟨fun q => absurd q c1, fun _ => ⟨fun q => absurd q c2, fun _ => bad.2⟩⟩, Or.inl ⟨rfl, bad.1⟩⟩
theorem pr_play (hI : LI o f r b a L E D g_F g_R g_C g_L t_W g_W) (hfu : 66000 < fu) (x : Int32) : vc_X5_play fu (nI o) (nI f) (nI r) (nI b) (nI a) (ab_s (ab_1 E 0)) (ab_s D) x ∧ vc_X6_play m_th (nI o) (nI f) (nI r) (nI b) g_F g_R g_C g_L rl lf ov (ab_n D) x ∧
    ((cf_X5_play fu (nI o) (nI f) (nI r) (nI b) (nI a) (ab_s (ab_1 E 0)) (ab_s D) x = .error ex_A ∧ cf_X6_play m_th (nI o) (nI f) (nI r) (nI b) g_F g_R g_C g_L rl lf ov (ab_n D) x = (1, ma_F (D), ma_R (D), ma_C (D), ma_L (D), nI ((D) 4 0), nI ((D) 4 1), nI ((D) 4 2), ab_n D, 0)) ∨ (cf_X5_play fu (nI o) (nI f) (nI r) (nI b) (nI a) (ab_s (ab_1 E 0)) (ab_s D) x = .error ex_S ∧ cf_X6_play m_th (nI o) (nI f) (nI r) (nI b) g_F g_R g_C g_L rl lf ov (ab_n D) x = (2, ma_F (D), ma_R (D), ma_C (D), ma_L (D), nI ((D) 4 0), nI ((D) 4 1), nI ((D) 4 2), ab_n D, 0)) ∨
    (∃ D' res, LI o f r b a L E (D') (ma_F (D')) (ma_R (D')) (ma_C (D')) (ma_L (D')) t_W g_W ∧ cf_X5_play fu (nI o) (nI f) (nI r) (nI b) (nI a) (ab_s (ab_1 E 0)) (ab_s D) x = .ok (ab_s D', res) ∧ cf_X6_play m_th (nI o) (nI f) (nI r) (nI b) g_F g_R g_C g_L rl lf ov (ab_n D) x = (0, ma_F (D'), ma_R (D'), ma_C (D'), ma_L (D'), nI ((D') 4 0), nI ((D') 4 1), nI ((D') 4 2), ab_n D', res))) := by
  obtain ⟨hw, hb, ha, hE, hV, hN, hL, nF, nR, nC, nL, hrow⟩ := id hI
  obtain ⟨w1, w2, w3, w4, w5, w6⟩ := id hw
  have hB := hV.B hw
  have bad : cf_X6_play_s19 m_th (nI o) (nI f) (nI r) (nI b) (ma_F (D)) (ma_R (D)) (ma_C (D)) (ma_L (D)) (nI ((D) 4 0)) (nI ((D) 4 1)) (nI ((D) 4 2)) (ab_n D) x = (1, ma_F (D), ma_R (D), ma_C (D), ma_L (D), nI ((D) 4 0), nI ((D) 4 1), nI ((D) 4 2), ab_n D, 0) ∧ vc_X6_play_s19 m_th (nI o) (nI f) (nI r) (nI b) (ma_F (D)) (ma_R (D)) (ma_C (D)) (ma_L (D)) (nI ((D) 4 0)) (nI ((D) 4 1)) (nI ((D) 4 2)) (ab_n D) x := by
    unfold cf_X6_play_s19 cf_X6_play_s36 vc_X6_play_s19 vc_X6_play_s36
    rw [f_1]; exact ⟨if_neg f_n, fun q => absurd q f_n, fun _ => trivial⟩
  unfold vc_X5_play cf_X5_play cf_X6_play vc_X6_play
  rw [ms_takeN hB hN rl lf ov nF nR nC nL]
  unfold cf_X6_play_s8 vc_X6_play_s8
  by_cases c1 : x < (0 : Int32)
  · rw [if_pos (Or.inl c1), if_pos c1]
    exact ⟨fun q => absurd (Or.inl c1) q, ⟨fun _ => bad.2, fun q => absurd c1 q⟩, Or.inl ⟨rfl, bad.1⟩⟩
  by_cases c2 : x ≤ (49 : Int32)
  · obtain ⟨k, -, hk, rfl⟩ := p_rg (lo := 0) (hi := 49) c1 c2 (by omega) (by omega)
    have c3 : nI k < (50 : Int32) := (nl_lt (c := 50) (by omega) (by omega)).mpr (by omega)
    have ec := ms_canDo hw hV (k := k) (by omega)
    rw [if_neg (fun q => q.elim c1 (fun z => z c2)), if_neg c1, if_pos c3, cs_behind hw hV hb (by omega), ec.1]
    by_cases cc : sp_can f r D k = true
    · rw [if_pos cc, if_pos cc, if_neg (fun q => ab_s_m1 ((sp_act_V hw hV (by omega) cc).B hw) ((lg_cmp_eq _ _).mp q)), if_neg f_n]
      have hV' := sp_act_V (b := b) hw hV (show k < 50 by omega) cc
      have hN' : ab_N (sp_act f r b D k) := hN.act hw hV (by omega) cc
      have e1 := cs_many (fu := fu) (wo := nI o) (wa := nI a) (wl := ab_s (ab_1 E 0)) (D := sp_act f r b D k) hw hV' hb (by omega)
      have e2 := ms_many hw hV'
      have e3 := ms_act0 hw hV hb (show k < 50 by omega) cc
      have mo : cf_X6_play_s36 m_th (nI o) (nI f) (nI r) (nI b) (ma_F (D)) (ma_R (D)) (ma_C (D)) (ma_L (D)) (nI ((D) 4 0)) (nI ((D) 4 1)) (nI ((D) 4 2)) (ab_n D) (nI k) (0 : Int32) = (0, ma_F (sp_act f r b D k), ma_R (sp_act f r b D k), ma_C (sp_act f r b D k), ma_L (sp_act f r b D k), nI ((sp_act f r b D k) 4 0), nI ((sp_act f r b D k) 4 1), nI ((sp_act f r b D k) 4 2), ab_n (sp_act f r b D k), nI (sp_n f r (sp_act f r b D k))) ∧ vc_X6_play_s36 m_th (nI o) (nI f) (nI r) (nI b) (ma_F (D)) (ma_R (D)) (ma_C (D)) (ma_L (D)) (nI ((D) 4 0)) (nI ((D) 4 1)) (nI ((D) 4 2)) (ab_n D) (nI k) (0 : Int32) := by
        unfold cf_X6_play_s36 vc_X6_play_s36 cf_X6_play_s49 vc_X6_play_s49
        rw [f_0, e3.1, e2.1, ms_number (hV'.B hw)]
        exact ⟨if_pos rfl, fun _ => ⟨e3.2, e2.2, trivial⟩, fun q => absurd rfl q⟩
      rw [e1.1]
      refine ⟨fun _ => ⟨fun _ => trivial, fun _ => ⟨e1.2, trivial⟩⟩, ⟨fun q => absurd q c1, fun _ => ⟨fun _ => ⟨ec.2, fun q => absurd q f_n, fun _ => mo.2⟩, fun q => absurd c3 q⟩⟩, Or.inr (Or.inr ⟨sp_act f r b D k, nI (sp_n f r (sp_act f r b D k)), hI.to hE hV' hN', rfl, mo.1⟩)⟩
    · rw [if_neg cc, if_neg cc, if_pos ((lg_cmp_eq _ _).mpr rfl), if_pos rfl]
      have mo : cf_X6_play_s36 m_th (nI o) (nI f) (nI r) (nI b) (ma_F (D)) (ma_R (D)) (ma_C (D)) (ma_L (D)) (nI ((D) 4 0)) (nI ((D) 4 1)) (nI ((D) 4 2)) (ab_n D) (nI k) (2 : Int32) = (2, ma_F (D), ma_R (D), ma_C (D), ma_L (D), nI ((D) 4 0), nI ((D) 4 1), nI ((D) 4 2), ab_n D, 0) ∧ vc_X6_play_s36 m_th (nI o) (nI f) (nI r) (nI b) (ma_F (D)) (ma_R (D)) (ma_C (D)) (ma_L (D)) (nI ((D) 4 0)) (nI ((D) 4 1)) (nI ((D) 4 2)) (ab_n D) (nI k) (2 : Int32) := by
        unfold cf_X6_play_s36 vc_X6_play_s36
        rw [f_2]
        exact ⟨if_neg f_n, fun q => absurd q f_n, fun _ => trivial⟩
      exact ⟨fun _ => ⟨fun _ => trivial, fun q => absurd ((lg_cmp_eq _ _).mpr rfl) q⟩, ⟨fun q => absurd q c1, fun _ => ⟨fun _ => ⟨ec.2, fun _ => mo.2, fun q => absurd rfl q⟩, fun q => absurd c3 q⟩⟩, Or.inr (Or.inl ⟨rfl, mo.1⟩)⟩
  · have c3 : ¬ x < (50 : Int32) := fun q => c2 (by
      rw [Int32.lt_iff_toInt_lt] at q
      rw [Int32.le_iff_toInt_le]
      have e1 : ((50 : Int32)).toInt = 50 := by decide +kernel
      have e2 : ((49 : Int32)).toInt = 49 := by decide +kernel
      omega)
    rw [if_pos (Or.inr c2), if_neg c1, if_neg c3]
    exact ⟨fun q => absurd (Or.inr c2) q, ⟨fun q => absurd q c1, fun _ => ⟨fun q => absurd q c3, fun _ => bad.2⟩⟩, Or.inl ⟨rfl, bad.1⟩⟩
theorem pr_again (hI : LI o f r b a L E D g_F g_R g_C g_L t_W g_W) (hfu : 66000 < fu) : vc_X5_again fu (nI o) (nI f) (nI r) (nI b) (nI a) (ab_s (ab_1 E 0)) (ab_s D) ∧ vc_X6_again m_th (nI o) (nI f) (nI r) (nI a) (ma_F E) (ma_R E) g_F g_R g_C g_L rl lf ov (ab_n D) ∧ LI o f r b a L E (ab_1 E a) (ma_F (ab_1 E a)) (ma_R (ab_1 E a)) (ma_C (ab_1 E a)) (ma_L (ab_1 E a)) t_W g_W ∧
    ∃ res, cf_X5_again fu (nI o) (nI f) (nI r) (nI b) (nI a) (ab_s (ab_1 E 0)) (ab_s D) = .ok (ab_s (ab_1 E a), res) ∧ cf_X6_again m_th (nI o) (nI f) (nI r) (nI a) (ma_F E) (ma_R E) g_F g_R g_C g_L rl lf ov (ab_n D) = (0, ma_F (ab_1 E a), ma_R (ab_1 E a), ma_C (ab_1 E a), ma_L (ab_1 E a), nI ((ab_1 E a) 4 0), nI ((ab_1 E a) 4 1), nI ((ab_1 E a) 4 2), ab_n (ab_1 E a), res) := by
  obtain ⟨hw, hb, ha, hE, hV, hN, hL, nF, nR, nC, nL, hrow⟩ := id hI
  obtain ⟨w1, w2, w3, w4, w5, w6⟩ := id hw
  have hV' := ab_1V hw hE ha
  have hN' : ab_N (ab_1 E a) := ab_1N hE
  have e1 := cs_many (fu := fu) (wo := nI o) (wa := nI a) (wl := ab_s (ab_1 E 0)) (D := ab_1 E a) hw hV' hb (by omega)
  have e2 := ms_many hw hV'
  unfold vc_X5_again cf_X5_again cf_X6_again vc_X6_again
  rw [cs_firstState hw hE ha, e1.1, ms_first hw hE ha rl lf ov nF nR nC nL]
  unfold cf_X6_again_s10 vc_X6_again_s10
  refine ⟨⟨e1.2, trivial⟩, ⟨e2.2, trivial⟩, hI.to hE hV' hN', nI (sp_n f r (ab_1 E a)), rfl, ?_⟩
  exact congrArg (fun z => ((0 : Int32), ma_F (ab_1 E a), ma_R (ab_1 E a), ma_C (ab_1 E a), ma_L (ab_1 E a), nI ((ab_1 E a) 4 0), nI ((ab_1 E a) 4 1), nI ((ab_1 E a) 4 2), ab_n (ab_1 E a), z)) e2.1
theorem p_nb {p : Prop} [Decidable p] : narrow .boolean (.int (if p then 1 else 0 : Int32)) = .int (if p then 1 else 0 : Int32) := by
  by_cases h : p
  · rw [if_pos h]; decide
  · rw [if_neg h]; decide
theorem pr_broken (hI : LI o f r b a L E D g_F g_R g_C g_L t_W g_W) (hfu : 66000 < fu) (x : Int32) : vc_X6_broken fu m_th (nI o) (nI f) (nI r) g_F g_R g_C g_L rl lf ov (ab_n D) g_M x ∧
    ((cf_X5_broken (ab_s D) x = .error ex_A ∧ cf_X6_broken fu m_th (nI o) (nI f) (nI r) g_F g_R g_C g_L rl lf ov (ab_n D) g_M x = (1, g_F, g_R, g_C, g_L, rl, lf, ov, g_M, 0)) ∨ (∃ M' v, cf_X5_broken (ab_s D) x = .ok ((), v) ∧ cf_X6_broken fu m_th (nI o) (nI f) (nI r) g_F g_R g_C g_L rl lf ov (ab_n D) g_M x = (0, ma_F (D), ma_R (D), ma_C (D), ma_L (D), nI ((D) 4 0), nI ((D) 4 1), nI ((D) 4 2), M', v))) := by
  obtain ⟨hw, hb, ha, hE, hV, hN, hL, nF, nR, nC, nL, hrow⟩ := id hI
  obtain ⟨w1, w2, w3, w4, w5, w6⟩ := id hw
  have hB := hV.B hw
  have bad : cf_X6_broken_s10 fu m_th (nI o) (nI f) (nI r) g_F g_R g_C g_L rl lf ov (ab_n D) g_M x = (1, g_F, g_R, g_C, g_L, rl, lf, ov, g_M, 0) ∧ vc_X6_broken_s10 fu m_th (nI o) (nI f) (nI r) g_F g_R g_C g_L rl lf ov (ab_n D) g_M x := by
    unfold cf_X6_broken_s10 cf_X6_broken_s15 vc_X6_broken_s10 vc_X6_broken_s15
    rw [f_1]; exact ⟨if_neg f_n, fun q => absurd q f_n, fun _ => trivial⟩
  unfold cf_X5_broken cf_X6_broken vc_X6_broken
  by_cases c1 : x < (0 : Int32)
  · rw [if_pos (Or.inl c1), if_pos c1]
    exact ⟨⟨fun _ => bad.2, fun q => absurd c1 q⟩, Or.inl ⟨rfl, bad.1⟩⟩
  by_cases c2 : x ≤ (3 : Int32)
  · rw [if_neg (fun q => q.elim c1 (fun z => z c2)), if_neg c1, if_pos c2]
    obtain ⟨w, -, hw3, rfl⟩ := p_rg (lo := 0) (hi := 3) c1 c2 (by omega) (by omega)
    obtain ⟨M', e1, v1⟩ := ms_isBroken (fu := fu) (g := g_M) hw hV (by omega) (show w < 4 by omega)
    rw [cs_isBroken hB (show w < 4 by omega)]
    have mo : cf_X6_broken_s15 fu m_th (nI o) (nI f) (nI r) g_F g_R g_C g_L rl lf ov (ab_n D) g_M (nI w) (0 : Int32) = (0, ma_F (D), ma_R (D), ma_C (D), ma_L (D), nI ((D) 4 0), nI ((D) 4 1), nI ((D) 4 2), M', if sp_br D w = true then 1 else 0) ∧ vc_X6_broken_s15 fu m_th (nI o) (nI f) (nI r) g_F g_R g_C g_L rl lf ov (ab_n D) g_M (nI w) (0 : Int32) := by
      unfold cf_X6_broken_s15 vc_X6_broken_s15
      rw [f_0, ms_takeN hB hN rl lf ov nF nR nC nL]
      unfold cf_X6_broken_s31 vc_X6_broken_s31
      rw [e1]
      exact ⟨if_pos rfl, fun _ => ⟨v1, p_nb, trivial⟩, fun q => absurd rfl q⟩
    exact ⟨⟨fun q => absurd q c1, fun _ => ⟨fun _ => mo.2, fun q => absurd c2 q⟩⟩, Or.inr ⟨M', _, rfl, mo.1⟩⟩
  · rw [if_pos (Or.inr c2), if_neg c1, if_neg c2]
    exact ⟨⟨fun q => absurd q c1, fun _ => ⟨fun q => absurd q c2, fun _ => bad.2⟩⟩, Or.inl ⟨rfl, bad.1⟩⟩
theorem pr_colour (hI : LI o f r b a L E D g_F g_R g_C g_L t_W g_W) (x : Int32) : vc_X6_colour m_th (nI o) g_F g_R g_C g_L rl lf ov (ab_n D) x ∧
    ((cf_X5_colour (nI o) (ab_s D) x = .error ex_A ∧ cf_X6_colour m_th (nI o) g_F g_R g_C g_L rl lf ov (ab_n D) x = (1, g_F, g_R, g_C, g_L, rl, lf, ov, 0)) ∨ (∃ v, cf_X5_colour (nI o) (ab_s D) x = .ok ((), v) ∧ cf_X6_colour m_th (nI o) g_F g_R g_C g_L rl lf ov (ab_n D) x = (0, ma_F (D), ma_R (D), ma_C (D), ma_L (D), nI ((D) 4 0), nI ((D) 4 1), nI ((D) 4 2), v))) := by
  obtain ⟨hw, hb, ha, hE, hV, hN, hL, nF, nR, nC, nL, hrow⟩ := id hI
  obtain ⟨w1, w2, w3, w4, w5, w6⟩ := id hw
  have hB := hV.B hw
  have bad : cf_X6_colour_s13 m_th (nI o) g_F g_R g_C g_L rl lf ov (ab_n D) x = (1, g_F, g_R, g_C, g_L, rl, lf, ov, 0) ∧ vc_X6_colour_s13 m_th (nI o) g_F g_R g_C g_L rl lf ov (ab_n D) x := by
    unfold cf_X6_colour_s13 cf_X6_colour_s18 vc_X6_colour_s13 vc_X6_colour_s18
    rw [f_1]; exact ⟨if_neg f_n, fun q => absurd q f_n, fun _ => trivial⟩
  unfold cf_X5_colour cf_X6_colour vc_X6_colour
  by_cases c1 : x < (0 : Int32)
  · rw [if_pos (Or.inl c1), if_pos c1]
    exact ⟨⟨fun _ => bad.2, fun q => absurd c1 q⟩, Or.inl ⟨rfl, bad.1⟩⟩
  by_cases c2 : x < nI o
  · have c2' := (p_le (x := x) w1 (by omega)).mpr ((p_lt (by omega)).mp c2)
    rw [if_neg (fun q => q.elim c1 (fun z => z c2')), if_neg c1, if_pos c2]
    rw [p_pred w1] at c2'
    obtain ⟨i, -, hi, rfl⟩ := p_rg (lo := 0) (hi := o - 1) c1 c2' (by omega) (by omega)
    have h3 := hV.2.2.1 i (by omega)
    have mo : cf_X6_colour_s18 m_th (nI o) g_F g_R g_C g_L rl lf ov (ab_n D) (nI i) (0 : Int32) = (0, ma_F (D), ma_R (D), ma_C (D), ma_L (D), nI ((D) 4 0), nI ((D) 4 1), nI ((D) 4 2), nI (D 2 i)) ∧ vc_X6_colour_s18 m_th (nI o) g_F g_R g_C g_L rl lf ov (ab_n D) (nI i) (0 : Int32) := by
      unfold cf_X6_colour_s18 vc_X6_colour_s18
      rw [f_0, ms_takeN hB hN rl lf ov nF nR nC nL]
      unfold cf_X6_colour_s34 vc_X6_colour_s34
      rw [nI_clamp (by omega)]
      exact ⟨if_pos rfl, fun _ => ⟨vp_in_nI (by omega) (by omega), trivial⟩, fun q => absurd rfl q⟩
    refine ⟨⟨fun q => absurd q c1, fun _ => ⟨fun _ => mo.2, fun q => absurd c2 q⟩⟩, Or.inr ⟨nI (D 2 i), ?_, mo.1⟩⟩
    have ew : cf_X4_isWhite (ab_s D) (nI i) = if D 2 i = 0 then 1 else 0 := by
      have := cs_isWhite hB (t := i + 1) (by omega) (fun q => h3.2.2.2 (by have q : D 2 i = 0 := q; omega))
      rw [nI_pred] at this
      rw [this]
      by_cases q : D 2 i = 0 <;> simp [sp_w, q]
    rw [cs_isBlack hB (show i < 4 by omega), ew]
    rcases (show D 2 i = 0 ∨ D 2 i = 1 ∨ D 2 i = 2 by omega) with q | q | q <;> rw [q] <;> rfl
  · have c2' := fun z => (p_le (x := x) w1 (by omega)).mp z
    rw [if_pos (Or.inr (fun z => c2 ((p_lt (by omega)).mpr (c2' z)))), if_neg c1, if_neg c2]
    exact ⟨⟨fun q => absurd q c1, fun _ => ⟨fun q => absurd q c2, fun _ => bad.2⟩⟩, Or.inl ⟨rfl, bad.1⟩⟩
theorem pr_field (hI : LI o f r b a L E D g_F g_R g_C g_L t_W g_W) (x y : Int32) : vc_X6_field m_th (nI o) (nI f) g_F g_R g_C g_L rl lf ov (ab_n D) x y ∧
    ((cf_X5_field (nI o) (nI f) (ab_s D) x y = .error ex_A ∧ cf_X6_field m_th (nI o) (nI f) g_F g_R g_C g_L rl lf ov (ab_n D) x y = (1, g_F, g_R, g_C, g_L, rl, lf, ov, 0)) ∨ (∃ v, cf_X5_field (nI o) (nI f) (ab_s D) x y = .ok ((), v) ∧ cf_X6_field m_th (nI o) (nI f) g_F g_R g_C g_L rl lf ov (ab_n D) x y = (0, ma_F (D), ma_R (D), ma_C (D), ma_L (D), nI ((D) 4 0), nI ((D) 4 1), nI ((D) 4 2), v))) := by
  obtain ⟨hw, hb, ha, hE, hV, hN, hL, nF, nR, nC, nL, hrow⟩ := id hI
  obtain ⟨w1, w2, w3, w4, w5, w6⟩ := id hw
  have hB := hV.B hw
  have bad : cf_X6_field_s25 m_th (nI o) (nI f) g_F g_R g_C g_L rl lf ov (ab_n D) x y = (1, g_F, g_R, g_C, g_L, rl, lf, ov, 0) ∧ vc_X6_field_s25 m_th (nI o) (nI f) g_F g_R g_C g_L rl lf ov (ab_n D) x y := by
    unfold cf_X6_field_s25 cf_X6_field_s30 vc_X6_field_s25 vc_X6_field_s30
    rw [f_1]; exact ⟨if_neg f_n, fun q => absurd q f_n, fun _ => trivial⟩
  unfold cf_X5_field cf_X6_field vc_X6_field
  by_cases c1 : x < (0 : Int32)
  · rw [if_pos (Or.inl c1), if_pos c1]
    exact ⟨⟨fun _ => bad.2, fun q => absurd c1 q⟩, Or.inl ⟨rfl, bad.1⟩⟩
  by_cases c2 : nI o ≤ x
  · rw [if_pos (Or.inr (fun q => (p_le w1 (by omega)).mp q c2)), if_neg c1, if_pos c2]
    exact ⟨⟨fun q => absurd q c1, fun _ => ⟨fun _ => bad.2, fun q => absurd c2 q⟩⟩, Or.inl ⟨rfl, bad.1⟩⟩
  have c2' := (p_le (x := x) w1 (by omega)).mpr c2
  rw [if_neg (fun q => q.elim c1 (fun z => z c2')), if_neg c1, if_neg c2]
  by_cases c3 : y < (0 : Int32)
  · rw [if_pos (Or.inl c3), if_pos c3]
    exact ⟨⟨fun q => absurd q c1, fun _ => ⟨fun q => absurd q c2, fun _ => ⟨fun _ => bad.2, fun q => absurd c3 q⟩⟩⟩, Or.inl ⟨rfl, bad.1⟩⟩
  by_cases c4 : y < nI f
  · have c4' := (p_le (x := y) w3 (by omega)).mpr ((p_lt (by omega)).mp c4)
    rw [if_neg (fun q => q.elim c3 (fun z => z c4')), if_neg c3, if_pos c4]
    rw [p_pred w1] at c2'
    rw [p_pred w3] at c4'
    obtain ⟨i, -, hi, rfl⟩ := p_rg (lo := 0) (hi := o - 1) c1 c2' (by omega) (by omega)
    obtain ⟨j, -, hj, rfl⟩ := p_rg (lo := 0) (hi := f - 1) c3 c4' (by omega) (by omega)
    have e1 : (2 : Int32) * nI i + nI j = nI (2 * i + j) := ms_2x (by omega) (by omega)
    have mo : cf_X6_field_s30 m_th (nI o) (nI f) g_F g_R g_C g_L rl lf ov (ab_n D) (nI i) (nI j) (0 : Int32) = (0, ma_F (D), ma_R (D), ma_C (D), ma_L (D), nI ((D) 4 0), nI ((D) 4 1), nI ((D) 4 2), nI (D 0 (2 * i + j)) - 1) ∧ vc_X6_field_s30 m_th (nI o) (nI f) g_F g_R g_C g_L rl lf ov (ab_n D) (nI i) (nI j) (0 : Int32) := by
      unfold cf_X6_field_s30 vc_X6_field_s30
      rw [f_0, ms_takeN hB hN rl lf ov nF nR nC nL]
      unfold cf_X6_field_s46 vc_X6_field_s46
      rw [e1, nI_clamp (by omega)]
      exact ⟨if_pos rfl, fun _ => ⟨vp_in_nI (by omega) (by omega), trivial⟩, fun q => absurd rfl q⟩
    refine ⟨⟨fun q => absurd q c1, fun _ => ⟨fun q => absurd q c2, fun _ => ⟨fun q => absurd q c3, fun _ => ⟨fun _ => mo.2, fun q => absurd c4 q⟩⟩⟩⟩, Or.inr ⟨_, ?_, mo.1⟩⟩
    rw [cs_inField hB (show i < 4 by omega) (show j < 2 by omega)]
  · have c4' := fun z => (p_le (x := y) w3 (by omega)).mp z
    rw [if_pos (Or.inr (fun z => c4 ((p_lt (by omega)).mpr (c4' z)))), if_neg c3, if_neg c4]
    exact ⟨⟨fun q => absurd q c1, fun _ => ⟨fun q => absurd q c2, fun _ => ⟨fun q => absurd q c3, fun _ => ⟨fun q => absurd q c4, fun _ => bad.2⟩⟩⟩⟩, Or.inl ⟨rfl, bad.1⟩⟩
theorem pr_has (hI : LI o f r b a L E D g_F g_R g_C g_L t_W g_W) (x : Int32) : vc_X6_has m_th (nI r) g_F g_R g_C g_L rl lf ov (ab_n D) x ∧
    ((cf_X5_has (nI r) (ab_s D) x = .error ex_A ∧ cf_X6_has m_th (nI r) g_F g_R g_C g_L rl lf ov (ab_n D) x = (1, g_F, g_R, g_C, g_L, rl, lf, ov, 0)) ∨ (∃ v, cf_X5_has (nI r) (ab_s D) x = .ok ((), v) ∧ cf_X6_has m_th (nI r) g_F g_R g_C g_L rl lf ov (ab_n D) x = (0, ma_F (D), ma_R (D), ma_C (D), ma_L (D), nI ((D) 4 0), nI ((D) 4 1), nI ((D) 4 2), v))) := by
  obtain ⟨hw, hb, ha, hE, hV, hN, hL, nF, nR, nC, nL, hrow⟩ := id hI
  obtain ⟨w1, w2, w3, w4, w5, w6⟩ := id hw
  have hB := hV.B hw
  have bad : cf_X6_has_s13 m_th (nI r) g_F g_R g_C g_L rl lf ov (ab_n D) x = (1, g_F, g_R, g_C, g_L, rl, lf, ov, 0) ∧ vc_X6_has_s13 m_th (nI r) g_F g_R g_C g_L rl lf ov (ab_n D) x := by
    unfold cf_X6_has_s13 cf_X6_has_s18 vc_X6_has_s13 vc_X6_has_s18
    rw [f_1]; exact ⟨if_neg f_n, fun q => absurd q f_n, fun _ => trivial⟩
  unfold cf_X5_has cf_X6_has vc_X6_has
  by_cases c1 : x < (0 : Int32)
  · rw [if_pos (Or.inl c1), if_pos c1]
    exact ⟨⟨fun _ => bad.2, fun q => absurd c1 q⟩, Or.inl ⟨rfl, bad.1⟩⟩
  by_cases c2 : x < nI r
  · have c2' := (p_le (x := x) w5 (by omega)).mpr ((p_lt (by omega)).mp c2)
    rw [if_neg (fun q => q.elim c1 (fun z => z c2')), if_neg c1, if_pos c2]
    rw [p_pred w5] at c2'
    obtain ⟨i, -, hi, rfl⟩ := p_rg (lo := 0) (hi := r - 1) c1 c2' (by omega) (by omega)
    have mo : cf_X6_has_s18 m_th (nI r) g_F g_R g_C g_L rl lf ov (ab_n D) (nI i) (0 : Int32) = (0, ma_F (D), ma_R (D), ma_C (D), ma_L (D), nI ((D) 4 0), nI ((D) 4 1), nI ((D) 4 2), nI (D 1 i) - 1) ∧ vc_X6_has_s18 m_th (nI r) g_F g_R g_C g_L rl lf ov (ab_n D) (nI i) (0 : Int32) := by
      unfold cf_X6_has_s18 vc_X6_has_s18
      rw [f_0, ms_takeN hB hN rl lf ov nF nR nC nL]
      unfold cf_X6_has_s34 vc_X6_has_s34
      rw [nI_clamp (by omega)]
      exact ⟨if_pos rfl, fun _ => ⟨vp_in_nI (by omega) (by omega), trivial⟩, fun q => absurd rfl q⟩
    refine ⟨⟨fun q => absurd q c1, fun _ => ⟨fun _ => mo.2, fun q => absurd c2 q⟩⟩, Or.inr ⟨_, ?_, mo.1⟩⟩
    rw [cs_inRoot hB (show i < 3 by omega)]
  · have c2' := fun z => (p_le (x := x) w5 (by omega)).mp z
    rw [if_pos (Or.inr (fun z => c2 ((p_lt (by omega)).mpr (c2' z)))), if_neg c1, if_neg c2]
    exact ⟨⟨fun q => absurd q c1, fun _ => ⟨fun q => absurd q c2, fun _ => bad.2⟩⟩, Or.inl ⟨rfl, bad.1⟩⟩
theorem pr_count (hI : LI o f r b a L E D g_F g_R g_C g_L t_W g_W) (x : Int32) :
    (cf_X5_count (nI o) (nI f) (nI r) (nI b) (nI a) sn (nI L) (ab_s D) x = .error ex_A ∧ cf_X6_count m_th (nI o) (nI f) (nI r) (nI b) (nI a) g_F g_R g_C g_L rl lf ov (ab_n D) (nI L) sn x = (1, g_F, g_R, g_C, g_L, rl, lf, ov, 0)) ∨ (∃ v, cf_X5_count (nI o) (nI f) (nI r) (nI b) (nI a) sn (nI L) (ab_s D) x = .ok ((), v) ∧ cf_X6_count m_th (nI o) (nI f) (nI r) (nI b) (nI a) g_F g_R g_C g_L rl lf ov (ab_n D) (nI L) sn x = (0, ma_F (D), ma_R (D), ma_C (D), ma_L (D), nI ((D) 4 0), nI ((D) 4 1), nI ((D) 4 2), v)) := by
  obtain ⟨hw, hb, ha, hE, hV, hN, hL, nF, nR, nC, nL, hrow⟩ := id hI
  obtain ⟨w1, w2, w3, w4, w5, w6⟩ := id hw
  have hB := hV.B hw
  have bad : cf_X6_count_s11 m_th (nI o) (nI f) (nI r) (nI b) (nI a) g_F g_R g_C g_L rl lf ov (ab_n D) (nI L) sn x = (1, g_F, g_R, g_C, g_L, rl, lf, ov, 0) := by
    unfold cf_X6_count_s11 cf_X6_count_s16
    rw [f_1]; exact if_neg f_n
  unfold cf_X5_count cf_X6_count
  by_cases c1 : x < (0 : Int32)
  · rw [if_pos (Or.inl c1), if_pos c1]; exact Or.inl ⟨rfl, bad⟩
  by_cases c2 : x ≤ (8 : Int32)
  · rw [if_neg (fun q => q.elim c1 (fun z => z c2)), if_neg c1, if_pos c2]
    right
    unfold cf_X6_count_s16
    rw [f_0, ms_takeN hB hN rl lf ov nF nR nC nL]
    rw [if_pos (show ((0 : Int32), (0 : Int32)).2 = 0 from rfl)]
    unfold cf_X6_count_s32
    by_cases k0 : x = 0
    · rw [if_pos k0, if_pos k0] ; exact ⟨_, rfl, rfl⟩
    rw [if_neg k0, if_neg k0]
    by_cases k1 : x = 1
    · rw [if_pos k1, if_pos k1] ; exact ⟨_, rfl, rfl⟩
    rw [if_neg k1, if_neg k1]
    by_cases k2 : x = 2
    · rw [if_pos k2, if_pos k2] ; exact ⟨_, rfl, rfl⟩
    rw [if_neg k2, if_neg k2]
    by_cases k3 : x = 3
    · rw [if_pos k3, if_pos k3] ; exact ⟨_, rfl, rfl⟩
    rw [if_neg k3, if_neg k3]
    by_cases k4 : x = 4
    · rw [if_pos k4, if_pos k4] ; exact ⟨_, rfl, rfl⟩
    rw [if_neg k4, if_neg k4]
    by_cases k5 : x = 5
    · rw [if_pos k5, if_pos k5] ; exact ⟨_, rfl, rfl⟩
    rw [if_neg k5, if_neg k5]
    by_cases k6 : x = 6
    · rw [if_pos k6, if_pos k6] ; exact ⟨_, rfl, rfl⟩
    rw [if_neg k6, if_neg k6]
    by_cases k7 : x = 7
    · rw [if_pos k7, if_pos k7, cs_isOver hB]
      rcases (show D 4 2 = 0 ∨ D 4 2 = 1 by have := hB.2.2.2.2.2; omega) with q | q <;> rw [q] <;> exact ⟨_, rfl, rfl⟩
    rw [if_neg k7, if_neg k7, cs_actsLeft hB]
    exact ⟨_, rfl, rfl⟩
  · rw [if_pos (Or.inr c2), if_neg c1, if_neg c2]; exact Or.inl ⟨rfl, bad⟩
end PS

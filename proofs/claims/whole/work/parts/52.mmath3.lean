theorem sp_s1_ne {D : ab_D} {b x t k a j : Nat} (h2 : a ≠ 2) (h3 : a ≠ 3) : sp_s1 b D x t k a j = D a j := by unfold sp_s1; rw [sp_gb_ne h2 h3, sp_gb_ne h2 h3]
theorem sp_s2_ne {D : ab_D} {b x t k a j : Nat} (h2 : a ≠ 2) (h3 : a ≠ 3) : sp_s2 b D x t k a j = D a j := by
  unfold sp_s2; split
  · rw [sp_g_ne h2 h3, sp_s1_ne h2 h3]
  · exact sp_s1_ne h2 h3
theorem sp_s3_ne {D : ab_D} {b x t k a j : Nat} (h2 : a ≠ 2) (h3 : a ≠ 3) : sp_s3 b D x t k a j = D a j := by
  unfold sp_s3; split
  · rw [ab_un _ _ (by omega), ab_un _ _ (by omega), sp_s2_ne h2 h3]
  · exact sp_s2_ne h2 h3
theorem sp_store_ne {D : ab_D} {b c x k a j : Nat} (h0 : a ≠ 0) (h2 : a ≠ 2) (h3 : a ≠ 3) : sp_store b D x c k a j = D a j := by
  unfold sp_store; rw [ab_un _ _ (by omega), sp_s3_ne h2 h3]
section ME
variable {o f r b : Nat} {D : ab_D}
theorem ms_end (hw : ab_W o f r) (h : ab_V o f r D) (hb : b < 128) (hov : D 4 2 = 0) : cf_X6_end (nI r) (nI b) (ma_R D) (ma_C D) (ma_L D) (nI (D 4 2)) = (ma_C (sp_end b D), ma_L (sp_end b D), nI (sp_end b D 4 2)) ∧ vc_X6_end (nI r) (nI b) (ma_R D) (ma_C D) (ma_L D) (nI (D 4 2)) := by
  obtain ⟨w1, w2, w3, w4, w5, w6⟩ := id hw
  have g32 := ms_bars (cs_bits b hb).2.2.2.2.2.1
  have l0 : ¬ nI r ≤ (0 : Int32) := fun z => by have := (nl_le (c := 0) (show r < 200 by omega) (by omega)).mp z; omega
  unfold cf_X6_end vc_X6_end
  by_cases q5 : sp_bit b 5 = false
  · have hs : sp_some b D = false := by unfold sp_some; rw [q5]; rfl
    unfold cf_X6_end_s4_0 vc_X6_end_s4_0 cf_X6_end_s65 sp_end
    rw [if_neg l0, if_pos (g32.mpr q5), if_pos rfl, if_neg (show ¬ sp_some b D = true by rw [hs]; decide), ma_Cx (by omega), ma_Lx (by omega), ab_us]
    exact ⟨rfl, fun _ => trivial, fun _ => ⟨fun _ => trivial, fun y => absurd (g32.mpr q5) y⟩⟩
  · have V1 := sp_g_V hw h (h.R (k := 0) (by omega))
    have V2 := sp_g_V hw V1 (h.R (k := 1) (by omega))
    have V3 := sp_g_V hw V2 (h.R (k := 2) (by omega))
    have r1 : sp_g D (D 1 0) 1 1 = D 1 1 := sp_g_ne (by omega) (by omega)
    have r2 : sp_g (sp_g D (D 1 0)) (D 1 1) 1 2 = D 1 2 := by rw [sp_g_ne (by omega) (by omega), sp_g_ne (by omega) (by omega)]
    have m1 : ma_R (sp_g D (D 1 0)) = ma_R D := ma_Rg
    have m2 : ma_R (sp_g (sp_g D (D 1 0)) (D 1 1)) = ma_R D := by rw [ma_Rg, ma_Rg]
    -- how the flag stands
    have hfl : ∀ x : Int32, x = (if sp_w (sp_g (sp_g D (D 1 0)) (D 1 1)) (D 1 2) = true then 1 else (if sp_w (sp_g D (D 1 0)) (D 1 1) = true then 1 else (if sp_w D (D 1 0) = true then 1 else 0))) → (x = 0 ↔ sp_some b D = false) := by
      intro x hx
      have h5 : sp_bit b 5 = true := by simpa using q5
      have e : ∀ t, sp_w D t = false → sp_g D t = D := fun t q => by unfold sp_g; rw [if_neg (by rw [q]; decide)]
      unfold sp_some
      rw [h5, hx]
      by_cases a0 : sp_w D (D 1 0) = true
      · have n1 : ∀ c1 c2 : Bool, (if c2 = true then (1 : Int32) else if c1 = true then 1 else 1) ≠ 0 := by decide +kernel
        rw [if_pos a0, a0]
        exact ⟨fun y => absurd y (n1 _ _), fun y => by simp at y⟩
      · have a0' : sp_w D (D 1 0) = false := by simpa using a0
        rw [if_neg a0, e _ a0', a0']
        by_cases a1 : sp_w D (D 1 1) = true
        · have n1 : ∀ c2 : Bool, (if c2 = true then (1 : Int32) else 1) ≠ 0 := by decide +kernel
          rw [if_pos a1, a1]
          exact ⟨fun y => absurd y (n1 _), fun y => by simp at y⟩
        · have a1' : sp_w D (D 1 1) = false := by simpa using a1
          rw [if_neg a1, e _ a1', a1']
          by_cases a2 : sp_w D (D 1 2) = true
          · rw [if_pos a2, a2]
            exact ⟨fun y => absurd y (by decide +kernel), fun y => by simp at y⟩
          · have a2' : sp_w D (D 1 2) = false := by simpa using a2
            rw [if_neg a2, a2']
            exact ⟨fun _ => rfl, fun _ => rfl⟩
    -- the end
    have hend : ∀ x : Int32, (x = 0 ↔ sp_some b D = false) → cf_X6_end_s65 (nI r) (nI b) (ma_R D) (ma_C (sp_g (sp_g (sp_g D (D 1 0)) (D 1 1)) (D 1 2))) (ma_L (sp_g (sp_g (sp_g D (D 1 0)) (D 1 1)) (D 1 2))) (nI (D 4 2)) x = (ma_C (sp_end b D), ma_L (sp_end b D), nI (sp_end b D 4 2)) := by
      intro x hx
      unfold cf_X6_end_s65 sp_end
      by_cases q : sp_some b D = true
      · rw [if_neg (fun y => by have := hx.mp y; rw [q] at this; cases this), if_pos q, sp_g_ne (by omega) (by omega), sp_g_ne (by omega) (by omega), sp_g_ne (by omega) (by omega)]
      · have q' : sp_some b D = false := by simpa using q
        have q2 := q'
        unfold sp_some at q2
        rw [show sp_bit b 5 = true by simpa using q5, Bool.true_and] at q2
        simp only [Bool.or_eq_false_iff] at q2
        rw [if_pos (hx.mpr q'), if_neg q, sp_3g _ _ _ q2.1.1 q2.1.2 q2.2, ma_Cx (by omega), ma_Lx (by omega), ab_us]
        rfl
    have s0 := ms_e0 (x1 := 0) (ov := nI (D 4 2)) hw h hb q5 (by omega) (D 1 0) rfl (g := ma_R D) rfl rfl
    by_cases c1 : r = 1
    · have z1 := h.R0 (k := 1) (by omega) (by omega)
      have z2 := h.R0 (k := 2) (by omega) (by omega)
      have l1 : nI r ≤ (1 : Int32) := by rw [c1]; decide +kernel
      have hf := hend _ (hfl _ rfl)
      rw [z1, z2, sp_g0, sp_g0] at hf
      have n0 : ∀ E : ab_D, (if sp_w E 0 = true then (1 : Int32) else (if sp_w E 0 = true then 1 else (if sp_w D (D 1 0) = true then 1 else 0))) = (if sp_w D (D 1 0) = true then 1 else 0) := fun E => by
        have : sp_w E 0 = false := by simp [sp_w]
        simp [this]
      rw [n0] at hf
      refine ⟨?_, s0.2 ?_⟩
      · rw [s0.1]; unfold cf_X6_end_s4_1; rw [if_pos l1]; exact hf
      · unfold vc_X6_end_s4_1; exact ⟨fun _ => trivial, fun y => absurd l1 y⟩
    · have l1 : ¬ nI r ≤ (1 : Int32) := fun z => by have := (nl_le (c := 1) (show r < 200 by omega) (by omega)).mp z; omega
      have s1 := ms_e1 (x1 := if sp_w D (D 1 0) = true then 1 else 0) (ov := nI (D 4 2)) hw V1 hb q5 (by omega) (D 1 1) r1.symm (g := ma_R D) m1.symm rfl
      by_cases c2 : r = 2
      · have z2 := h.R0 (k := 2) (by omega) (by omega)
        have l2 : nI r ≤ (2 : Int32) := by rw [c2]; decide +kernel
        have hf := hend _ (hfl _ rfl)
        rw [z2, sp_g0] at hf
        have n0 : ∀ E : ab_D, ∀ y : Int32, (if sp_w E 0 = true then (1 : Int32) else y) = y := fun E y => by
          have : sp_w E 0 = false := by simp [sp_w]
          simp [this]
        rw [n0] at hf
        refine ⟨?_, s0.2 (s1.2 ?_)⟩
        · rw [s0.1, s1.1]; unfold cf_X6_end_s4_2; rw [if_pos l2]; exact hf
        · unfold vc_X6_end_s4_2; exact ⟨fun _ => trivial, fun y => absurd l2 y⟩
      · have s2 := ms_e2 (x1 := if sp_w (sp_g D (D 1 0)) (D 1 1) = true then 1 else if sp_w D (D 1 0) = true then 1 else 0) (ov := nI (D 4 2)) hw V2 hb q5 (by omega) (D 1 2) r2.symm (g := ma_R D) m2.symm rfl
        refine ⟨?_, s0.2 (s1.2 s2.2)⟩
        rw [s0.1, s1.1, s2.1]
        unfold cf_X6_end_s4_3
        exact hend _ (hfl _ rfl)
theorem ms_act0 (hw : ab_W o f r) (h : ab_V o f r D) (hb : b < 128) {k : Nat} (hk : k < 50) (hc : sp_can f r D k = true) :
    cf_X6_act0 (nI o) (nI f) (nI r) (nI b) (ma_F D) (ma_R D) (ma_C D) (ma_L D) (nI (D 4 0)) (nI (D 4 1)) (nI (D 4 2)) (nI k) = (ma_F (sp_act f r b D k), ma_R (sp_act f r b D k), ma_C (sp_act f r b D k), ma_L (sp_act f r b D k), nI (sp_act f r b D k 4 0), nI (sp_act f r b D k 4 1), nI (sp_act f r b D k 4 2)) ∧
    vc_X6_act0 (nI o) (nI f) (nI r) (nI b) (ma_F D) (ma_R D) (ma_C D) (ma_L D) (nI (D 4 0)) (nI (D 4 1)) (nI (D 4 2)) (nI k) := by
  obtain ⟨w1, w2, w3, w4, w5, w6⟩ := id hw
  have h40 := h.2.2.2.1
  have h41 := h.2.2.2.2.1
  have h42 := h.2.2.2.2.2
  obtain ⟨k0, k1, k11, k29, k47⟩ := cs_k k hk
  unfold sp_can at hc
  split at hc
  · cases hc
  rename_i hov
  unfold cf_X6_act0 vc_X6_act0 sp_act
  by_cases e0 : k = 0
  · rw [if_pos e0] at hc
    simp only [Bool.or_eq_true, decide_eq_true_eq] at hc
    obtain ⟨y1, y2⟩ := ms_look hw h hc
    rw [if_pos (k0.mpr e0), if_pos e0, y1]
    refine ⟨?_, fun _ => ⟨y2, trivial⟩, fun y => absurd (k0.mpr e0) y⟩
    have gF : ma_F (sp_look f r D) = ma_F D := by
      unfold sp_look; split; rw [ma_Fx (by omega), ma_Fg]; split; rw [ma_Fx (by omega), ma_Fg]; rw [ma_Fx (by omega), ma_Fx (by omega), ma_Fg]
    have gR : ma_R (sp_look f r D) = ma_R D := by
      unfold sp_look; split; rw [ma_Rx (by omega), ma_Rg]; split; rw [ma_Rx (by omega), ma_Rg]; rw [ma_Rx (by omega), ma_Rx (by omega), ma_Rg]
    have g1 : sp_look f r D 4 1 = D 4 1 := by
      unfold sp_look; split; rw [ab_un _ _ (by omega), sp_g_ne (by omega) (by omega)]; split; rw [ab_un _ _ (by omega), sp_g_ne (by omega) (by omega)]; rw [ab_un _ _ (by omega), ab_un _ _ (by omega), sp_g_ne (by omega) (by omega)]
    have g2 : sp_look f r D 4 2 = D 4 2 := by
      unfold sp_look; split; rw [ab_un _ _ (by omega), sp_g_ne (by omega) (by omega)]; split; rw [ab_un _ _ (by omega), sp_g_ne (by omega) (by omega)]; rw [ab_un _ _ (by omega), ab_un _ _ (by omega), sp_g_ne (by omega) (by omega)]
    rw [gF, gR, g1, g2]
  rw [if_neg (fun y => e0 (k0.mp y)), if_neg e0]
  rw [if_neg e0] at hc
  by_cases e1 : k = 1
  · obtain ⟨y1, y2⟩ := ms_end hw h hb (by omega)
    rw [if_pos (k1.mpr e1), if_pos e1, y1]
    refine ⟨?_, fun y => absurd (k0.mp y) e0, fun _ => ⟨fun _ => ⟨y2, trivial⟩, fun y => absurd (k1.mpr e1) y⟩⟩
    have gF : ma_F (sp_end b D) = ma_F D := by unfold sp_end; split; rw [ma_Fg, ma_Fg, ma_Fg]; rw [ma_Fx (by omega)]
    have gR : ma_R (sp_end b D) = ma_R D := by unfold sp_end; split; rw [ma_Rg, ma_Rg, ma_Rg]; rw [ma_Rx (by omega)]
    have g0 : sp_end b D 4 0 = D 4 0 := by unfold sp_end; split; rw [sp_g_ne (by omega) (by omega), sp_g_ne (by omega) (by omega), sp_g_ne (by omega) (by omega)]; rw [ab_un _ _ (by omega)]
    have g1 : sp_end b D 4 1 = D 4 1 := by unfold sp_end; split; rw [sp_g_ne (by omega) (by omega), sp_g_ne (by omega) (by omega), sp_g_ne (by omega) (by omega)]; rw [ab_un _ _ (by omega)]
    rw [gF, gR, g0, g1]
  rw [if_neg (fun y => e1 (k1.mp y)), if_neg e1]
  rw [if_neg e1] at hc
  split at hc
  · cases hc
  rename_i hl
  have hs := sp_sp_V h
  have s1 : ∀ j, sp_sp D 1 j = D 1 j := fun j => sp_sp_ne (by omega)
  have s0 : ∀ j, sp_sp D 0 j = D 0 j := fun j => sp_sp_ne (by omega)
  have mF : ma_F (sp_sp D) = ma_F D := ma_Fx (by omega)
  have mR : ma_R (sp_sp D) = ma_R D := ma_Rx (by omega)
  have mC : ma_C (sp_sp D) = ma_C D := ma_Cx (by omega)
  have mL : ma_L (sp_sp D) = ma_L D := ma_Lx (by omega)
  have el : nI (D 4 1) - (1 : Int32) = nI (D 4 1 - 1) := cs_l1 _ (by omega) hl
  -- what a change of a root leaves
  have rt : ∀ a t, (ma_F (sp_root b (sp_sp D) a t) = ma_F D) ∧ (sp_root b (sp_sp D) a t 4 0 = D 4 0) ∧ (sp_root b (sp_sp D) a t 4 1 = D 4 1 - 1) ∧ (sp_root b (sp_sp D) a t 4 2 = D 4 2) := fun a t => by
    unfold sp_root
    refine ⟨by rw [ma_Fx (by omega), ma_Fgb, ma_Fgb, mF], ?_, ?_, ?_⟩
    · rw [ab_un _ _ (by omega), sp_gb_ne (by omega) (by omega), sp_gb_ne (by omega) (by omega)]; exact ab_un _ _ (by omega)
    · rw [ab_un _ _ (by omega), sp_gb_ne (by omega) (by omega), sp_gb_ne (by omega) (by omega)]; exact ab_us _ _ _ _
    · rw [ab_un _ _ (by omega), sp_gb_ne (by omega) (by omega), sp_gb_ne (by omega) (by omega)]; exact ab_un _ _ (by omega)
  have n47 : (nI k < (47 : Int32)) ↔ k < 47 := ms_kq k hk
  by_cases e11 : 11 ≤ k
  · rw [if_pos (k11.mpr e11), if_neg (show ¬ k < 11 by omega)]
    rw [if_neg (show ¬ k < 11 by omega)] at hc
    by_cases e29 : 29 ≤ k
    · rw [if_pos (k29.mpr e29), if_neg (show ¬ k < 29 by omega)]
      by_cases e47 : 47 ≤ k
      · rw [if_pos e47] at hc
        simp only [decide_eq_true_eq] at hc
        have z := ms_setRoot (x3 := 0) hw hs hb hc (Nat.zero_le o) (fun _ => rfl)
        rw [mR, mC, mL, show nI 0 - (1 : Int32) = -1 by decide +kernel] at z
        obtain ⟨f1, f2, f3, f4⟩ := rt (k - 47) 0
        rw [if_pos (k47.mpr e47), if_neg (show ¬ k < 47 by omega), cs_kx k hk e47, z.1, f1, f2, f3, f4, el]
        exact ⟨rfl, fun y => absurd (k0.mp y) e0, fun _ => ⟨fun y => absurd (k1.mp y) e1, fun _ => ⟨fun _ => ⟨fun _ => ⟨fun _ => ⟨z.2, trivial⟩, fun y => absurd (k47.mpr e47) y⟩, fun y => absurd (k29.mpr e29) y⟩, fun y => absurd (k11.mpr e11) y⟩⟩⟩
      · rw [if_neg e47, if_neg (show ¬ k < 29 by omega)] at hc
        simp only [Bool.and_eq_true, decide_eq_true_eq] at hc
        obtain ⟨⟨⟨c1, c2⟩, c3⟩, c4⟩ := hc
        obtain ⟨q1, q2, q3⟩ := ms_kn (k - 29) (by omega)
        have z := ms_store hw hs hb c1 c2 c3 (by rw [s1]; exact c4)
        rw [mF, mR, mC, mL] at z
        rw [if_neg (fun y => e47 (k47.mp y)), if_pos (show k < 47 by omega), ms_k29 k hk e29, q2, q1, q3, z.1]
        unfold cf_X6_act0_s131
        have gR : ma_R (sp_store b (sp_sp D) ((k - 29) / 6) ((k - 29) % 6 / 2) ((k - 29) % 2)) = ma_R D := by
          funext j; unfold ma_R; rw [sp_store_ne (by omega) (by omega) (by omega), s1]
        have gx : ∀ j, sp_store b (sp_sp D) ((k - 29) / 6) ((k - 29) % 6 / 2) ((k - 29) % 2) 4 j = sp_sp D 4 j := fun j => by
          exact sp_store_ne (by omega) (by omega) (by omega)
        rw [gR, gx, gx, gx, el, show sp_sp D 4 0 = D 4 0 from ab_un _ _ (by omega), show sp_sp D 4 1 = D 4 1 - 1 from ab_us _ _ _ _, show sp_sp D 4 2 = D 4 2 from ab_un _ _ (by omega)]
        exact ⟨rfl, fun y => absurd (k0.mp y) e0, fun _ => ⟨fun y => absurd (k1.mp y) e1, fun _ => ⟨fun _ => ⟨fun _ => ⟨fun y => absurd (k47.mp y) e47, fun _ => ⟨z.2, trivial⟩⟩, fun y => absurd (k29.mpr e29) y⟩, fun y => absurd (k11.mpr e11) y⟩⟩⟩
    · rw [if_neg (show ¬ 47 ≤ k by omega), if_pos (show k < 29 by omega)] at hc
      simp only [Bool.and_eq_true, decide_eq_true_eq] at hc
      obtain ⟨⟨⟨c1, c2⟩, c3⟩, c4⟩ := hc
      obtain ⟨q1, q2, q3⟩ := ms_kn (k - 11) (by omega)
      have hR := h.R (k := (k - 11) % 6 / 2) (by omega)
      have ea : ma_R D (nI ((k - 11) % 6 / 2)).toNatClampNeg = nI (D 1 ((k - 11) % 6 / 2) - 1) := by rw [nI_clamp (by omega)]; exact ((ms_t _ (by omega)).2 c4).2
      have ef : ma_F D (nI (2 * (D 1 ((k - 11) % 6 / 2) - 1) + (k - 11) % 2)).toNatClampNeg = nI (D 0 (2 * (D 1 ((k - 11) % 6 / 2) - 1) + (k - 11) % 2)) - 1 := by rw [nI_clamp (by omega)]; rfl
      have z := ms_setRoot (x3 := 1) (t := D 0 (2 * (D 1 ((k - 11) % 6 / 2) - 1) + (k - 11) % 2)) hw hs hb c1 (h.F (by omega)) (fun y => absurd y (by decide +kernel))
      rw [mR, mC, mL] at z
      obtain ⟨f1, f2, f3, f4⟩ := rt ((k - 11) / 6) (D 0 (2 * (D 1 ((k - 11) % 6 / 2) - 1) + (k - 11) % 2))
      rw [if_neg (fun y => e29 (k29.mp y)), if_pos (show k < 29 by omega), ms_k11 k hk e11, q2, q1, q3, ea, ms_2x (by omega) (by omega), ef, z.1, f1, f2, f3, f4, el]
      unfold cf_X6_act0_s100
      exact ⟨rfl, fun y => absurd (k0.mp y) e0, fun _ => ⟨fun y => absurd (k1.mp y) e1, fun _ => ⟨fun _ => ⟨fun y => absurd (k29.mp y) e29, fun _ => ⟨vp_in_nI (by omega) (by omega), vp_in_nI (by omega) (by omega), z.2, trivial⟩⟩, fun y => absurd (k11.mpr e11) y⟩⟩⟩
  · rw [if_neg (fun y => e11 (k11.mp y)), if_pos (show k < 11 by omega)]
    rw [if_pos (show k < 11 by omega)] at hc
    simp only [Bool.and_eq_true, decide_eq_true_eq] at hc
    obtain ⟨⟨c1, c2⟩, c3⟩ := hc
    obtain ⟨q1, q2⟩ := ms_kc (k - 2) (by omega)
    have er : ma_R D (nI ((k - 2) % 3)).toNatClampNeg = nI (D 1 ((k - 2) % 3)) - 1 := by rw [nI_clamp (by omega)]; rfl
    have z := ms_setRoot (x3 := 1) (t := D 1 ((k - 2) % 3)) hw hs hb c1 (h.R (by omega)) (fun y => absurd y (by decide +kernel))
    rw [mR, mC, mL] at z
    obtain ⟨f1, f2, f3, f4⟩ := rt ((k - 2) / 3) (D 1 ((k - 2) % 3))
    rw [ms_k2 k hk (by omega), q2, q1, er, z.1, f1, f2, f3, f4, el]
    unfold cf_X6_act0_s55
    exact ⟨rfl, fun y => absurd (k0.mp y) e0, fun _ => ⟨fun y => absurd (k1.mp y) e1, fun _ => ⟨fun y => absurd (k11.mp y) e11, fun _ => ⟨vp_in_nI (by omega) (by omega), z.2, trivial⟩⟩⟩⟩
end ME

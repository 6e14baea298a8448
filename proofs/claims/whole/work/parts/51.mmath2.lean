/-! the reference's acts are the spec's -/
theorem ms_bars {b : Nat} {x : Int32} {bt : Bool} (h : (nI b &&& x = 0) ↔ bt = false) : (cf_X6_bars (nI b) x = 0) ↔ bt = false := by
  unfold cf_X6_bars
  by_cases q : nI b &&& x = 0
  · rw [if_pos q]; exact ⟨fun _ => h.mp q, fun _ => rfl⟩
  · rw [if_neg q]; exact ⟨fun z => absurd z (by decide +kernel), fun z => absurd (h.mpr z) q⟩
theorem ma_Rgb {D : ab_D} {b i t : Nat} : ma_R (sp_gb b i D t) = ma_R D := by unfold sp_gb; split; exact ma_Rg; rfl
theorem ma_Fgb {D : ab_D} {b i t : Nat} : ma_F (sp_gb b i D t) = ma_F D := by unfold sp_gb; split; exact ma_Fg; rfl
section MA
variable {o f r b : Nat} {D : ab_D}
theorem ms_37 {a t : Nat} (ha : a < 3) : cf_X6_setRoot_s37 (nI b) (ma_R D) (ma_C D) (ma_L D) (nI a) (nI t - 1) = (ma_R (ab_up D 1 a t), ma_C (ab_up D 1 a t), ma_L (ab_up D 1 a t)) ∧ vc_X6_setRoot_s37 (nI b) (ma_R D) (ma_C D) (ma_L D) (nI a) (nI t - 1) := by
  unfold cf_X6_setRoot_s37 vc_X6_setRoot_s37
  refine ⟨?_, vp_in_nI ha (by omega), trivial⟩
  rw [nI_clamp (by omega), ma_upR, ma_Cx (by omega), ma_Lx (by omega)]
theorem ms_19 (hw : ab_W o f r) (h : ab_V o f r D) (hb : b < 128) {a t : Nat} (ha : a < 3) (ht : t ≤ o) {x3 : Int32} (hx : x3 = 0 → t = 0) : cf_X6_setRoot_s19 (nI b) (ma_R D) (ma_C D) (ma_L D) (nI a) (nI t - 1) x3 = (ma_R (ab_up (sp_gb b 4 D t) 1 a t), ma_C (ab_up (sp_gb b 4 D t) 1 a t), ma_L (ab_up (sp_gb b 4 D t) 1 a t)) ∧ vc_X6_setRoot_s19 (nI b) (ma_R D) (ma_C D) (ma_L D) (nI a) (nI t - 1) x3 := by
  have g16 := ms_bars (cs_bits b hb).2.2.2.2.1
  obtain ⟨y1, y2⟩ := ms_gV hw h ht
  have z0 := ms_37 (b := b) (D := D) (a := a) (t := t) ha
  have z1 := ms_37 (b := b) (D := sp_g D t) (a := a) (t := t) ha
  rw [ma_Rg] at z1
  unfold cf_X6_setRoot_s19 vc_X6_setRoot_s19
  rw [y1]
  refine ⟨?_, fun _ => z0.2, fun _ => ⟨fun _ => z0.2, fun _ => ⟨y2, z1.2⟩⟩⟩
  by_cases q : x3 = 0
  · rw [if_pos q, z0.1]
    have e : sp_gb b 4 D t = D := by unfold sp_gb; rw [hx q, sp_g0]; split <;> rfl
    rw [e]
  · rw [if_neg q]
    by_cases q2 : sp_bit b 4 = false
    · rw [if_pos (g16.mpr q2), z0.1, sp_gb_f q2]
    · rw [if_neg (fun z => q2 (g16.mp z)), z1.1, sp_gb_t q2]
theorem ms_setRoot (hw : ab_W o f r) (h : ab_V o f r D) (hb : b < 128) {a t : Nat} (ha : a < r) (ht : t ≤ o) {x3 : Int32} (hx : x3 = 0 → t = 0) : cf_X6_setRoot (nI b) (ma_R D) (ma_C D) (ma_L D) (nI a) (nI t - 1) x3 = (ma_R (sp_root b D a t), ma_C (sp_root b D a t), ma_L (sp_root b D a t)) ∧ vc_X6_setRoot (nI b) (ma_R D) (ma_C D) (ma_L D) (nI a) (nI t - 1) x3 := by
  obtain ⟨w1, w2, w3, w4, w5, w6⟩ := id hw
  have g64 := ms_bars (cs_bits b hb).2.2.2.2.2.2
  have hR := h.R (k := a) (by omega)
  obtain ⟨y1, y2⟩ := ms_gV hw h hR
  have hV := sp_g_V hw h hR
  have z0 := ms_19 (b := b) hw h hb (a := a) (by omega) ht hx
  have z1 := ms_19 (b := b) hw hV hb (a := a) (by omega) ht hx
  rw [ma_Rg] at z1
  have er : ma_R D (nI a).toNatClampNeg = nI (D 1 a) - 1 := by rw [nI_clamp (by omega)]; rfl
  unfold cf_X6_setRoot vc_X6_setRoot sp_root
  rw [er, y1]
  refine ⟨?_, fun _ => z0.2, fun _ => ⟨vp_in_nI (by omega) (by omega), y2, z1.2⟩⟩
  by_cases q2 : sp_bit b 6 = false
  · rw [if_pos (g64.mpr q2), z0.1, sp_gb_f (i := 6) q2]
  · rw [if_neg (fun z => q2 (g64.mp z)), z1.1, sp_gb_t (i := 6) q2]
theorem ms_2x {x k : Nat} (hx : x < 4) (hk : k < 2) : (2 : Int32) * nI x + nI k = nI (2 * x + k) := by rw [show (2 : Int32) = nI 2 from rfl, pk_mul, nI_add]
theorem ms_129 {g : Nat → Int32} {x k t : Nat} (hx : x < 4) (hk : k < 2) : cf_X6_store_s129 (nI b) (ma_F D) g (ma_C D) (ma_L D) (nI k) (nI x) (nI t - 1) = (ma_F (ab_up D 0 (2 * x + k) t), ma_C (ab_up D 0 (2 * x + k) t), ma_L (ab_up D 0 (2 * x + k) t)) ∧ vc_X6_store_s129 (nI b) (ma_F D) g (ma_C D) (ma_L D) (nI k) (nI x) (nI t - 1) := by
  unfold cf_X6_store_s129 vc_X6_store_s129
  rw [ms_2x hx hk]
  refine ⟨?_, vp_in_nI (by omega) (by omega), trivial⟩
  rw [nI_clamp (by omega), ma_upF, ma_Cx (by omega), ma_Lx (by omega)]
theorem ms_78 (hw : ab_W o f r) (h : ab_V o f r D) (hb : b < 128) {g : Nat → Int32} {x k t : Nat} (hx : x < 4) (hk : k < 2) (ht : t ≤ o) {E : ab_D} (hE : E = if sp_bit b 3 = true ∧ D 2 x = 2 ∧ sp_w D t = true then ab_up (ab_up D 2 x 1) 3 x 0 else D) : cf_X6_store_s78 (nI b) (ma_F D) g (ma_C D) (ma_L D) (nI k) (nI x) (nI t - 1) = (ma_F (ab_up E 0 (2 * x + k) t), ma_C (ab_up E 0 (2 * x + k) t), ma_L (ab_up E 0 (2 * x + k) t)) ∧ vc_X6_store_s78 (nI b) (ma_F D) g (ma_C D) (ma_L D) (nI k) (nI x) (nI t - 1) := by
  obtain ⟨w1, w2, w3, w4, w5, w6⟩ := id hw
  have g8 := ms_bars (cs_bits b hb).2.2.2.1
  have z0 := ms_129 (b := b) (D := D) (g := g) (t := t) hx hk
  have z1 := ms_129 (b := b) (D := ab_up (ab_up D 2 x 1) 3 x 0) (g := g) (t := t) hx hk
  rw [ma_Fx (by omega), ma_Fx (by omega), ← ma_upC D x 1 0, ← ma_upL D x 1 0] at z1
  have hc := h.C (k := x) hx
  obtain ⟨e0, e1⟩ := ms_t t (by omega)
  have ec : ma_C D (nI x).toNatClampNeg = nI (D 2 x) := by rw [nI_clamp (by omega)]; rfl
  have hv : vp_in (nI x) 4 := vp_in_nI hx (by omega)
  have ecx : (nI x).toNatClampNeg = x := nI_clamp (by omega)
  unfold cf_X6_store_s78 vc_X6_store_s78
  rw [ec, ecx]
  have m2 := ms_2 (n := D 2 x) (by omega)
  constructor
  · by_cases q : sp_bit b 3 = false
    · rw [if_pos (g8.mpr q), z0.1, hE, if_neg (fun y => by rw [q] at y; exact absurd y.1 (by decide))]
    rw [if_neg (fun y => q (g8.mp y))]
    by_cases q2 : D 2 x = 2
    · rw [if_pos (m2.mpr q2)]
      by_cases q3 : t = 0
      · rw [if_pos (e0.mpr q3), z0.1, hE, if_neg (fun y => by have := y.2.2; rw [q3] at this; exact absurd this (by simp [sp_w]))]
      · rw [if_neg (fun y => q3 (e0.mp y)), (e1 q3).1]
        have hm : ma_C D (t - 1) = 0 ↔ D 2 (t - 1) = 0 := ms_0 (by have := h.C (k := t - 1) (by omega); omega)
        by_cases q4 : D 2 (t - 1) = 0
        · rw [if_pos (hm.mpr q4), hE, if_pos ⟨by simpa using q, q2, sp_w_iff.mpr ⟨q3, q4⟩⟩]
          exact z1.1
        · rw [if_neg (fun y => q4 (hm.mp y)), z0.1, hE, if_neg (fun y => q4 (sp_w_iff.mp y.2.2).2)]
    · rw [if_neg (fun y => q2 (m2.mp y)), z0.1, hE, if_neg (fun y => q2 y.2.1)]
  · refine ⟨fun _ => z0.2, fun _ => ⟨hv, fun _ => ⟨fun _ => z0.2, fun q3 => ?_⟩, fun _ => z0.2⟩⟩
    have q3' : t ≠ 0 := fun y => q3 (e0.mpr y)
    refine ⟨by rw [(e1 q3').2]; exact vp_in_nI (by omega) (by omega), fun _ => ⟨hv, hv, z1.2⟩, fun _ => z0.2⟩
theorem ms_store (hw : ab_W o f r) (h : ab_V o f r D) (hb : b < 128) {a c k : Nat} (ha : a < r) (hc : c < r) (hk : k < f) (h0 : D 1 a ≠ 0) : cf_X6_store (nI b) (ma_F D) (ma_R D) (ma_C D) (ma_L D) (nI a) (nI c) (nI k) = (ma_F (sp_store b D a c k), ma_C (sp_store b D a c k), ma_L (sp_store b D a c k)) ∧ vc_X6_store (nI b) (ma_F D) (ma_R D) (ma_C D) (ma_L D) (nI a) (nI c) (nI k) := by
  obtain ⟨w1, w2, w3, w4, w5, w6⟩ := id hw
  have hR := h.R (k := a) (by omega)
  have hT := h.R (k := c) (by omega)
  have ea : ma_R D (nI a).toNatClampNeg = nI (D 1 a - 1) := by rw [nI_clamp (by omega)]; exact ((ms_t (D 1 a) (by omega)).2 h0).2
  have ec : ma_R D (nI c).toNatClampNeg = nI (D 1 c) - 1 := by rw [nI_clamp (by omega)]; rfl
  obtain ⟨B0, B1, B2, B3, -⟩ := cs_bits b hb
  have g1 := ms_bars B0
  have g2 := ms_bars B1
  have g4 := ms_bars B2
  have hx : D 1 a - 1 < o := by omega
  have hF := h.F (k := 2 * (D 1 a - 1) + k) (by omega)
  have V1 := sp_gb_V (b := b) (i := 0) hw h hF
  have V2 := sp_s1_V (b := b) hw h hx hk hT
  have V3 := sp_s2_V (b := b) hw h hx hk hT
  have F1 : ma_F (sp_gb b 0 D (D 0 (2 * (D 1 a - 1) + k))) = ma_F D := ma_Fgb
  have F2 : ma_F (sp_s1 b D (D 1 a - 1) (D 1 c) k) = ma_F D := by unfold sp_s1; rw [ma_Fgb, ma_Fgb]
  have F3 : ma_F (sp_s2 b D (D 1 a - 1) (D 1 c) k) = ma_F D := by unfold sp_s2; split; rw [ma_Fg, F2]; exact F2
  -- the last step
  have z78 := ms_78 (b := b) (g := ma_R D) (x := D 1 a - 1) (k := k) (t := D 1 c) hw V3 hb (by omega) (by omega) hT (E := sp_s3 b D (D 1 a - 1) (D 1 c) k) rfl
  rw [F3] at z78
  -- barrier 4
  have z53 : cf_X6_store_s53 (nI b) (ma_F D) (ma_R D) (ma_C (sp_s1 b D (D 1 a - 1) (D 1 c) k)) (ma_L (sp_s1 b D (D 1 a - 1) (D 1 c) k)) (nI k) (nI (D 1 a - 1)) (nI (D 1 c) - 1) = (ma_F (sp_store b D a c k), ma_C (sp_store b D a c k), ma_L (sp_store b D a c k)) ∧ vc_X6_store_s53 (nI b) (ma_F D) (ma_R D) (ma_C (sp_s1 b D (D 1 a - 1) (D 1 c) k)) (ma_L (sp_s1 b D (D 1 a - 1) (D 1 c) k)) (nI k) (nI (D 1 a - 1)) (nI (D 1 c) - 1) := by
    obtain ⟨y1, y2⟩ := ms_gV hw V2 hT
    have e2 : ma_C (sp_s1 b D (D 1 a - 1) (D 1 c) k) (nI (D 1 a - 1)).toNatClampNeg = nI (sp_s1 b D (D 1 a - 1) (D 1 c) k 2 (D 1 a - 1)) := by rw [nI_clamp (by omega)]; rfl
    have m2 := ms_2 (n := sp_s1 b D (D 1 a - 1) (D 1 c) k 2 (D 1 a - 1)) (by have := V2.C (k := D 1 a - 1) (by omega); omega)
    have hv : vp_in (nI (D 1 a - 1)) 4 := vp_in_nI (by omega) (by omega)
    unfold cf_X6_store_s53 vc_X6_store_s53
    rw [e2, y1]
    unfold sp_s2 at z78
    by_cases q : sp_bit b 2 = false
    · rw [if_neg (fun y => by rw [q] at y; exact absurd y.1 (by decide))] at z78
      rw [if_pos (g4.mpr q)]
      exact ⟨z78.1, fun _ => z78.2, fun y => absurd (g4.mpr q) y⟩
    · by_cases q2 : sp_s1 b D (D 1 a - 1) (D 1 c) k 2 (D 1 a - 1) = 2
      · rw [if_pos ⟨by simpa using q, q2⟩] at z78
        rw [if_neg (fun y => q (g4.mp y)), if_pos (m2.mpr q2)]
        exact ⟨z78.1, fun y => absurd (g4.mp y) q, fun _ => ⟨hv, fun _ => ⟨y2, z78.2⟩, fun y => absurd (m2.mpr q2) y⟩⟩
      · rw [if_neg (fun y => q2 y.2)] at z78
        rw [if_neg (fun y => q (g4.mp y)), if_neg (fun y => q2 (m2.mp y))]
        exact ⟨z78.1, fun y => absurd (g4.mp y) q, fun _ => ⟨hv, fun y => absurd (m2.mp y) q2, fun _ => z78.2⟩⟩
  -- barrier 2
  have z39 : cf_X6_store_s39 (nI b) (ma_F D) (ma_R D) (ma_C (sp_gb b 0 D (D 0 (2 * (D 1 a - 1) + k)))) (ma_L (sp_gb b 0 D (D 0 (2 * (D 1 a - 1) + k)))) (nI k) (nI (D 1 a - 1)) (nI (D 1 c) - 1) = (ma_F (sp_store b D a c k), ma_C (sp_store b D a c k), ma_L (sp_store b D a c k)) ∧ vc_X6_store_s39 (nI b) (ma_F D) (ma_R D) (ma_C (sp_gb b 0 D (D 0 (2 * (D 1 a - 1) + k)))) (ma_L (sp_gb b 0 D (D 0 (2 * (D 1 a - 1) + k)))) (nI k) (nI (D 1 a - 1)) (nI (D 1 c) - 1) := by
    obtain ⟨y1, y2⟩ := ms_gV hw V1 hT
    unfold cf_X6_store_s39 vc_X6_store_s39
    rw [y1]
    unfold sp_s1 at z53
    by_cases q : sp_bit b 1 = false
    · rw [sp_gb_f (i := 1) q] at z53
      rw [if_pos (g2.mpr q)]
      exact ⟨z53.1, fun _ => z53.2, fun y => absurd (g2.mpr q) y⟩
    · rw [sp_gb_t (i := 1) q] at z53
      rw [if_neg (fun y => q (g2.mp y))]
      exact ⟨z53.1, fun y => absurd (g2.mp y) q, fun _ => ⟨y2, z53.2⟩⟩
  -- barrier 1
  obtain ⟨y1, y2⟩ := ms_gV hw h hF
  unfold cf_X6_store vc_X6_store
  rw [ea, ec, ms_2x (by omega) (by omega)]
  have ef : ma_F D (nI (2 * (D 1 a - 1) + k)).toNatClampNeg = nI (D 0 (2 * (D 1 a - 1) + k)) - 1 := by rw [nI_clamp (by omega)]; rfl
  rw [ef, y1]
  refine ⟨?_, vp_in_nI (by omega) (by omega), vp_in_nI (by omega) (by omega), ?_⟩
  · by_cases q : sp_bit b 0 = false
    · rw [sp_gb_f (i := 0) q] at z39
      rw [if_pos (g1.mpr q)]; exact z39.1
    · rw [sp_gb_t (i := 0) q] at z39
      rw [if_neg (fun y => q (g1.mp y))]; exact z39.1
  · by_cases q : sp_bit b 0 = false
    · rw [sp_gb_f (i := 0) q] at z39
      exact ⟨fun _ => z39.2, fun y => absurd (g1.mpr q) y⟩
    · rw [sp_gb_t (i := 0) q] at z39
      exact ⟨fun y => absurd (g1.mp y) q, fun _ => ⟨vp_in_nI (by omega) (by omega), y2, z39.2⟩⟩
theorem ms_look (hw : ab_W o f r) (h : ab_V o f r D) (hc : D 4 0 < r ∨ sp_lg D < 4) : cf_X6_look (nI o) (nI f) (nI r) (ma_F D) (ma_R D) (ma_C D) (ma_L D) (nI (D 4 0)) = (ma_C (sp_look f r D), ma_L (sp_look f r D), nI (sp_look f r D 4 0)) ∧ vc_X6_look (nI o) (nI f) (nI r) (ma_F D) (ma_R D) (ma_C D) (ma_L D) (nI (D 4 0)) := by
  obtain ⟨w1, w2, w3, w4, w5, w6⟩ := id hw
  have h40 := h.2.2.2.1
  have er : (nI r ≤ nI (D 4 0)) ↔ r ≤ D 4 0 := nl_le (by omega) (by omega)
  unfold cf_X6_look vc_X6_look sp_look
  by_cases q : D 4 0 < r
  · have e1 : ma_R D (nI (D 4 0)).toNatClampNeg = nI (D 1 (D 4 0)) - 1 := by rw [nI_clamp (by omega)]; rfl
    obtain ⟨y1, y2⟩ := ms_gV hw h (h.R (k := D 4 0) (by omega))
    rw [e1, y1]
    refine ⟨?_, fun y => absurd (er.mp y) (by omega), fun _ => ⟨vp_in_nI (by omega) (by omega), y2, trivial⟩⟩
    rw [if_neg (fun y => by have := er.mp y; omega), if_pos q]
    unfold cf_X6_look_s24
    rw [ma_Cx (by omega), ma_Lx (by omega), ab_us, show nI (D 4 0) + (1 : Int32) = nI (D 4 0 + 1) from nI_1 _]
  · have q2 : sp_lg D < 4 := by omega
    obtain ⟨-, hg, -⟩ | ⟨z, -⟩ := sp_lg_spec D
    · have hl := h.L q2
      have hF := h.F (k := 2 * sp_lg D + D 3 (sp_lg D)) (by omega)
      obtain ⟨y1, y2⟩ := ms_gV hw h hF
      have hV := sp_g_V hw h hF
      obtain ⟨n1, n2⟩ := sp_g_nw (D := D) (t := D 0 (2 * sp_lg D + D 3 (sp_lg D))) (j := sp_lg D) (by omega)
      have elg : cf_X6_leastGrey (nI o) (ma_C D) = nI (sp_lg D) := by rw [ms_lg hw h, if_pos q2]
      have el : ma_L D (nI (sp_lg D)).toNatClampNeg = nI (D 3 (sp_lg D)) := by rw [nI_clamp (by omega)]; rfl
      have ef : ma_F D (nI (2 * sp_lg D + D 3 (sp_lg D))).toNatClampNeg = nI (D 0 (2 * sp_lg D + D 3 (sp_lg D))) - 1 := by rw [nI_clamp (by omega)]; rfl
      rw [elg, el, ms_2x q2 (by omega), ef, y1]
      have hv4 : vp_in (nI (sp_lg D)) 4 := vp_in_nI q2 (by omega)
      have e59 : cf_X6_look_s59 (nI o) (nI f) (nI r) (ma_F D) (ma_R D) (ma_C (sp_g D (D 0 (2 * sp_lg D + D 3 (sp_lg D))))) (ma_L (sp_g D (D 0 (2 * sp_lg D + D 3 (sp_lg D))))) (nI (D 4 0)) (nI (sp_lg D)) = (ma_C (sp_look f r D), ma_L (sp_look f r D), nI (sp_look f r D 4 0)) ∧ vc_X6_look_s59 (nI o) (nI f) (nI r) (ma_F D) (ma_R D) (ma_C (sp_g D (D 0 (2 * sp_lg D + D 3 (sp_lg D))))) (ma_L (sp_g D (D 0 (2 * sp_lg D + D 3 (sp_lg D))))) (nI (D 4 0)) (nI (sp_lg D)) := by
        unfold cf_X6_look_s59 vc_X6_look_s59 sp_look
        rw [if_neg q]
        generalize hE : sp_g D (D 0 (2 * sp_lg D + D 3 (sp_lg D))) = E at hV n1 n2 ⊢
        have ecl : (nI (sp_lg D)).toNatClampNeg = sp_lg D := nI_clamp (by omega)
        rw [ecl]
        have el2 : ma_L E (sp_lg D) + (1 : Int32) = nI (D 3 (sp_lg D) + 1) := by
          show nI (E 3 (sp_lg D)) + 1 = _
          rw [n2]; exact nI_1 _
        rw [el2]
        have eu : upd (ma_L E) (sp_lg D) (nI (D 3 (sp_lg D) + 1)) (sp_lg D) = nI (D 3 (sp_lg D) + 1) := pk_us
        rw [eu]
        have ecmp : (nI f ≤ nI (D 3 (sp_lg D) + 1)) ↔ f ≤ D 3 (sp_lg D) + 1 := nl_le (by omega) (by omega)
        refine ⟨?_, hv4, hv4, hv4, fun _ => ⟨hv4, hv4, trivial⟩, fun _ => trivial⟩
        by_cases q3 : f ≤ D 3 (sp_lg D) + 1
        · rw [if_pos (ecmp.mpr q3), if_neg (by omega)]
          have e4 : upd (upd (ma_L E) (sp_lg D) (nI (D 3 (sp_lg D) + 1))) (sp_lg D) (0 : Int32) = upd (ma_L E) (sp_lg D) (nI 0) := by
            funext j; unfold upd; split <;> rfl
          rw [e4, show (2 : Int32) = nI 2 from rfl, ma_upC E (sp_lg D) 2 0, ma_upL E (sp_lg D) 2 0, ab_un _ _ (by omega), ab_un _ _ (by omega), ← hE, sp_g_ne (by omega) (by omega)]
        · rw [if_neg (fun y => q3 (ecmp.mp y)), if_pos (by omega), ma_upL1, ma_Cx (by omega), ab_un _ _ (by omega), ← hE, sp_g_ne (by omega) (by omega)]
      refine ⟨?_, fun _ => ⟨hv4, vp_in_nI (by omega) (by omega), y2, e59.2⟩, fun y => absurd (er.mpr (by omega)) y⟩
      rw [if_pos (er.mpr (by omega))]
      exact e59.1
    · omega
theorem ms_e0 (hw : ab_W o f r) (h : ab_V o f r D) (hb : b < 128) (h5 : ¬ sp_bit b 5 = false) (hk : ¬ r ≤ 0) (t : Nat) (ht : t = D 1 0) {g : Nat → Int32} (hg : g = ma_R D) {ov x1 x2 : Int32} (hx2 : x2 = if sp_w D t = true then 1 else x1) :
    (cf_X6_end_s4_0 (nI r) (nI b) g (ma_C D) (ma_L D) ov x1 = cf_X6_end_s4_1 (nI r) (nI b) g (ma_C (sp_g D t)) (ma_L (sp_g D t)) ov x2) ∧ (vc_X6_end_s4_1 (nI r) (nI b) g (ma_C (sp_g D t)) (ma_L (sp_g D t)) ov x2 → vc_X6_end_s4_0 (nI r) (nI b) g (ma_C D) (ma_L D) ov x1) := by
  obtain ⟨w1, w2, w3, w4, w5, w6⟩ := id hw
  subst hg ht
  have g32 := ms_bars (cs_bits b hb).2.2.2.2.2.1
  have hR := h.R (k := 0) (by omega)
  obtain ⟨y1, y2⟩ := ms_gV hw h hR
  obtain ⟨e0, e1⟩ := ms_t (D 1 0) (by omega)
  have er : ma_R D ((0 : Int32)).toNatClampNeg = nI (D 1 0) - 1 := rfl
  have el : (nI r ≤ (0 : Int32)) ↔ r ≤ 0 := nl_le (c := 0) (by omega) (by omega)
  unfold cf_X6_end_s4_0 vc_X6_end_s4_0 cf_X6_end_s57_0 cf_X6_end_s59_0 vc_X6_end_s57_0 vc_X6_end_s59_0
  rw [er, y1]
  have hng : sp_w D (D 1 0) = false → sp_g D (D 1 0) = D := fun z => by unfold sp_g; rw [if_neg (by rw [z]; decide)]
  by_cases q : D 1 0 = 0
  · have hf : sp_w D (D 1 0) = false := by simp [sp_w, q]
    rw [hng hf, show x2 = x1 by rw [hx2, if_neg (by rw [hf]; decide)]]
    refine ⟨by rw [if_neg (fun y => hk (el.mp y)), if_neg (fun y => h5 (g32.mp y)), if_pos (e0.mpr q)], fun V => ⟨fun _ => trivial, fun _ => ⟨fun _ => trivial, fun _ => ⟨fun _ => V, fun y => absurd (e0.mpr q) y⟩⟩⟩⟩
  · obtain ⟨e2, e3⟩ := e1 q
    have hm : ma_C D (D 1 0 - 1) = 0 ↔ D 2 (D 1 0 - 1) = 0 := ms_0 (by have := h.C (k := D 1 0 - 1) (by omega); omega)
    have hv : vp_in (nI (D 1 0) - 1) 4 := by rw [e3]; exact vp_in_nI (by omega) (by omega)
    rw [e2]
    by_cases q2 : D 2 (D 1 0 - 1) = 0
    · rw [show x2 = 1 by rw [hx2, if_pos (sp_w_iff.mpr ⟨q, q2⟩)]]
      refine ⟨by rw [if_neg (fun y => hk (el.mp y)), if_neg (fun y => h5 (g32.mp y)), if_neg (fun y => q (e0.mp y)), if_pos (hm.mpr q2)], fun V => ⟨fun _ => trivial, fun _ => ⟨fun _ => trivial, fun _ => ⟨fun y => absurd (e0.mp y) q, fun _ => ⟨hv, fun _ => ⟨y2, V⟩, fun y => absurd (hm.mpr q2) y⟩⟩⟩⟩⟩
    · have hf : sp_w D (D 1 0) = false := by simp [sp_w, q2]
      rw [hng hf, show x2 = x1 by rw [hx2, if_neg (by rw [hf]; decide)]]
      refine ⟨by rw [if_neg (fun y => hk (el.mp y)), if_neg (fun y => h5 (g32.mp y)), if_neg (fun y => q (e0.mp y)), if_neg (fun y => q2 (hm.mp y))], fun V => ⟨fun _ => trivial, fun _ => ⟨fun _ => trivial, fun _ => ⟨fun y => absurd (e0.mp y) q, fun _ => ⟨hv, fun y => absurd (hm.mp y) q2, fun _ => V⟩⟩⟩⟩⟩
theorem ms_e1 (hw : ab_W o f r) (h : ab_V o f r D) (hb : b < 128) (h5 : ¬ sp_bit b 5 = false) (hk : ¬ r ≤ 1) (t : Nat) (ht : t = D 1 1) {g : Nat → Int32} (hg : g = ma_R D) {ov x1 x2 : Int32} (hx2 : x2 = if sp_w D t = true then 1 else x1) :
    (cf_X6_end_s4_1 (nI r) (nI b) g (ma_C D) (ma_L D) ov x1 = cf_X6_end_s4_2 (nI r) (nI b) g (ma_C (sp_g D t)) (ma_L (sp_g D t)) ov x2) ∧ (vc_X6_end_s4_2 (nI r) (nI b) g (ma_C (sp_g D t)) (ma_L (sp_g D t)) ov x2 → vc_X6_end_s4_1 (nI r) (nI b) g (ma_C D) (ma_L D) ov x1) := by
  obtain ⟨w1, w2, w3, w4, w5, w6⟩ := id hw
  subst hg ht
  have g32 := ms_bars (cs_bits b hb).2.2.2.2.2.1
  have hR := h.R (k := 1) (by omega)
  obtain ⟨y1, y2⟩ := ms_gV hw h hR
  obtain ⟨e0, e1⟩ := ms_t (D 1 1) (by omega)
  have er : ma_R D ((1 : Int32)).toNatClampNeg = nI (D 1 1) - 1 := rfl
  have el : (nI r ≤ (1 : Int32)) ↔ r ≤ 1 := nl_le (c := 1) (by omega) (by omega)
  unfold cf_X6_end_s4_1 vc_X6_end_s4_1 cf_X6_end_s57_1 cf_X6_end_s59_1 vc_X6_end_s57_1 vc_X6_end_s59_1
  rw [er, y1]
  have hng : sp_w D (D 1 1) = false → sp_g D (D 1 1) = D := fun z => by unfold sp_g; rw [if_neg (by rw [z]; decide)]
  by_cases q : D 1 1 = 0
  · have hf : sp_w D (D 1 1) = false := by simp [sp_w, q]
    rw [hng hf, show x2 = x1 by rw [hx2, if_neg (by rw [hf]; decide)]]
    refine ⟨by rw [if_neg (fun y => hk (el.mp y)), if_neg (fun y => h5 (g32.mp y)), if_pos (e0.mpr q)], fun V => ⟨fun _ => trivial, fun _ => ⟨fun _ => trivial, fun _ => ⟨fun _ => V, fun y => absurd (e0.mpr q) y⟩⟩⟩⟩
  · obtain ⟨e2, e3⟩ := e1 q
    have hm : ma_C D (D 1 1 - 1) = 0 ↔ D 2 (D 1 1 - 1) = 0 := ms_0 (by have := h.C (k := D 1 1 - 1) (by omega); omega)
    have hv : vp_in (nI (D 1 1) - 1) 4 := by rw [e3]; exact vp_in_nI (by omega) (by omega)
    rw [e2]
    by_cases q2 : D 2 (D 1 1 - 1) = 0
    · rw [show x2 = 1 by rw [hx2, if_pos (sp_w_iff.mpr ⟨q, q2⟩)]]
      refine ⟨by rw [if_neg (fun y => hk (el.mp y)), if_neg (fun y => h5 (g32.mp y)), if_neg (fun y => q (e0.mp y)), if_pos (hm.mpr q2)], fun V => ⟨fun _ => trivial, fun _ => ⟨fun _ => trivial, fun _ => ⟨fun y => absurd (e0.mp y) q, fun _ => ⟨hv, fun _ => ⟨y2, V⟩, fun y => absurd (hm.mpr q2) y⟩⟩⟩⟩⟩
    · have hf : sp_w D (D 1 1) = false := by simp [sp_w, q2]
      rw [hng hf, show x2 = x1 by rw [hx2, if_neg (by rw [hf]; decide)]]
      refine ⟨by rw [if_neg (fun y => hk (el.mp y)), if_neg (fun y => h5 (g32.mp y)), if_neg (fun y => q (e0.mp y)), if_neg (fun y => q2 (hm.mp y))], fun V => ⟨fun _ => trivial, fun _ => ⟨fun _ => trivial, fun _ => ⟨fun y => absurd (e0.mp y) q, fun _ => ⟨hv, fun y => absurd (hm.mp y) q2, fun _ => V⟩⟩⟩⟩⟩
theorem ms_e2 (hw : ab_W o f r) (h : ab_V o f r D) (hb : b < 128) (h5 : ¬ sp_bit b 5 = false) (hk : ¬ r ≤ 2) (t : Nat) (ht : t = D 1 2) {g : Nat → Int32} (hg : g = ma_R D) {ov x1 x2 : Int32} (hx2 : x2 = if sp_w D t = true then 1 else x1) :
    (cf_X6_end_s4_2 (nI r) (nI b) g (ma_C D) (ma_L D) ov x1 = cf_X6_end_s4_3 (nI r) (nI b) g (ma_C (sp_g D t)) (ma_L (sp_g D t)) ov x2) ∧ (vc_X6_end_s4_2 (nI r) (nI b) g (ma_C D) (ma_L D) ov x1) := by
  obtain ⟨w1, w2, w3, w4, w5, w6⟩ := id hw
  subst hg ht
  have g32 := ms_bars (cs_bits b hb).2.2.2.2.2.1
  have hR := h.R (k := 2) (by omega)
  obtain ⟨y1, y2⟩ := ms_gV hw h hR
  obtain ⟨e0, e1⟩ := ms_t (D 1 2) (by omega)
  have er : ma_R D ((2 : Int32)).toNatClampNeg = nI (D 1 2) - 1 := rfl
  have el : (nI r ≤ (2 : Int32)) ↔ r ≤ 2 := nl_le (c := 2) (by omega) (by omega)
  unfold cf_X6_end_s4_2 vc_X6_end_s4_2 cf_X6_end_s57_2 cf_X6_end_s59_2
  rw [er, y1]
  have hng : sp_w D (D 1 2) = false → sp_g D (D 1 2) = D := fun z => by unfold sp_g; rw [if_neg (by rw [z]; decide)]
  by_cases q : D 1 2 = 0
  · have hf : sp_w D (D 1 2) = false := by simp [sp_w, q]
    rw [hng hf, show x2 = x1 by rw [hx2, if_neg (by rw [hf]; decide)]]
    refine ⟨by rw [if_neg (fun y => hk (el.mp y)), if_neg (fun y => h5 (g32.mp y)), if_pos (e0.mpr q)], ⟨fun _ => trivial, fun _ => ⟨fun _ => trivial, fun _ => ⟨fun _ => trivial, fun y => absurd (e0.mpr q) y⟩⟩⟩⟩
  · obtain ⟨e2, e3⟩ := e1 q
    have hm : ma_C D (D 1 2 - 1) = 0 ↔ D 2 (D 1 2 - 1) = 0 := ms_0 (by have := h.C (k := D 1 2 - 1) (by omega); omega)
    have hv : vp_in (nI (D 1 2) - 1) 4 := by rw [e3]; exact vp_in_nI (by omega) (by omega)
    rw [e2]
    by_cases q2 : D 2 (D 1 2 - 1) = 0
    · rw [show x2 = 1 by rw [hx2, if_pos (sp_w_iff.mpr ⟨q, q2⟩)]]
      refine ⟨by rw [if_neg (fun y => hk (el.mp y)), if_neg (fun y => h5 (g32.mp y)), if_neg (fun y => q (e0.mp y)), if_pos (hm.mpr q2)], ⟨fun _ => trivial, fun _ => ⟨fun _ => trivial, fun _ => ⟨fun y => absurd (e0.mp y) q, fun _ => ⟨hv, fun _ => ⟨y2, trivial⟩, fun y => absurd (hm.mpr q2) y⟩⟩⟩⟩⟩
    · have hf : sp_w D (D 1 2) = false := by simp [sp_w, q2]
      rw [hng hf, show x2 = x1 by rw [hx2, if_neg (by rw [hf]; decide)]]
      refine ⟨by rw [if_neg (fun y => hk (el.mp y)), if_neg (fun y => h5 (g32.mp y)), if_neg (fun y => q (e0.mp y)), if_neg (fun y => q2 (hm.mp y))], ⟨fun _ => trivial, fun _ => ⟨fun _ => trivial, fun _ => ⟨fun y => absurd (e0.mp y) q, fun _ => ⟨hv, fun y => absurd (hm.mp y) q2, fun _ => trivial⟩⟩⟩⟩⟩
end MA

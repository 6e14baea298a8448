/-! the reference's find -/
section ML
variable {o f r b fu w : Nat} {m_th m_a rm fs : Int32} {u_F u_R g_W : Nat → Int32}
theorem mr_c0 : mr_c 0 = 0 := rfl
theorem mr_cn {c : Nat} (h : c ≠ 0) : mr_c c ≠ 0 := by
  unfold mr_c; rw [if_neg h]; split <;> decide +kernel
theorem ml_L {σ0 : bf_S} {s : Nat} (k25 : _) (k71 : _) (v25 : _) (v71 : _) (hw : ab_W o f r) (hb : b < 128) (hw4 : w < 4) (hfu : 66000 < fu) (hI : bf_I o f r σ0) (hJ : bf_J f r σ0) (hs : s < bf_n σ0) : ∀ (j k m : Nat) (g_F g_R g_C g_L : Nat → Int32) (rl lf ov : Int32) (g_S : Nat → Int64) (g_O g_Y g_H g_M : Nat → Int32), k + j = 50 → j < m → bf_c (bf_in f r b (fun D => sp_br D w) σ0 s k) = 0 → mr_R (bf_in f r b (fun D => sp_br D w) σ0 s k) g_S g_O g_Y g_H → no_1 8 g_F → no_1 3 g_R → no_0 4 g_C → no_0 4 g_L →
    ∃ F' R' C' L' rl' lf' ov' S' O' Y' H' M', (no_1 8 F' ∧ no_1 3 R' ∧ no_0 4 C' ∧ no_0 4 L') ∧ mr_R (bf_in f r b (fun D => sp_br D w) σ0 s 50) S' O' Y' H' ∧ cf_X6_find_L88 fu k25 k71 m m_th (nI o) (nI f) (nI r) (nI b) m_a u_F u_R g_F g_R g_C g_L rl lf ov g_S g_O g_Y g_H (nI (bf_n (bf_in f r b (fun D => sp_br D w) σ0 s k))) g_W rm fs g_M (nI w) (0 : Int32) (nI s) (nI k) = k71 m_th (nI o) (nI f) (nI r) (nI b) m_a u_F u_R F' R' C' L' rl' lf' ov' S' O' Y' H' (nI (bf_n (bf_in f r b (fun D => sp_br D w) σ0 s 50))) g_W rm fs M' (nI w) (mr_c (bf_c (bf_in f r b (fun D => sp_br D w) σ0 s 50))) (nI s + (1 : Int32)) ∧ (v71 m_th (nI o) (nI f) (nI r) (nI b) m_a u_F u_R F' R' C' L' rl' lf' ov' S' O' Y' H' (nI (bf_n (bf_in f r b (fun D => sp_br D w) σ0 s 50))) g_W rm fs M' (nI w) (mr_c (bf_c (bf_in f r b (fun D => sp_br D w) σ0 s 50))) (nI s + (1 : Int32)) → vc_X6_find_L88 fu v25 v71 m m_th (nI o) (nI f) (nI r) (nI b) m_a u_F u_R g_F g_R g_C g_L rl lf ov g_S g_O g_Y g_H (nI (bf_n (bf_in f r b (fun D => sp_br D w) σ0 s k))) g_W rm fs g_M (nI w) (0 : Int32) (nI s) (nI k))
  | _, _, 0, _, _, _, _, _, _, _, _, _, _, _, _, _, hm, _, _, _, _, _, _ => absurd hm (Nat.not_lt_zero _)
  | 0, k, m + 1, g_F, g_R, g_C, g_L, rl, lf, ov, g_S, g_O, g_Y, g_H, g_M, hk, _, hc, hR, nF, nR, nC, nL => by
    have ek : k = 50 := by omega
    subst ek
    have y : (50 : Int32) ≤ nI 50 := by decide +kernel
    refine ⟨g_F, g_R, g_C, g_L, rl, lf, ov, g_S, g_O, g_Y, g_H, g_M, ⟨nF, nR, nC, nL⟩, hR, ?_, fun V => ?_⟩
    · rw [hc]
      show (if (50 : Int32) ≤ nI 50 then _ else _) = _
      rw [if_pos y]; rfl
    · rw [hc] at V
      exact ⟨fun _ => V, fun q => absurd y q⟩
  | j + 1, k, m + 1, g_F, g_R, g_C, g_L, rl, lf, ov, g_S, g_O, g_Y, g_H, g_M, hk, hm, hc, hR, nF, nR, nC, nL => by
    have y : ¬ (50 : Int32) ≤ nI k := fun q => by have := (nI_leI (a := 50) (b := k) (by omega) (by omega)).mp q; omega
    obtain ⟨hIk, hnk⟩ := hI.in (b := b) (br := (fun D => sp_br D w)) hw hs k (by omega)
    have hJk := bf_J.in (b := b) (br := (fun D => sp_br D w)) hw hI hJ hs k (by omega)
    have hXs : bf_X (bf_in f r b (fun D => sp_br D w) σ0 s k) s = bf_X σ0 s := bf_inX hs k
    have hVs := hI.2.2.2.1 s hs
    have hNs := hJ.1 s hs
    have hn0 := hI.2.1
    have ih := fun (g_F g_R g_C g_L : Nat → Int32) (rl lf ov : Int32) (g_S : Nat → Int64) (g_O g_Y g_H g_M : Nat → Int32) => ml_L k25 k71 v25 v71 hw hb hw4 hfu hI hJ hs j (k + 1) m g_F g_R g_C g_L rl lf ov g_S g_O g_Y g_H g_M (by omega) (by omega)
    have hend : bf_c (bf_in f r b (fun D => sp_br D w) σ0 s (k + 1)) ≠ 0 → (bf_in f r b (fun D => sp_br D w) σ0 s 50) = (bf_in f r b (fun D => sp_br D w) σ0 s (k + 1)) := fun h => by
      have := bf_in_end h j
      rwa [show k + 1 + j = 50 by omega] at this
    have est : (bf_in f r b (fun D => sp_br D w) σ0 s (k + 1)) = bf_vis f r b (fun D => sp_br D w) (bf_in f r b (fun D => sp_br D w) σ0 s k) s k := rfl
    have eS : g_S (nI s).toNatClampNeg = ab_n (bf_X σ0 s) := by rw [nI_clamp (by omega), hR.1 s (by omega), hXs]
    have hin : vp_in (nI s) 20000 := vp_in_nI (by omega) (by omega)
    have et := ms_takeN (hVs.B hw) hNs rl lf ov nF nR nC nL
    have ec := ms_canDo hw hVs (show k < 50 by omega)
    generalize hσ : (bf_in f r b (fun D => sp_br D w) σ0 s k) = σ at *
    by_cases c : sp_can f r (bf_X σ0 s) k = true
    · rw [if_pos c] at ec
      have hVD := sp_act_V (b := b) hw hVs (show k < 50 by omega) c
      have hND := hNs.act (b := b) hw hVs (show k < 50 by omega) c
      have ea := ms_act0 hw hVs hb (show k < 50 by omega) c
      have hvis : bf_vis f r b (fun D => sp_br D w) σ s k = bf_add (fun D => sp_br D w) σ s k (sp_act f r b (bf_X σ0 s) k) := by
        unfold bf_vis; rw [if_pos hc, hXs, if_pos c]
      rw [hvis] at est
      generalize hD : sp_act f r b (bf_X σ0 s) k = D at *
      obtain ⟨S1, O1, Y1, H1, M1, c1, c2, c3⟩ := co_add (g_M := g_M) (s := s) (k := k) hw hVD hw4 hfu hIk hc hR
      rw [← est] at c1 c3
      have y2 : ¬ cf_X6_canDo (nI o) (nI f) (nI r) (ma_R (bf_X σ0 s)) (ma_C (bf_X σ0 s)) (nI (bf_X σ0 s 4 0)) (nI (bf_X σ0 s 4 1)) (nI (bf_X σ0 s 4 2)) (nI k) = 0 := by rw [ec.1]; decide +kernel
      have e1 : cf_X6_find_L88 fu k25 k71 (m + 1) m_th (nI o) (nI f) (nI r) (nI b) m_a u_F u_R g_F g_R g_C g_L rl lf ov g_S g_O g_Y g_H (nI (bf_n σ)) g_W rm fs g_M (nI w) (0 : Int32) (nI s) (nI k) = cf_X6_find_L88 fu k25 k71 m m_th (nI o) (nI f) (nI r) (nI b) m_a u_F u_R (ma_F (D)) (ma_R (D)) (ma_C (D)) (ma_L (D)) (nI ((D) 4 0)) (nI ((D) 4 1)) (nI ((D) 4 2)) S1 O1 Y1 H1 (nI (bf_n (bf_in f r b (fun D => sp_br D w) σ0 s (k + 1)))) g_W rm fs M1 (nI w) (mr_c (bf_c (bf_in f r b (fun D => sp_br D w) σ0 s (k + 1)))) (nI s) (nI (k + 1)) := by
        show (if (50 : Int32) ≤ nI k then _ else if (0 : Int32) = 0 then _ else _) = _
        rw [if_neg y, if_pos rfl, eS, et]
        unfold cf_X6_find_i25_i71_i88_s111
        dsimp only
        rw [if_neg y2, ea.1]
        unfold cf_X6_find_i25_i71_i88_s129 cf_X6_find_i25_i71_i88_s138 cf_X6_find_i25_i71_i88_s140
        dsimp only
        rw [c1, nI_1]
      have e2 : vc_X6_find_L88 fu v25 v71 m m_th (nI o) (nI f) (nI r) (nI b) m_a u_F u_R (ma_F (D)) (ma_R (D)) (ma_C (D)) (ma_L (D)) (nI ((D) 4 0)) (nI ((D) 4 1)) (nI ((D) 4 2)) S1 O1 Y1 H1 (nI (bf_n (bf_in f r b (fun D => sp_br D w) σ0 s (k + 1)))) g_W rm fs M1 (nI w) (mr_c (bf_c (bf_in f r b (fun D => sp_br D w) σ0 s (k + 1)))) (nI s) (nI (k + 1)) → vc_X6_find_L88 fu v25 v71 (m + 1) m_th (nI o) (nI f) (nI r) (nI b) m_a u_F u_R g_F g_R g_C g_L rl lf ov g_S g_O g_Y g_H (nI (bf_n σ)) g_W rm fs g_M (nI w) (0 : Int32) (nI s) (nI k) := by
        intro V
        refine ⟨fun q => absurd q y, fun _ => ⟨fun _ => ⟨hin, ?_⟩, fun q => absurd rfl q⟩⟩
        rw [eS, et]
        refine ⟨ec.2, fun q => absurd q y2, fun _ => ⟨ea.2, ?_⟩⟩
        dsimp only
        rw [ea.1]
        refine ⟨c2, ?_⟩
        dsimp only
        rw [c1]
        unfold vc_X6_find_i25_i71_i88_s138 vc_X6_find_i25_i71_i88_s140
        rw [nI_1]; exact V
      by_cases z : bf_c (bf_in f r b (fun D => sp_br D w) σ0 s (k + 1)) = 0
      · rw [z, mr_c0] at e1 e2
        obtain ⟨F', R', C', L', rl', lf', ov', S', O', Y', H', M', i1, i2, i3, i4⟩ := ih _ _ _ _ _ _ _ _ _ _ _ M1 z c3 hND.F hND.R hND.C hND.L
        exact ⟨F', R', C', L', rl', lf', ov', S', O', Y', H', M', i1, i2, e1.trans i3, fun V => e2 (i4 V)⟩
      · have he := hend z
        have zn := mr_cn z
        obtain ⟨m', rfl⟩ : ∃ m', m = m' + 1 := ⟨m - 1, by omega⟩
        rw [he]
        refine ⟨ma_F D, ma_R D, ma_C D, ma_L D, nI (D 4 0), nI (D 4 1), nI (D 4 2), S1, O1, Y1, H1, M1, ⟨hND.F, hND.R, hND.C, hND.L⟩, c3, e1.trans ?_, fun V => e2 ?_⟩
        · show (if (50 : Int32) ≤ nI (k + 1) then _ else if mr_c (bf_c (bf_in f r b (fun D => sp_br D w) σ0 s (k + 1))) = 0 then _ else _) = _
          by_cases q : (50 : Int32) ≤ nI (k + 1)
          · rw [if_pos q]; rfl
          · rw [if_neg q, if_neg zn]; rfl
        · exact ⟨fun _ => V, fun _ => ⟨fun q => absurd q zn, fun _ => V⟩⟩
    · rw [if_neg c] at ec
      have y2 : cf_X6_canDo (nI o) (nI f) (nI r) (ma_R (bf_X σ0 s)) (ma_C (bf_X σ0 s)) (nI (bf_X σ0 s 4 0)) (nI (bf_X σ0 s 4 1)) (nI (bf_X σ0 s 4 2)) (nI k) = 0 := ec.1
      have ea : (bf_in f r b (fun D => sp_br D w) σ0 s (k + 1)) = σ := by rw [est]; unfold bf_vis; rw [if_pos hc, hXs, if_neg c]
      rw [ea] at ih
      obtain ⟨F', R', C', L', rl', lf', ov', S', O', Y', H', M', i1, i2, i3, i4⟩ := ih (ma_F (bf_X σ0 s)) (ma_R (bf_X σ0 s)) (ma_C (bf_X σ0 s)) (ma_L (bf_X σ0 s)) (nI ((bf_X σ0 s) 4 0)) (nI ((bf_X σ0 s) 4 1)) (nI ((bf_X σ0 s) 4 2)) g_S g_O g_Y g_H g_M hc hR hNs.F hNs.R hNs.C hNs.L
      rw [← nI_1 k] at i3 i4
      refine ⟨F', R', C', L', rl', lf', ov', S', O', Y', H', M', i1, i2, ?_, fun V => ?_⟩
      · show (if (50 : Int32) ≤ nI k then _ else if (0 : Int32) = 0 then _ else _) = _
        rw [if_neg y, if_pos rfl, eS, et]
        unfold cf_X6_find_i25_i71_i88_s111
        dsimp only
        rw [if_pos y2]
        exact i3
      · refine ⟨fun q => absurd q y, fun _ => ⟨fun _ => ⟨hin, ?_⟩, fun q => absurd rfl q⟩⟩
        rw [eS, et]
        exact ⟨ec.2, fun _ => i4 V, fun q => absurd y2 q⟩
/-- how it ends -/
theorem ml_end {σ : bf_S} (k25 : _) (k71 : _) (v25 : _) (v71 : _) (g_F g_R g_C g_L : Nat → Int32) (rl lf ov : Int32) (g_S : Nat → Int64) (g_O g_Y g_H g_M : Nat → Int32) (hw : ab_W o f r) (hfu : 66000 < fu) (hI : bf_I o f r σ) (hJ : bf_J f r σ) (hR : mr_R σ g_S g_O g_Y g_H) :
    ∃ W' K' res, cf_X6_find_i25_i71_s152 fu k25 k71 m_th (nI o) (nI f) (nI r) (nI b) m_a u_F u_R g_F g_R g_C g_L rl lf ov g_S g_O g_Y g_H (nI (bf_n σ)) g_W rm fs g_M (mr_c (bf_c σ)) = (m_th, g_F, g_R, g_C, g_L, rl, lf, ov, g_S, g_O, g_Y, g_H, nI (bf_n σ), W', K', nI (bf_n σ), g_M, res) ∧ vc_X6_find_i25_i71_s152 fu v25 v71 m_th (nI o) (nI f) (nI r) (nI b) m_a u_F u_R g_F g_R g_C g_L rl lf ov g_S g_O g_Y g_H (nI (bf_n σ)) g_W rm fs g_M (mr_c (bf_c σ)) ∧ cr_o (-1) σ g_W W' rm K' res := by
  have hc2 := hI.2.2.1
  unfold cf_X6_find_i25_i71_s152 vc_X6_find_i25_i71_s152
  rcases (show bf_c σ = 0 ∨ bf_c σ = 1 ∨ bf_c σ = 2 by omega) with c | c | c
  · have y : (0 : Int32) ≤ mr_c 0 := by decide +kernel
    rw [c, if_pos y, if_pos (show mr_c 0 = 0 from rfl)]
    exact ⟨g_W, rm, -1, rfl, ⟨fun _ => ⟨fun _ => trivial, fun q => absurd rfl q⟩, fun q => absurd y q⟩, fun _ => ⟨rfl, rfl, rfl⟩, fun q => absurd (c.symm.trans q) (by decide), fun q => absurd (c.symm.trans q) (by decide)⟩
  · have y : (0 : Int32) ≤ mr_c 1 := by decide +kernel
    have y2 : ¬ mr_c 1 = 0 := by decide +kernel
    obtain ⟨W, t1, t2, t3⟩ := tl_all (fu := fu) (g_W := g_W) (rm := rm) hw hI hJ hR.2.1 hR.2.2.1 (by omega)
    rw [c, if_pos y, if_neg y2, t1]
    exact ⟨W, _, _, rfl, ⟨fun _ => ⟨fun q => absurd q y2, fun _ => ⟨t2, trivial⟩⟩, fun q => absurd y q⟩, fun q => absurd (c.symm.trans q) (by decide), fun _ => ⟨rfl, rfl, t3⟩, fun q => absurd (c.symm.trans q) (by decide)⟩
  · have y : ¬ (0 : Int32) ≤ mr_c 2 := by decide +kernel
    rw [c, if_neg y]
    exact ⟨g_W, rm, -2, rfl, ⟨fun q => absurd q y, fun _ => trivial⟩, fun q => absurd (c.symm.trans q) (by decide), fun q => absurd (c.symm.trans q) (by decide), fun _ => ⟨rfl, rfl, rfl⟩⟩

theorem mo_L {σ0 : bf_S} (k25 : _) (v25 : _) (hw : ab_W o f r) (hb : b < 128) (hw4 : w < 4) (hfu : 66000 < fu) (hI : bf_I o f r σ0) (hJ : bf_J f r σ0) : ∀ (j s m : Nat) (g_F g_R g_C g_L : Nat → Int32) (rl lf ov : Int32) (g_S : Nat → Int64) (g_O g_Y g_H g_M : Nat → Int32), s + j = 20000 → j < m → bf_c (bf_out f r b (fun D => sp_br D w) σ0 s) = 0 → mr_R (bf_out f r b (fun D => sp_br D w) σ0 s) g_S g_O g_Y g_H → no_1 8 g_F → no_1 3 g_R → no_0 4 g_C → no_0 4 g_L →
    ∃ F' R' C' L' rl' lf' ov' S' O' Y' H' M' W' K' res, (no_1 8 F' ∧ no_1 3 R' ∧ no_0 4 C' ∧ no_0 4 L') ∧ cf_X6_find_L71 fu k25 m m_th (nI o) (nI f) (nI r) (nI b) m_a u_F u_R g_F g_R g_C g_L rl lf ov g_S g_O g_Y g_H (nI (bf_n (bf_out f r b (fun D => sp_br D w) σ0 s))) g_W rm fs g_M (nI w) (0 : Int32) (nI s) = (m_th, F', R', C', L', rl', lf', ov', S', O', Y', H', nI (bf_n (bf_out f r b (fun D => sp_br D w) σ0 20000)), W', K', nI (bf_n (bf_out f r b (fun D => sp_br D w) σ0 20000)), M', res) ∧ vc_X6_find_L71 fu v25 m m_th (nI o) (nI f) (nI r) (nI b) m_a u_F u_R g_F g_R g_C g_L rl lf ov g_S g_O g_Y g_H (nI (bf_n (bf_out f r b (fun D => sp_br D w) σ0 s))) g_W rm fs g_M (nI w) (0 : Int32) (nI s) ∧ cr_o (-1) (bf_out f r b (fun D => sp_br D w) σ0 20000) g_W W' rm K' res
  | _, _, 0, _, _, _, _, _, _, _, _, _, _, _, _, _, hm, _, _, _, _, _, _ => absurd hm (Nat.not_lt_zero _)
  | j, s, m + 1, g_F, g_R, g_C, g_L, rl, lf, ov, g_S, g_O, g_Y, g_H, g_M, hj, hm, hc, hR, nF, nR, nC, nL => by
    have hIs := hI.out (b := b) (br := (fun D => sp_br D w)) hw s
    have hJs := bf_J.out (b := b) (br := (fun D => sp_br D w)) hw hI hJ s
    have hn2 := hIs.2.1
    have ih := fun (h0 : j ≠ 0) (g_F g_R g_C g_L : Nat → Int32) (rl lf ov : Int32) (g_S : Nat → Int64) (g_O g_Y g_H g_M : Nat → Int32) => mo_L k25 v25 hw hb hw4 hfu hI hJ (j - 1) (s + 1) m g_F g_R g_C g_L rl lf ov g_S g_O g_Y g_H g_M (by omega) (by omega)
    have hend : ∀ t i, t + i = 20000 → (bf_c (bf_out f r b (fun D => sp_br D w) σ0 t) ≠ 0 ∨ bf_n (bf_out f r b (fun D => sp_br D w) σ0 t) ≤ t) → (bf_out f r b (fun D => sp_br D w) σ0 20000) = (bf_out f r b (fun D => sp_br D w) σ0 t) := fun t i ht h => by
      have := bf_out_end h i
      rwa [ht] at this
    have est : (bf_out f r b (fun D => sp_br D w) σ0 (s + 1)) = (if bf_c (bf_out f r b (fun D => sp_br D w) σ0 s) = 0 ∧ s < bf_n (bf_out f r b (fun D => sp_br D w) σ0 s) then bf_in f r b (fun D => sp_br D w) (bf_out f r b (fun D => sp_br D w) σ0 s) s 50 else (bf_out f r b (fun D => sp_br D w) σ0 s)) := rfl
    by_cases hs : bf_n (bf_out f r b (fun D => sp_br D w) σ0 s) ≤ s
    · have y : nI (bf_n (bf_out f r b (fun D => sp_br D w) σ0 s)) ≤ nI s := nI_le hs (by omega)
      rw [hend s j hj (Or.inr hs)]
      obtain ⟨W', K', res, q1, q2, q3⟩ := ml_end (b := b) (m_th := m_th) (m_a := m_a) (u_F := u_F) (u_R := u_R) (g_W := g_W) (rm := rm) (fs := fs) k25 (cf_X6_find_L71 fu k25 m) v25 (vc_X6_find_L71 fu v25 m) g_F g_R g_C g_L rl lf ov g_S g_O g_Y g_H g_M hw hfu hIs hJs hR
      rw [hc, mr_c0] at q1 q2
      refine ⟨g_F, g_R, g_C, g_L, rl, lf, ov, g_S, g_O, g_Y, g_H, g_M, W', K', res, ⟨nF, nR, nC, nL⟩, ?_, ⟨fun _ => q2, fun q => absurd y q⟩, q3⟩
      show (if nI (bf_n (bf_out f r b (fun D => sp_br D w) σ0 s)) ≤ nI s then _ else _) = _
      rw [if_pos y]; exact q1
    · have y : ¬ nI (bf_n (bf_out f r b (fun D => sp_br D w) σ0 s)) ≤ nI s := fun q => hs ((nI_leI (by omega) (by omega)).mp q)
      rw [if_pos ⟨hc, by omega⟩] at est
      obtain ⟨F', R', C', L', rl', lf', ov', S', O', Y', H', M', l1, l2, l3, l4⟩ := ml_L (m_th := m_th) (m_a := m_a) (u_F := u_F) (u_R := u_R) (g_W := g_W) (rm := rm) (fs := fs) k25 (cf_X6_find_L71 fu k25 m) v25 (vc_X6_find_L71 fu v25 m) hw hb hw4 hfu hIs hJs (show s < bf_n (bf_out f r b (fun D => sp_br D w) σ0 s) by omega) 50 0 fu g_F g_R g_C g_L rl lf ov g_S g_O g_Y g_H g_M (by omega) (by omega) hc hR nF nR nC nL
      rw [← est] at l2 l3 l4
      have e0 : cf_X6_find_L71 fu k25 (m + 1) m_th (nI o) (nI f) (nI r) (nI b) m_a u_F u_R g_F g_R g_C g_L rl lf ov g_S g_O g_Y g_H (nI (bf_n (bf_out f r b (fun D => sp_br D w) σ0 s))) g_W rm fs g_M (nI w) (0 : Int32) (nI s) = cf_X6_find_L88 fu k25 (cf_X6_find_L71 fu k25 m) fu m_th (nI o) (nI f) (nI r) (nI b) m_a u_F u_R g_F g_R g_C g_L rl lf ov g_S g_O g_Y g_H (nI (bf_n (bf_out f r b (fun D => sp_br D w) σ0 s))) g_W rm fs g_M (nI w) (0 : Int32) (nI s) (0 : Int32) := by
        show (if nI (bf_n (bf_out f r b (fun D => sp_br D w) σ0 s)) ≤ nI s then _ else if (0 : Int32) = 0 then _ else _) = _
        rw [if_neg y, if_pos rfl]
      have e1 := e0.trans l3
      have e2 := fun V => (show vc_X6_find_L71 fu v25 (m + 1) m_th (nI o) (nI f) (nI r) (nI b) m_a u_F u_R g_F g_R g_C g_L rl lf ov g_S g_O g_Y g_H (nI (bf_n (bf_out f r b (fun D => sp_br D w) σ0 s))) g_W rm fs g_M (nI w) (0 : Int32) (nI s) from ⟨fun q => absurd q y, fun _ => ⟨fun _ => l4 V, fun q => absurd rfl q⟩⟩)
      by_cases c1 : bf_c (bf_out f r b (fun D => sp_br D w) σ0 (s + 1)) = 0
      · rw [c1, mr_c0, nI_1] at e1 e2
        obtain ⟨F', R', C', L', rl', lf', ov', S', O', Y', H', M', W', K', res, i1, i2, i3, i4⟩ := ih (by omega) _ _ _ _ _ _ _ _ _ _ _ M' c1 l2 l1.1 l1.2.1 l1.2.2.1 l1.2.2.2
        exact ⟨F', R', C', L', rl', lf', ov', S', O', Y', H', M', W', K', res, i1, e1.trans i2, e2 i3, i4⟩
      · have he := hend (s + 1) (j - 1) (by omega) (Or.inl c1)
        have hI1 := hI.out (b := b) (br := (fun D => sp_br D w)) hw (s + 1)
        have hJ1 := bf_J.out (b := b) (br := (fun D => sp_br D w)) hw hI hJ (s + 1)
        have zn := mr_cn c1
        obtain ⟨m', rfl⟩ : ∃ m', m = m' + 1 := ⟨m - 1, by omega⟩
        obtain ⟨W', K', res, q1, q2, q3⟩ := ml_end (b := b) (m_th := m_th) (m_a := m_a) (u_F := u_F) (u_R := u_R) (g_W := g_W) (rm := rm) (fs := fs) k25 (cf_X6_find_L71 fu k25 m') v25 (vc_X6_find_L71 fu v25 m') F' R' C' L' rl' lf' ov' S' O' Y' H' M' hw hfu hI1 hJ1 l2
        rw [he]
        refine ⟨F', R', C', L', rl', lf', ov', S', O', Y', H', M', W', K', res, l1, e1.trans ?_, e2 ?_, q3⟩
        · show (if nI (bf_n (bf_out f r b (fun D => sp_br D w) σ0 (s + 1))) ≤ nI s + (1 : Int32) then _ else if mr_c (bf_c (bf_out f r b (fun D => sp_br D w) σ0 (s + 1))) = 0 then _ else _) = _
          by_cases q : nI (bf_n (bf_out f r b (fun D => sp_br D w) σ0 (s + 1))) ≤ nI s + (1 : Int32)
          · rw [if_pos q]; exact q1
          · rw [if_neg q, if_neg zn]; exact q1
        · exact ⟨fun _ => q2, fun _ => ⟨fun q => absurd q zn, fun _ => q2⟩⟩

theorem br_first {E : ab_D} {a : Nat} : sp_br (ab_1 E a) w = false := by
  have hov : (ab_1 E a) 4 2 = 0 := rfl
  have hb : nf_b (ab_1 E a) = 0 := rfl
  have hs : nf_set (ab_1 E a) 0 = 0 := nf_0
  unfold sp_br nf_wi
  rw [hov, hb, hs]
  simp
/-- behind the clearing -/
theorem mf_tail {E : ab_D} {a : Nat} (k25 : _) (v25 : _) (hw : ab_W o f r) (hb : b < 128) (hw4 : w < 4) (hfu : 66000 < fu) (hE : ab_L o f r E) (ha : a ≤ 8) {g_S : Nat → Int64} {g_O g_Y g_H g_M : Nat → Int32} {y0 : Int64} (h0 : ∀ t, t < 65536 → g_H t = 0) :
    ∃ F' R' C' L' rl' lf' ov' S' O' Y' H' M' W' K' res, (no_1 8 F' ∧ no_1 3 R' ∧ no_0 4 C' ∧ no_0 4 L') ∧ cf_X6_find_i25_s58 fu k25 m_th (nI o) (nI f) (nI r) (nI b) (nI a) (ma_F E) (ma_R E) (ma_F (ab_1 E a)) (ma_R (ab_1 E a)) (ma_C (ab_1 E a)) (ma_L (ab_1 E a)) (nI ((ab_1 E a) 4 0)) (nI ((ab_1 E a) 4 1)) (nI ((ab_1 E a) 4 2)) g_S g_O g_Y g_H (0 : Int32) g_W (0 : Int32) fs g_M (nI w) y0 = (m_th, F', R', C', L', rl', lf', ov', S', O', Y', H', nI (bf_n (bf_fin f r b (fun D => sp_br D w) (ab_1 E a))), W', K', nI (bf_n (bf_fin f r b (fun D => sp_br D w) (ab_1 E a))), M', res) ∧ vc_X6_find_i25_s58 fu v25 m_th (nI o) (nI f) (nI r) (nI b) (nI a) (ma_F E) (ma_R E) (ma_F (ab_1 E a)) (ma_R (ab_1 E a)) (ma_C (ab_1 E a)) (ma_L (ab_1 E a)) (nI ((ab_1 E a) 4 0)) (nI ((ab_1 E a) 4 1)) (nI ((ab_1 E a) 4 2)) g_S g_O g_Y g_H (0 : Int32) g_W (0 : Int32) fs g_M (nI w) y0 ∧ cr_o (-1) (bf_fin f r b (fun D => sp_br D w) (ab_1 E a)) g_W W' 0 K' res := by
  have hV := ab_1V hw hE ha
  have hN : ab_N (ab_1 E a) := ab_1N hE
  have hT := ht_0 65536 mh_h (fun i => ab_n (bf_X (0, (fun _ => ab_1 E a), (fun _ => 0), (fun _ => 0), 0) i))
  obtain ⟨d, a1, a2, a3, a4, a5⟩ := mo_slot (fu := fu) (n := 0) (g_S := g_S) (g_H := g_H) (sl := fun _ => 0) (fun i hi => absurd hi (Nat.not_lt_zero _)) h0 hT (by omega) (by omega) (hV.B hw)
  obtain ⟨M1, c1, c2⟩ := co_new (w := w) (n := 0) (sl := fun _ => 0) (g_O := g_O) (g_Y := g_Y) (g_M := g_M) (x5 := -1) (x6 := -1) hw hV hw4 hfu (by omega) a4 a5 h0 rfl
  rw [br_first, if_neg (by decide)] at c1
  have hR : mr_R (bf_0 (ab_1 E a)) (vp_updL g_S 0 (ab_n (ab_1 E a))) (upd g_O 0 (-1)) (upd g_Y 0 (-1)) (upd g_H ((mh_h (ab_n (ab_1 E a)) + d) % 65536) (nI (0 + 1))) := by
    refine ⟨fun i hi => ?_, pk_us, fun i h0 hi => absurd (show i < 1 from hi) (by omega), va_up (fun _ => 0) ((mh_h (ab_n (ab_1 E a)) + d) % 65536) (0 + 1), fun t ht => ?_, ?_⟩
    · have : i = 0 := by have : i < 1 := hi; omega
      subst this; exact pk_uLs
    · by_cases q : t = (mh_h (ab_n (ab_1 E a)) + d) % 65536
      · rw [q, pk_us, va_up_self]
      · rw [pk_un q, va_up_ne _ _ q, h0 t ht]; rfl
    · exact ht_add hT a1 a3 rfl (fun i hi => absurd hi (Nat.not_lt_zero _)) rfl
  obtain ⟨F', R', C', L', rl', lf', ov', S', O', Y', H', M', W', K', res, i1, i2, i3, i4⟩ := mo_L (m_th := m_th) (m_a := nI a) (u_F := ma_F E) (u_R := ma_R E) (g_W := g_W) (rm := 0) (fs := fs) k25 v25 hw hb hw4 hfu (bf_0I hV) (bf_0J hN) 20000 0 fu (ma_F (ab_1 E a)) (ma_R (ab_1 E a)) (ma_C (ab_1 E a)) (ma_L (ab_1 E a)) (nI ((ab_1 E a) 4 0)) (nI ((ab_1 E a) 4 1)) (nI ((ab_1 E a) 4 2)) _ _ _ _ M1 (by omega) (by omega) rfl hR hN.F hN.R hN.C hN.L
  refine ⟨F', R', C', L', rl', lf', ov', S', O', Y', H', M', W', K', res, i1, ?_, ?_, i4⟩
  · unfold cf_X6_find_i25_s58 cf_X6_find_i25_s66
    rw [show (0 : Int32) = nI 0 from rfl, c1]
    exact i2
  · refine ⟨c2, ?_⟩
    rw [show (0 : Int32) = nI 0 from rfl, c1]
    exact i3

theorem mf_L {E : ab_D} {a : Nat} {m_st : Int32} {g_F g_R g_C g_L : Nat → Int32} {rl lf ov : Int32} {g_S : Nat → Int64} {g_O g_Y g_M : Nat → Int32} (hw : ab_W o f r) (hb : b < 128) (hw4 : w < 4) (hfu : 66000 < fu) (hE : ab_L o f r E) (ha : a ≤ 8) (nF : no_1 8 g_F) (nR : no_1 3 g_R) (nC : no_0 4 g_C) (nL : no_0 4 g_L) : ∀ (j k m : Nat) (g_H : Nat → Int32), k + j = 65536 → j < m → (∀ t, t < k → g_H t = 0) →
    ∃ F' R' C' L' rl' lf' ov' S' O' Y' H' M' W' K' res, (no_1 8 F' ∧ no_1 3 R' ∧ no_0 4 C' ∧ no_0 4 L') ∧ cf_X6_find_L25 fu m m_th (nI o) (nI f) (nI r) (nI b) (nI a) (ma_F E) (ma_R E) g_F g_R g_C g_L rl lf ov g_S g_O g_Y g_H m_st g_W rm fs g_M (nI w) (nI k) = (m_th, F', R', C', L', rl', lf', ov', S', O', Y', H', nI (bf_n (bf_fin f r b (fun D => sp_br D w) (ab_1 E a))), W', K', nI (bf_n (bf_fin f r b (fun D => sp_br D w) (ab_1 E a))), M', res) ∧ vc_X6_find_L25 fu m m_th (nI o) (nI f) (nI r) (nI b) (nI a) (ma_F E) (ma_R E) g_F g_R g_C g_L rl lf ov g_S g_O g_Y g_H m_st g_W rm fs g_M (nI w) (nI k) ∧ cr_o (-1) (bf_fin f r b (fun D => sp_br D w) (ab_1 E a)) g_W W' 0 K' res
  | _, _, 0, _, _, hm, _ => absurd hm (Nat.not_lt_zero _)
  | j, k, m + 1, g_H, hj, hm, h0 => by
    by_cases q : k = 65536
    · have y : (65536 : Int32) ≤ nI k := by rw [q]; decide +kernel
      have ef := ms_first hw hE ha rl lf ov nF nR nC nL
      obtain ⟨F', R', C', L', rl', lf', ov', S', O', Y', H', M', W', K', res, i1, i2, i3, i4⟩ := mf_tail (m_th := m_th) (g_W := g_W) (fs := fs) (g_S := g_S) (g_O := g_O) (g_Y := g_Y) (g_H := g_H) (g_M := g_M) (y0 := ab_n (ab_1 E a)) (cf_X6_find_L25 fu m) (vc_X6_find_L25 fu m) hw hb hw4 hfu hE ha (fun t ht => h0 t (by omega))
      refine ⟨F', R', C', L', rl', lf', ov', S', O', Y', H', M', W', K', res, i1, ?_, ⟨fun _ => ?_, fun z => absurd y z⟩, i4⟩
      · show (if (65536 : Int32) ≤ nI k then _ else _) = _
        rw [if_pos y, ef]; exact i2
      · rw [ef]; exact i3
    · have y : ¬ (65536 : Int32) ≤ nI k := fun z => by have := (nI_leI (a := 65536) (b := k) (by omega) (by omega)).mp z; omega
      obtain ⟨F', R', C', L', rl', lf', ov', S', O', Y', H', M', W', K', res, i1, i2, i3, i4⟩ := mf_L (m_st := m_st) (rl := rl) (lf := lf) (ov := ov) (g_S := g_S) (g_O := g_O) (g_Y := g_Y) (g_M := g_M) hw hb hw4 hfu hE ha nF nR nC nL (j - 1) (k + 1) m (upd g_H k 0) (by omega) (by omega) (fun t ht => by
        by_cases z : t = k
        · rw [z, pk_us]
        · rw [pk_un z]; exact h0 t (by omega))
      rw [← nI_1 k] at i2 i3
      refine ⟨F', R', C', L', rl', lf', ov', S', O', Y', H', M', W', K', res, i1, ?_, ⟨fun z => absurd z y, fun _ => ⟨vp_in_nI (by omega) (by omega), ?_⟩⟩, i4⟩
      · show (if (65536 : Int32) ≤ nI k then _ else _) = _
        rw [if_neg y, nI_clamp (by omega)]; exact i2
      · rw [nI_clamp (by omega)]; exact i3
end ML
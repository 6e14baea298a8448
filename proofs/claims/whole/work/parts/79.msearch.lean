/-! the reference's search is the search as numbers -/
def mh_h (v : Int64) : Nat := (v - v / (65536 : Int64) * (65536 : Int64)).toInt32.toNatClampNeg
theorem mh_e {D : ab_D} (h : ab_B D) : (ab_n D - ab_n D / (65536 : Int64) * (65536 : Int64)).toInt32 = nI (mh_h (ab_n D)) ∧ mh_h (ab_n D) < 65536 := by
  have hlt := ab_n_lt h
  have e : ab_n D - ab_n D / (65536 : Int64) * (65536 : Int64) = lN (ab_nN D % 65536) := pk_lRem (a := ab_nN D) (b := 65536) (by omega) (by omega) (by omega)
  unfold mh_h
  rw [e, lN_i, nI_clamp (by omega)]
  exact ⟨rfl, by omega⟩
section SM
variable {n fu : Nat} {g_S : Nat → Int64} {g_H : Nat → Int32} {sl : Nat → Nat} {key : Nat → Int64} {v : Int64}
theorem mo_slotL (hS : ∀ i, i < n → g_S i = key i) (hH : ∀ t, t < 65536 → g_H t = nI (sl t)) (hT : ht_ok 65536 mh_h sl key n) (hn : n ≤ 20000) {d0 : Nat} (hd : d0 < 65536) (hs : ht_stop 65536 mh_h sl key v d0) : ∀ (j e m : Nat), e + j = d0 → j < m → (∀ e', e' < e → ¬ ht_stop 65536 mh_h sl key v e') →
    ∃ d, d < 65536 ∧ ht_stop 65536 mh_h sl key v d ∧ (∀ e', e' < d → ¬ ht_stop 65536 mh_h sl key v e') ∧ cf_X6_slotOf_L7 fu m g_S g_H v (nI ((mh_h v + e) % 65536)) = nI ((mh_h v + d) % 65536) ∧ vc_X6_slotOf_L7 fu m g_S g_H v (nI ((mh_h v + e) % 65536))
  | _, _, 0, _, hm, _ => absurd hm (Nat.not_lt_zero _)
  | j, e, m + 1, hj, hm, hb => by
    have hlt : (mh_h v + e) % 65536 < 65536 := Nat.mod_lt _ (by omega)
    have ec : (nI ((mh_h v + e) % 65536)).toNatClampNeg = (mh_h v + e) % 65536 := nI_clamp (by omega)
    have hin : vp_in (nI ((mh_h v + e) % 65536)) 65536 := vp_in_nI hlt (by omega)
    have eH := hH _ hlt
    have hle := hT.1 _ hlt
    by_cases z : sl ((mh_h v + e) % 65536) = 0
    · have y2 : g_H (nI ((mh_h v + e) % 65536)).toNatClampNeg ≤ 0 := by rw [ec, eH, z]; decide +kernel
      refine ⟨e, by omega, Or.inl z, hb, ?_, ⟨hin, fun _ => trivial, fun q => absurd y2 q⟩⟩
      show (if g_H _ ≤ 0 then _ else _) = _
      rw [if_pos y2]; rfl
    · have y2 : ¬ g_H (nI ((mh_h v + e) % 65536)).toNatClampNeg ≤ 0 := by rw [ec, eH]; exact nI_nle (by omega) (by omega)
      have e1 : g_H (nI ((mh_h v + e) % 65536)).toNatClampNeg - (1 : Int32) = nI (sl ((mh_h v + e) % 65536) - 1) := by
        rw [ec, eH]
        obtain ⟨q, hq⟩ : ∃ q, sl ((mh_h v + e) % 65536) = q + 1 := ⟨sl ((mh_h v + e) % 65536) - 1, by omega⟩
        rw [hq, nI_pred]; rfl
      have hin2 : vp_in (g_H (nI ((mh_h v + e) % 65536)).toNatClampNeg - (1 : Int32)) 20000 := by rw [e1]; exact vp_in_nI (by omega) (by omega)
      have e2 : g_S ((g_H (nI ((mh_h v + e) % 65536)).toNatClampNeg - (1 : Int32))).toNatClampNeg = key (sl ((mh_h v + e) % 65536) - 1) := by
        rw [e1, nI_clamp (by omega), hS _ (by omega)]
      by_cases w : key (sl ((mh_h v + e) % 65536) - 1) = v
      · have y3 : lg_cmp (g_S ((g_H (nI ((mh_h v + e) % 65536)).toNatClampNeg - (1 : Int32))).toNatClampNeg) v = 0 := by rw [e2, lg_cmp_eq]; exact w
        refine ⟨e, by omega, Or.inr w, hb, ?_, ⟨hin, fun q => absurd q y2, fun _ => ⟨hin, hin2, fun _ => trivial, fun q => absurd y3 q⟩⟩⟩
        show (if g_H _ ≤ 0 then _ else if lg_cmp _ _ = 0 then _ else _) = _
        rw [if_neg y2, if_pos y3]; rfl
      · have y3 : ¬ lg_cmp (g_S ((g_H (nI ((mh_h v + e) % 65536)).toNatClampNeg - (1 : Int32))).toNatClampNeg) v = 0 := by rw [e2, lg_cmp_eq]; exact w
        have ns : ¬ ht_stop 65536 mh_h sl key v e := fun q => q.elim z w
        have hj0 : j ≠ 0 := fun q => ns (by rw [show e = d0 by omega]; exact hs)
        obtain ⟨d, a1, a2, a3, a4, a5⟩ := mo_slotL hS hH hT hn hd hs (j - 1) (e + 1) m (by omega) (by omega) (fun e' he => by
          rcases Nat.lt_or_ge e' e with q | q
          · exact hb e' q
          · rw [show e' = e by omega]; exact ns)
        have e3 : (nI ((mh_h v + e) % 65536) + (1 : Int32)) &&& (65535 : Int32) = nI ((mh_h v + (e + 1)) % 65536) := by
          rw [nI_1, pk_andN (by omega) 16 (by decide +kernel)]
          congr 1
          omega
        rw [← e3] at a4 a5
        refine ⟨d, a1, a2, a3, ?_, ⟨hin, fun q => absurd q y2, fun _ => ⟨hin, hin2, fun q => absurd q y3, fun _ => a5⟩⟩⟩
        show (if g_H _ ≤ 0 then _ else if lg_cmp _ _ = 0 then _ else _) = _
        rw [if_neg y2, if_neg y3]
        exact a4
theorem mo_slot (hS : ∀ i, i < n → g_S i = key i) (hH : ∀ t, t < 65536 → g_H t = nI (sl t)) (hT : ht_ok 65536 mh_h sl key n) (hn : n ≤ 20000) (hfu : 65536 < fu) {D : ab_D} (hB : ab_B D) : ∃ d, d < 65536 ∧ ht_stop 65536 mh_h sl key (ab_n D) d ∧ (∀ e', e' < d → ¬ ht_stop 65536 mh_h sl key (ab_n D) e') ∧ cf_X6_slotOf fu g_S g_H (ab_n D) = nI ((mh_h (ab_n D) + d) % 65536) ∧ vc_X6_slotOf fu g_S g_H (ab_n D) := by
  obtain ⟨d0, h1, h2⟩ := ht_free hT (by omega) (mh_h (ab_n D))
  obtain ⟨d, a1, a2, a3, a4, a5⟩ := mo_slotL (fu := fu) hS hH hT hn h1 (Or.inl h2) d0 0 fu (by omega) (by omega) (fun e' he => absurd he (Nat.not_lt_zero _))
  obtain ⟨b1, b2⟩ := mh_e hB
  rw [Nat.add_zero, Nat.mod_eq_of_lt b2] at a4 a5
  refine ⟨d, a1, a2, a3, ?_, ?_⟩
  · unfold cf_X6_slotOf; rw [b1]; exact a4
  · unfold vc_X6_slotOf; rw [b1]; exact a5
end SM
/-! the ROW that is told -/
section TL
variable {o f r fu : Nat} {σ : bf_S} {g_O g_Y g_W : Nat → Int32} {rm : Int32} {k7 : (Nat → Int32) → (Nat → Int32) → (Nat → Int32) → Int32 → Int32 → Int32 → (Nat → Int32) × Int32} {v7 : (Nat → Int32) → (Nat → Int32) → (Nat → Int32) → Int32 → Int32 → Int32 → Prop}
theorem tl_2 (hI : bf_I o f r σ) (h0 : g_O 0 = -1) (hO : ∀ i, 0 < i → i < bf_n σ → g_O i = nI (bf_o σ i) ∧ g_Y i = nI (bf_b σ i)) : ∀ (N i m : Nat) (g_W : Nat → Int32), i < N → i < bf_n σ → (bf_R σ i).length < m → (bf_R σ i).length ≤ 40 →
    ∃ W, cf_X6_tell_L43 fu k7 m g_O g_Y g_W rm (nI (bf_R σ i).length) (nI i) = (W, rm) ∧ vc_X6_tell_L43 fu v7 m g_O g_Y g_W rm (nI (bf_R σ i).length) (nI i) ∧ (∀ k, k < (bf_R σ i).length → W k = nI ((bf_R σ i).getD k 0)) ∧ (∀ k, (bf_R σ i).length ≤ k → W k = g_W k)
  | 0, _, _, _, hi, _, _, _ => absurd hi (Nat.not_lt_zero _)
  | _, _, 0, _, _, _, hm, _ => absurd hm (Nat.not_lt_zero _)
  | N + 1, i, m + 1, g_W, hi, hn, hm, h40 => by
    have hn2 := hI.2.1
    have hx : vp_in (nI i) 20000 := vp_in_nI (by omega) (by omega)
    by_cases q : i = 0
    · subst q
      have y : g_O (nI 0).toNatClampNeg < (0 : Int32) := by show g_O 0 < 0; rw [h0]; decide +kernel
      refine ⟨g_W, ?_, ⟨hx, fun _ => trivial, fun z => absurd y z⟩, fun k hk => absurd hk (Nat.not_lt_zero _), fun _ _ => rfl⟩
      show (if g_O _ < (0 : Int32) then _ else _) = _
      rw [if_pos y]
    · have ho := fun j h0 (hj : j ≤ i) => (hI.2.2.2.2 j h0 (by omega)).1
      have ho' := ho i (by omega) (Nat.le_refl _)
      have er : bf_R σ i = bf_R σ (bf_o σ i) ++ [bf_b σ i] := bf_rs (by omega) ho
      have el : (bf_R σ i).length = (bf_R σ (bf_o σ i)).length + 1 := by rw [er, List.length_append]; rfl
      obtain ⟨c1, c2⟩ := hO i (by omega) hn
      have ei : g_O (nI i).toNatClampNeg = nI (bf_o σ i) := by rw [nI_clamp (by omega)]; exact c1
      have ey : g_Y (nI i).toNatClampNeg = nI (bf_b σ i) := by rw [nI_clamp (by omega)]; exact c2
      rw [el]
      have y : ¬ g_O (nI i).toNatClampNeg < (0 : Int32) := by rw [ei]; exact nI_pos (by omega)
      obtain ⟨W, a1, a2, a3, a4⟩ := tl_2 hI h0 hO N (bf_o σ i) m (upd g_W (bf_R σ (bf_o σ i)).length (nI (bf_b σ i))) (by omega) (by omega) (by omega) (by omega)
      have e5 : nI ((bf_R σ (bf_o σ i)).length + 1) + (-1 : Int32) = nI (bf_R σ (bf_o σ i)).length := pk_m1 _
      refine ⟨W, ?_, ⟨hx, fun z => absurd z y, fun _ => ⟨hx, ?_, hx, ?_⟩⟩, fun k hk => ?_, fun k hk => ?_⟩
      · show (if g_O _ < (0 : Int32) then _ else _) = _
        rw [if_neg y, ei, ey, e5, nI_clamp (by omega)]
        exact a1
      · rw [e5]; exact vp_in_nI (by omega) (by omega)
      · rw [ei, ey, e5, nI_clamp (by omega)]
        exact a2
      · rw [er]
        by_cases z : k < (bf_R σ (bf_o σ i)).length
        · rw [a3 k z, gd_l z]
        · have hk2 : k = (bf_R σ (bf_o σ i)).length := by omega
          rw [a4 k (by omega), hk2, pk_us, gd_r]
      · rw [a4 k (by omega), pk_un (by omega)]
theorem tl_1 (hI : bf_I o f r σ) (h0 : g_O 0 = -1) (hO : ∀ i, 0 < i → i < bf_n σ → g_O i = nI (bf_o σ i) ∧ g_Y i = nI (bf_b σ i)) (hfu : 41 < fu) (h40 : (bf_R σ (bf_n σ - 1)).length ≤ 40) : ∀ (N i a m : Nat), i < N → i < bf_n σ → a + (bf_R σ i).length = (bf_R σ (bf_n σ - 1)).length → (bf_R σ i).length < m →
    ∃ W, cf_X6_tell_L7 fu m g_O g_Y g_W (nI a) (nI (bf_n σ - 1)) (nI i) = (W, nI (bf_R σ (bf_n σ - 1)).length) ∧ vc_X6_tell_L7 fu m g_O g_Y g_W (nI a) (nI (bf_n σ - 1)) (nI i) ∧ (∀ k, k < (bf_R σ (bf_n σ - 1)).length → W k = nI ((bf_R σ (bf_n σ - 1)).getD k 0))
  | 0, _, _, _, hi, _, _, _ => absurd hi (Nat.not_lt_zero _)
  | _, _, _, 0, _, _, _, hm => absurd hm (Nat.not_lt_zero _)
  | N + 1, i, a, m + 1, hi, hn, ha, hm => by
    have hn1 := hI.1
    have hn2 := hI.2.1
    have hx : vp_in (nI i) 20000 := vp_in_nI (by omega) (by omega)
    by_cases q : i = 0
    · subst q
      have y : g_O (nI 0).toNatClampNeg < (0 : Int32) := by show g_O 0 < 0; rw [h0]; decide +kernel
      have ha0 : a = (bf_R σ (bf_n σ - 1)).length := by rw [← ha]; rfl
      obtain ⟨W, a1, a2, a3, a4⟩ := tl_2 (fu := fu) (k7 := cf_X6_tell_L7 fu m) (v7 := vc_X6_tell_L7 fu m) (rm := nI (bf_R σ (bf_n σ - 1)).length) hI h0 hO (bf_n σ) (bf_n σ - 1) fu g_W (by omega) (by omega) (by omega) h40
      refine ⟨W, ?_, ⟨hx, fun _ => ?_, fun z => absurd y z⟩, a3⟩
      · show (if g_O _ < (0 : Int32) then _ else _) = _
        rw [if_pos y, ha0]; exact a1
      · rw [ha0]; exact a2
    · have ho := fun j h0 (hj : j ≤ i) => (hI.2.2.2.2 j h0 (by omega)).1
      have ho' := ho i (by omega) (Nat.le_refl _)
      have er : bf_R σ i = bf_R σ (bf_o σ i) ++ [bf_b σ i] := bf_rs (by omega) ho
      have el : (bf_R σ i).length = (bf_R σ (bf_o σ i)).length + 1 := by rw [er, List.length_append]; rfl
      obtain ⟨c1, c2⟩ := hO i (by omega) hn
      have ei : g_O (nI i).toNatClampNeg = nI (bf_o σ i) := by rw [nI_clamp (by omega)]; exact c1
      have y : ¬ g_O (nI i).toNatClampNeg < (0 : Int32) := by rw [ei]; exact nI_pos (by omega)
      obtain ⟨W, a1, a2, a3⟩ := tl_1 hI h0 hO hfu h40 N (bf_o σ i) (a + 1) m (by omega) (by omega) (by omega) (by omega)
      rw [← nI_1 a] at a1 a2
      refine ⟨W, ?_, ⟨hx, fun z => absurd z y, fun _ => ⟨hx, ?_⟩⟩, a3⟩
      · show (if g_O _ < (0 : Int32) then _ else _) = _
        rw [if_neg y, ei]; exact a1
      · rw [ei]; exact a2
theorem tl_all (hw : ab_W o f r) (hI : bf_I o f r σ) (hJ : bf_J f r σ) (h0 : g_O 0 = -1) (hO : ∀ i, 0 < i → i < bf_n σ → g_O i = nI (bf_o σ i) ∧ g_Y i = nI (bf_b σ i)) (hfu : 41 < fu) : ∃ W, cf_X6_tell fu g_O g_Y g_W rm (nI (bf_n σ) - (1 : Int32)) = (W, nI (bf_R σ (bf_n σ - 1)).length) ∧ vc_X6_tell fu g_O g_Y g_W rm (nI (bf_n σ) - (1 : Int32)) ∧ (∀ k, k < (bf_R σ (bf_n σ - 1)).length → W k = nI ((bf_R σ (bf_n σ - 1)).getD k 0)) := by
  have hn1 := hI.1
  have h40 : (bf_R σ (bf_n σ - 1)).length ≤ 40 := bf_len40 hw hI hJ (i := bf_n σ - 1) (by omega)
  have e1 : nI (bf_n σ) - (1 : Int32) = nI (bf_n σ - 1) := by
    obtain ⟨q, hq⟩ : ∃ q, bf_n σ = q + 1 := ⟨bf_n σ - 1, by omega⟩
    rw [hq, nI_pred]; rfl
  obtain ⟨W, a1, a2, a3⟩ := tl_1 (fu := fu) (g_W := g_W) hI h0 hO hfu h40 (bf_n σ) (bf_n σ - 1) 0 fu (by omega) (by omega) (by omega) (by omega)
  rw [e1]
  exact ⟨W, a1, a2, a3⟩
end TL
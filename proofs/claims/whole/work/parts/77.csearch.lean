/-! the class's search is the search as numbers -/
def ch_h (v : Int64) : Nat := (jl_ushr (v * (-7046029254386353131 : Int64)) (49 : Int32)).toInt32.toNatClampNeg
theorem ch_e (v : Int64) : (jl_ushr (v * (-7046029254386353131 : Int64)) (49 : Int32)).toInt32 = nI (ch_h v) ∧ ch_h v < 32768 := by
  unfold ch_h
  obtain ⟨m, hm, e⟩ := wb_of (v * (-7046029254386353131 : Int64))
  rw [e, show (49 : Int32) = nI 49 from rfl]
  unfold jl_ushr
  rw [wb_shr hm (by omega), lN_i]
  have : m / 2 ^ 49 < 32768 := by omega
  rw [nI_clamp (by omega)]
  exact ⟨rfl, this⟩
section SL
variable {n fu : Nat} {t_S : Nat → Int64} {t_H : Nat → Int32} {sl : Nat → Nat} {key : Nat → Int64} {v : Int64}
theorem cl_slotL (hS : ∀ i, i < n → t_S i = key i) (hH : ∀ t, t < 32768 → t_H t = nI (sl t)) (hT : ht_ok 32768 ch_h sl key n) (hn : n ≤ 20000) {d0 : Nat} (hd : d0 < 32768) (hs : ht_stop 32768 ch_h sl key v d0) : ∀ (j e m : Nat), e + j = d0 → j < m → (∀ e', e' < e → ¬ ht_stop 32768 ch_h sl key v e') →
    ∃ d, d < 32768 ∧ ht_stop 32768 ch_h sl key v d ∧ (∀ e', e' < d → ¬ ht_stop 32768 ch_h sl key v e') ∧ cf_X2_slotFor_L13 fu m t_S t_H v (nI ((ch_h v + e) % 32768)) (nI e) = nI ((ch_h v + d) % 32768) ∧ vc_X2_slotFor_L13 fu m t_S t_H v (nI ((ch_h v + e) % 32768)) (nI e)
  | _, _, 0, _, hm, _ => absurd hm (Nat.not_lt_zero _)
  | j, e, m + 1, hj, hm, hb => by
    have hlt : (ch_h v + e) % 32768 < 32768 := Nat.mod_lt _ (by omega)
    have y : ¬ (32768 : Int32) ≤ nI e := fun q => by
      have := (nI_leI (a := 32768) (b := e) (by omega) (by omega)).mp q; omega
    have ec : (nI ((ch_h v + e) % 32768)).toNatClampNeg = (ch_h v + e) % 32768 := nI_clamp (by omega)
    have hin : vp_in (nI ((ch_h v + e) % 32768)) 32768 := vp_in_nI hlt (by omega)
    have eH := hH _ hlt
    have hle := hT.1 _ hlt
    by_cases z : sl ((ch_h v + e) % 32768) = 0
    · have y2 : t_H (nI ((ch_h v + e) % 32768)).toNatClampNeg = 0 := by rw [ec, eH, z]; rfl
      refine ⟨e, by omega, Or.inl z, hb, ?_, fun q => absurd q y, fun _ => ⟨hin, fun _ => trivial, fun q => absurd y2 q⟩⟩
      show (if (32768 : Int32) ≤ nI e then _ else if t_H _ = 0 then _ else _) = _
      rw [if_neg y, if_pos y2]; rfl
    · have y2 : ¬ t_H (nI ((ch_h v + e) % 32768)).toNatClampNeg = 0 := by rw [ec, eH]; exact nI_ne0 (by omega) (by omega)
      have e1 : t_H (nI ((ch_h v + e) % 32768)).toNatClampNeg - (1 : Int32) = nI (sl ((ch_h v + e) % 32768) - 1) := by
        rw [ec, eH]
        obtain ⟨q, hq⟩ : ∃ q, sl ((ch_h v + e) % 32768) = q + 1 := ⟨sl ((ch_h v + e) % 32768) - 1, by omega⟩
        rw [hq, nI_pred]; rfl
      have hin2 : vp_in (t_H (nI ((ch_h v + e) % 32768)).toNatClampNeg - (1 : Int32)) 20000 := by rw [e1]; exact vp_in_nI (by omega) (by omega)
      have e2 : t_S ((t_H (nI ((ch_h v + e) % 32768)).toNatClampNeg - (1 : Int32))).toNatClampNeg = key (sl ((ch_h v + e) % 32768) - 1) := by
        rw [e1, nI_clamp (by omega), hS _ (by omega)]
      by_cases w : key (sl ((ch_h v + e) % 32768) - 1) = v
      · have y3 : lg_cmp (t_S ((t_H (nI ((ch_h v + e) % 32768)).toNatClampNeg - (1 : Int32))).toNatClampNeg) v = 0 := by rw [e2, lg_cmp_eq]; exact w
        refine ⟨e, by omega, Or.inr w, hb, ?_, fun q => absurd q y, fun _ => ⟨hin, fun q => absurd q y2, fun _ => ⟨hin2, fun _ => trivial, fun q => absurd y3 q⟩⟩⟩
        show (if (32768 : Int32) ≤ nI e then _ else if t_H _ = 0 then _ else if lg_cmp _ _ = 0 then _ else _) = _
        rw [if_neg y, if_neg y2, if_pos y3]; rfl
      · have y3 : ¬ lg_cmp (t_S ((t_H (nI ((ch_h v + e) % 32768)).toNatClampNeg - (1 : Int32))).toNatClampNeg) v = 0 := by rw [e2, lg_cmp_eq]; exact w
        have ns : ¬ ht_stop 32768 ch_h sl key v e := fun q => q.elim z w
        have hj0 : j ≠ 0 := fun q => ns (by rw [show e = d0 by omega]; exact hs)
        obtain ⟨d, a1, a2, a3, a4, a5⟩ := cl_slotL hS hH hT hn hd hs (j - 1) (e + 1) m (by omega) (by omega) (fun e' he => by
          rcases Nat.lt_or_ge e' e with q | q
          · exact hb e' q
          · rw [show e' = e by omega]; exact ns)
        have e3 : (nI ((ch_h v + e) % 32768) + (1 : Int32)) &&& (32767 : Int32) = nI ((ch_h v + (e + 1)) % 32768) := by
          rw [nI_1, pk_andN (by omega) 15 (by decide +kernel)]
          congr 1
          omega
        rw [← e3, ← nI_1 e] at a4 a5
        refine ⟨d, a1, a2, a3, ?_, fun q => absurd q y, fun _ => ⟨hin, fun q => absurd q y2, fun _ => ⟨hin2, fun q => absurd q y3, fun _ => a5⟩⟩⟩
        show (if (32768 : Int32) ≤ nI e then _ else if t_H _ = 0 then _ else if lg_cmp _ _ = 0 then _ else _) = _
        rw [if_neg y, if_neg y2, if_neg y3]
        exact a4
theorem cl_slot (hS : ∀ i, i < n → t_S i = key i) (hH : ∀ t, t < 32768 → t_H t = nI (sl t)) (hT : ht_ok 32768 ch_h sl key n) (hn : n ≤ 20000) (hfu : 32768 < fu) (v : Int64) : ∃ d, d < 32768 ∧ ht_stop 32768 ch_h sl key v d ∧ (∀ e', e' < d → ¬ ht_stop 32768 ch_h sl key v e') ∧ cf_X2_slotFor fu t_S t_H v = nI ((ch_h v + d) % 32768) ∧ vc_X2_slotFor fu t_S t_H v := by
  obtain ⟨d0, h1, h2⟩ := ht_free hT (by omega) (ch_h v)
  obtain ⟨d, a1, a2, a3, a4, a5⟩ := cl_slotL (fu := fu) hS hH hT hn h1 (Or.inl h2) d0 0 fu (by omega) (by omega) (fun e' he => absurd he (Nat.not_lt_zero _))
  obtain ⟨b1, b2⟩ := ch_e v
  rw [Nat.add_zero, Nat.mod_eq_of_lt b2] at a4 a5
  refine ⟨d, a1, a2, a3, ?_, ?_⟩
  · unfold cf_X2_slotFor; rw [b1]; exact a4
  · unfold vc_X2_slotFor; rw [b1]; exact a5
end SL
/-! the ROW that is kept -/
theorem gd_l {l : List Nat} {x k : Nat} (h : k < l.length) : (l ++ [x]).getD k 0 = l.getD k 0 := by
  rw [List.getD_eq_getElem?_getD, List.getD_eq_getElem?_getD, List.getElem?_append_left h]
theorem gd_r {l : List Nat} {x : Nat} : (l ++ [x]).getD l.length 0 = x := by
  rw [List.getD_eq_getElem?_getD, List.getElem?_append_right (Nat.le_refl _), Nat.sub_self]; rfl
section KR
variable {o f r fu : Nat} {σ : bf_S} {t_O t_W : Nat → Int32} {x1 sn sk : Int32} {k9 : (Nat → Int32) → Int32 → (Nat → Int32) → Int32 → Int32 → Int32 → (Nat → Int32) × Int32} {v9 : (Nat → Int32) → Int32 → (Nat → Int32) → Int32 → Int32 → Int32 → Prop}
abbrev bf_R (σ : bf_S) (i : Nat) : List Nat := bf_r (bf_o σ) (bf_b σ) i
theorem kr_o {a k : Nat} (ha : a < 20000) (hk : k < 50) : nI (a * 64 + k) / (64 : Int32) = nI a ∧ nI (a * 64 + k) - nI (a * 64 + k) / (64 : Int32) * (64 : Int32) = nI k := by
  have e1 := pk_div (a := a * 64 + k) (d := 64) (by omega) (by omega) (by omega)
  have e2 := pk_rem (a := a * 64 + k) (d := 64) (by omega) (by omega) (by omega)
  rw [show (a * 64 + k) / 64 = a by omega] at e1
  rw [show (a * 64 + k) % 64 = k by omega] at e2
  exact ⟨e1, e2⟩
theorem kr_2 (hI : bf_I o f r σ) (hO : ∀ i, 0 < i → i < bf_n σ → t_O i = nI (bf_o σ i * 64 + bf_b σ i)) : ∀ (N i m : Nat) (t_W : Nat → Int32), i < N → i < bf_n σ → (bf_R σ i).length < m → (bf_R σ i).length ≤ 40 →
    ∃ W, cf_X2_keepRow_L46 fu k9 m t_O sn t_W sk x1 (nI i) (nI (bf_R σ i).length - 1) = (W, x1) ∧ vc_X2_keepRow_L46 fu v9 m t_O sn t_W sk x1 (nI i) (nI (bf_R σ i).length - 1) ∧ (∀ k, k < (bf_R σ i).length → W k = nI ((bf_R σ i).getD k 0)) ∧ (∀ k, (bf_R σ i).length ≤ k → W k = t_W k)
  | 0, _, _, _, hi, _, _, _ => absurd hi (Nat.not_lt_zero _)
  | _, _, 0, _, _, _, hm, _ => absurd hm (Nat.not_lt_zero _)
  | N + 1, i, m + 1, t_W, hi, hn, hm, h40 => by
    have hn2 := hI.2.1
    by_cases q : i = 0
    · subst q
      have y : nI (bf_R σ 0).length - 1 < (0 : Int32) := by show nI 0 - 1 < (0 : Int32); decide +kernel
      refine ⟨t_W, ?_, ⟨fun _ => trivial, fun z => absurd y z⟩, fun k hk => absurd hk (Nat.not_lt_zero _), fun _ _ => rfl⟩
      show (if nI (bf_R σ 0).length - 1 < (0 : Int32) then _ else _) = _
      rw [if_pos y]
    · have ho := fun j h0 (hj : j ≤ i) => (hI.2.2.2.2 j h0 (by omega)).1
      have ho' := ho i (by omega) (Nat.le_refl _)
      have hb := (hI.2.2.2.2 i (by omega) hn).2
      have er : bf_R σ i = bf_R σ (bf_o σ i) ++ [bf_b σ i] := bf_rs (by omega) ho
      have el : (bf_R σ i).length = (bf_R σ (bf_o σ i)).length + 1 := by rw [er, List.length_append]; rfl
      obtain ⟨d1, d2⟩ := kr_o (a := bf_o σ i) (k := bf_b σ i) (by omega) hb
      have ei : t_O (nI i).toNatClampNeg = nI (bf_o σ i * 64 + bf_b σ i) := by rw [nI_clamp (by omega)]; exact hO i (by omega) hn
      rw [el, nI_pred]
      have y : ¬ nI (bf_R σ (bf_o σ i)).length < (0 : Int32) := nI_pos (by omega)
      obtain ⟨W, a1, a2, a3, a4⟩ := kr_2 hI hO N (bf_o σ i) m (upd t_W (bf_R σ (bf_o σ i)).length (nI (bf_b σ i))) (by omega) (by omega) (by omega) (by omega)
      have hx : vp_in (nI i) 20000 := vp_in_nI (by omega) (by omega)
      have e5 : nI (bf_R σ (bf_o σ i)).length + (-1 : Int32) = nI (bf_R σ (bf_o σ i)).length - 1 := by
        rw [Int32.sub_eq_add_neg]
      refine ⟨W, ?_, ⟨fun z => absurd z y, fun _ => ⟨hx, vp_in_nI (by omega) (by omega), hx, ?_⟩⟩, fun k hk => ?_, fun k hk => ?_⟩
      · show (if nI (bf_R σ (bf_o σ i)).length < (0 : Int32) then _ else _) = _
        rw [if_neg y, ei, d2, d1, nI_clamp (by omega), e5]
        exact a1
      · rw [ei, d2, d1, nI_clamp (by omega), e5]
        exact a2
      · rw [er]
        by_cases z : k < (bf_R σ (bf_o σ i)).length
        · rw [a3 k z, gd_l z]
        · have hk2 : k = (bf_R σ (bf_o σ i)).length := by omega
          rw [a4 k (by omega), hk2, pk_us, gd_r]
      · rw [a4 k (by omega), pk_un (by omega)]
theorem kr_1 (hI : bf_I o f r σ) (hO : ∀ i, 0 < i → i < bf_n σ → t_O i = nI (bf_o σ i * 64 + bf_b σ i)) (hfu : 41 < fu) (h40 : (bf_R σ (bf_n σ - 1)).length ≤ 40) : ∀ (N i a m : Nat), i < N → i < bf_n σ → a + (bf_R σ i).length = (bf_R σ (bf_n σ - 1)).length → (bf_R σ i).length < m →
    ∃ W, cf_X2_keepRow_L9 fu m t_O (nI (bf_n σ)) t_W sk (nI a) (nI i) = (W, nI (bf_R σ (bf_n σ - 1)).length) ∧ vc_X2_keepRow_L9 fu m t_O (nI (bf_n σ)) t_W sk (nI a) (nI i) ∧ (∀ k, k < (bf_R σ (bf_n σ - 1)).length → W k = nI ((bf_R σ (bf_n σ - 1)).getD k 0))
  | 0, _, _, _, hi, _, _, _ => absurd hi (Nat.not_lt_zero _)
  | _, _, _, 0, _, _, _, hm => absurd hm (Nat.not_lt_zero _)
  | N + 1, i, a, m + 1, hi, hn, ha, hm => by
    have hn1 := hI.1
    have hn2 := hI.2.1
    by_cases q : i = 0
    · subst q
      have y : nI 0 ≤ (0 : Int32) := by decide +kernel
      have ha0 : a = (bf_R σ (bf_n σ - 1)).length := by rw [← ha]; rfl
      obtain ⟨W, a1, a2, a3, a4⟩ := kr_2 (fu := fu) (k9 := cf_X2_keepRow_L9 fu m) (v9 := vc_X2_keepRow_L9 fu m) (sn := nI (bf_n σ)) (sk := sk) (x1 := nI (bf_R σ (bf_n σ - 1)).length) hI hO (bf_n σ) (bf_n σ - 1) fu t_W (by omega) (by omega) (by omega) h40
      have e1 : nI (bf_n σ) - (1 : Int32) = nI (bf_n σ - 1) := by
        obtain ⟨q, hq⟩ : ∃ q, bf_n σ = q + 1 := ⟨bf_n σ - 1, by omega⟩
        rw [hq, nI_pred]; rfl
      refine ⟨W, ?_, ⟨fun _ => ?_, fun z => absurd y z⟩, a3⟩
      · show (if nI 0 ≤ (0 : Int32) then cf_X2_keepRow_i9_s35 _ _ _ _ _ _ _ else _) = _
        rw [if_pos y]
        unfold cf_X2_keepRow_i9_s35
        rw [e1, ha0]; exact a1
      · unfold vc_X2_keepRow_i9_s35
        rw [e1, ha0]; exact a2
    · have ho := fun j h0 (hj : j ≤ i) => (hI.2.2.2.2 j h0 (by omega)).1
      have ho' := ho i (by omega) (Nat.le_refl _)
      have hb := (hI.2.2.2.2 i (by omega) hn).2
      have er : bf_R σ i = bf_R σ (bf_o σ i) ++ [bf_b σ i] := bf_rs (by omega) ho
      have el : (bf_R σ i).length = (bf_R σ (bf_o σ i)).length + 1 := by rw [er, List.length_append]; rfl
      obtain ⟨d1, d2⟩ := kr_o (a := bf_o σ i) (k := bf_b σ i) (by omega) hb
      have ei : t_O (nI i).toNatClampNeg = nI (bf_o σ i * 64 + bf_b σ i) := by rw [nI_clamp (by omega)]; exact hO i (by omega) hn
      have y : ¬ nI i ≤ (0 : Int32) := nI_nle (by omega) (by omega)
      have y2 : ¬ (40 : Int32) ≤ nI a := fun z => by have := (nI_leI (a := 40) (b := a) (by omega) (by omega)).mp z; omega
      obtain ⟨W, a1, a2, a3⟩ := kr_1 hI hO hfu h40 N (bf_o σ i) (a + 1) m (by omega) (by omega) (by omega) (by omega)
      rw [← nI_1 a] at a1 a2
      refine ⟨W, ?_, ⟨fun z => absurd z y, fun _ => ⟨fun z => absurd z y2, fun _ => ⟨vp_in_nI (by omega) (by omega), ?_⟩⟩⟩, a3⟩
      · show (if nI i ≤ (0 : Int32) then _ else if (40 : Int32) ≤ nI a then _ else _) = _
        rw [if_neg y, if_neg y2, ei, d1]; exact a1
      · rw [ei, d1]; exact a2
theorem kr_all (hw : ab_W o f r) (hI : bf_I o f r σ) (hJ : bf_J f r σ) (hO : ∀ i, 0 < i → i < bf_n σ → t_O i = nI (bf_o σ i * 64 + bf_b σ i)) (hfu : 41 < fu) : ∃ W, cf_X2_keepRow fu t_O (nI (bf_n σ)) t_W sk = (W, nI (bf_R σ (bf_n σ - 1)).length) ∧ vc_X2_keepRow fu t_O (nI (bf_n σ)) t_W sk ∧ (∀ k, k < (bf_R σ (bf_n σ - 1)).length → W k = nI ((bf_R σ (bf_n σ - 1)).getD k 0)) := by
  have hn1 := hI.1
  have h40 : (bf_R σ (bf_n σ - 1)).length ≤ 40 := bf_len40 hw hI hJ (i := bf_n σ - 1) (by omega)
  have e1 : nI (bf_n σ) - (1 : Int32) = nI (bf_n σ - 1) := by
    obtain ⟨q, hq⟩ : ∃ q, bf_n σ = q + 1 := ⟨bf_n σ - 1, by omega⟩
    rw [hq, nI_pred]; rfl
  obtain ⟨W, a1, a2, a3⟩ := kr_1 (fu := fu) (t_W := t_W) (sk := sk) hI hO hfu h40 (bf_n σ) (bf_n σ - 1) 0 fu (by omega) (by omega) (by omega) (by omega)
  refine ⟨W, ?_, ?_, a3⟩
  · unfold cf_X2_keepRow; rw [e1]; exact a1
  · unfold vc_X2_keepRow; rw [e1]; exact a2
end KR

/-! the class's acts are the spec's -/
theorem ab_comm (D : ab_D) {i k j n : Nat} (v w : Nat) (h : ¬ (i = j ∧ k = n)) : ab_up (ab_up D i k v) j n w = ab_up (ab_up D j n w) i k v := by
  funext a b
  by_cases h1 : a = j ∧ b = n
  · rw [h1.1, h1.2, ab_us, ab_un _ _ (fun q => h ⟨q.1.symm, q.2.symm⟩), ab_us]
  · rw [ab_un _ _ h1]
    by_cases h2 : a = i ∧ b = k
    · rw [h2.1, h2.2, ab_us, ab_us]
    · rw [ab_un _ _ h2, ab_un _ _ h2, ab_un _ _ h1]
theorem sp_g_up {D : ab_D} {i k v t : Nat} (h2 : i ≠ 2) (h3 : i ≠ 3) : sp_g (ab_up D i k v) t = ab_up (sp_g D t) i k v := by
  have hw : sp_w (ab_up D i k v) t = sp_w D t := by unfold sp_w; rw [ab_un _ _ (by omega)]
  unfold sp_g
  rw [hw]
  split
  · rw [ab_comm D (i := i) (k := k) (j := 2) (n := t - 1) _ _ (by omega), ab_comm (ab_up D 2 (t - 1) 1) (i := i) (k := k) (j := 3) (n := t - 1) _ _ (by omega)]
  · rfl
theorem cs_gV {o f r t : Nat} {D : ab_D} (hw : ab_W o f r) (h : ab_V o f r D) (ht : t ≤ o) : cf_X4_greyIfWhite (ab_s D) (nI t - 1) = ab_s (sp_g D t) := by
  obtain ⟨w1, w2, w3, w4, w5, w6⟩ := id hw
  exact cs_greyIfWhite (h.B hw) (by omega) (fun q => h.L0 (by omega) (by omega))
theorem cs_bits : ∀ b, b < 128 → ((nI b &&& 1 = 0) ↔ sp_bit b 0 = false) ∧ ((nI b &&& 2 = 0) ↔ sp_bit b 1 = false) ∧ ((nI b &&& 4 = 0) ↔ sp_bit b 2 = false) ∧ ((nI b &&& 8 = 0) ↔ sp_bit b 3 = false) ∧ ((nI b &&& 16 = 0) ↔ sp_bit b 4 = false) ∧ ((nI b &&& 32 = 0) ↔ sp_bit b 5 = false) ∧ ((nI b &&& 64 = 0) ↔ sp_bit b 6 = false) := by unfold sp_bit; decide +kernel
theorem cs_hb (wo wf wr wb wa x : Int32) (wl : Int64) (bt : Bool) (h : (wb &&& x = 0) ↔ bt = false) : (cf_X3_hasBarrier wo wf wr wb wa wl x = 0) ↔ bt = false := by
  unfold cf_X3_hasBarrier
  by_cases q : wb &&& x = 0
  · rw [if_pos q]; exact ⟨fun _ => h.mp q, fun _ => rfl⟩
  · rw [if_neg q]; exact ⟨fun z => absurd z (by decide +kernel), fun z => absurd (h.mpr z) q⟩
theorem sp_gb_f {D : ab_D} {b i t : Nat} (h : sp_bit b i = false) : sp_gb b i D t = D := by unfold sp_gb; rw [if_neg (by rw [h]; decide)]
theorem sp_gb_t {D : ab_D} {b i t : Nat} (h : ¬ sp_bit b i = false) : sp_gb b i D t = sp_g D t := by unfold sp_gb; rw [if_pos (by simpa using h)]
section BH
variable {o f r b : Nat} {wo wf wr wa : Int32} {wl : Int64} {D : ab_D}
theorem cs_rootGets (hw : ab_W o f r) (h : ab_V o f r D) (hb : b < 128) {a t : Nat} (ha : a < r) (ht : t ≤ o) : cf_X1_rootGets wo wf wr (nI b) wa wl (ab_s D) (nI a) (nI t - 1) = ab_s (sp_root b D a t) := by
  obtain ⟨w1, w2, w3, w4, w5, w6⟩ := id hw
  have h64 := cs_hb wo wf wr (nI b) wa 64 wl _ (cs_bits b hb).2.2.2.2.2.2
  have h16 := cs_hb wo wf wr (nI b) wa 16 wl _ (cs_bits b hb).2.2.2.2.1
  have e1 : cf_X1_rootGets wo wf wr (nI b) wa wl (ab_s D) (nI a) (nI t - 1) = cf_X1_rootGets_s27 wo wf wr (nI b) wa wl (nI a) (nI t - 1) (ab_s (sp_gb b 6 D (D 1 a))) := by
    unfold cf_X1_rootGets
    by_cases q : sp_bit b 6 = false
    · rw [if_pos (h64.mpr q), sp_gb_f q]
    · rw [if_neg (fun z => q (h64.mp z)), sp_gb_t q, cs_inRoot (h.B hw) (by omega), cs_gV hw h (h.R (by omega))]
  have h1 := sp_gb_V (b := b) (i := 6) hw h (h.R (k := a) (by omega))
  have e2 : cf_X1_rootGets_s27 wo wf wr (nI b) wa wl (nI a) (nI t - 1) (ab_s (sp_gb b 6 D (D 1 a))) = cf_X1_rootGets_s48 wo wf wr (nI b) wa wl (nI a) (nI t - 1) (ab_s (sp_gb b 4 (sp_gb b 6 D (D 1 a)) t)) := by
    unfold cf_X1_rootGets_s27
    by_cases q : sp_bit b 4 = false
    · rw [if_pos (h16.mpr q), sp_gb_f (i := 4) q]
    · rw [if_neg (fun z => q (h16.mp z)), sp_gb_t (i := 4) q, cs_gV hw h1 ht]
  have h2 := sp_gb_V (b := b) (i := 4) hw h1 ht
  rw [e1, e2]
  unfold cf_X1_rootGets_s48 sp_root
  exact cs_withRoot (h2.B hw) (by omega) (by omega)
theorem cs_m1' {t : Nat} (ht : t ≤ 4) : nI t - 1 = (-1 : Int32) ↔ t = 0 := by
  have := cs_t1 t (by omega)
  exact ⟨fun q => Classical.byContradiction fun z => (this.2 z).2 q, this.1⟩
theorem nl_le {a c : Nat} (ha : a < 200) (hc : c < 200) : nI a ≤ nI c ↔ a ≤ c := nI_leI (by omega) (by omega)
theorem nl_lt {a c : Nat} (ha : a < 200) (hc : c < 200) : nI a < nI c ↔ a < c := nI_ltI (by omega) (by omega)
theorem nl_eq {a c : Nat} (ha : a < 200) (hc : c < 200) : nI a = nI c ↔ a = c := nI_eq (by omega) (by omega)
theorem cs_copy (hw : ab_W o f r) (h : ab_V o f r D) (hb : b < 128) {a c : Nat} (ha : a < 3) (hc : c < 3) : cf_X1_copy wo wf (nI r) (nI b) wa wl (ab_s D) (nI a) (nI c) = if a < r ∧ c < r ∧ a ≠ c then ab_s (sp_root b D a (D 1 c)) else -1 := by
  obtain ⟨w1, w2, w3, w4, w5, w6⟩ := id hw
  unfold cf_X1_copy cf_X1_copy_s29
  simp only [nl_eq (show a < 200 by omega) (show c < 200 by omega), nl_le (show r < 200 by omega) (show a < 200 by omega), nl_lt (show c < 200 by omega) (show r < 200 by omega)]
  by_cases q1 : a = c
  · rw [if_pos q1, if_neg (by omega)]
  rw [if_neg q1]
  by_cases q2 : r ≤ a
  · rw [if_pos q2, if_neg (by omega)]
  rw [if_neg q2]
  by_cases q3 : c < r
  · rw [if_pos q3, if_pos (by omega), cs_inRoot (h.B hw) hc, cs_rootGets hw h hb (by omega) (h.R hc)]
  · rw [if_neg q3, if_neg (by omega)]
theorem cs_clear (hw : ab_W o f r) (h : ab_V o f r D) (hb : b < 128) {a : Nat} (ha : a < 3) : cf_X1_clear wo wf (nI r) (nI b) wa wl (ab_s D) (nI a) = if a < r then ab_s (sp_root b D a 0) else -1 := by
  obtain ⟨w1, w2, w3, w4, w5, w6⟩ := id hw
  unfold cf_X1_clear
  simp only [nl_lt (show a < 200 by omega) (show r < 200 by omega)]
  by_cases q : a < r
  · rw [if_pos q, if_pos q]
    exact cs_rootGets (t := 0) hw h hb q (Nat.zero_le _)
  · rw [if_neg q, if_neg q]
theorem cs_load (hw : ab_W o f r) (h : ab_V o f r D) (hb : b < 128) {a c k : Nat} (ha : a < 3) (hc : c < 3) (hk : k < 2) : cf_X1_load wo (nI f) (nI r) (nI b) wa wl (ab_s D) (nI a) (nI c) (nI k) = if a < r ∧ c < r ∧ k < f ∧ D 1 c ≠ 0 then ab_s (sp_root b D a (D 0 (2 * (D 1 c - 1) + k))) else -1 := by
  obtain ⟨w1, w2, w3, w4, w5, w6⟩ := id hw
  have hR := h.R (k := c) hc
  unfold cf_X1_load cf_X1_load_s35
  simp only [nl_le (show r < 200 by omega) (show a < 200 by omega), nl_le (show r < 200 by omega) (show c < 200 by omega), nl_lt (show k < 200 by omega) (show f < 200 by omega), cs_inRoot (h.B hw) hc, cs_m1' (show D 1 c ≤ 4 by omega)]
  by_cases q1 : r ≤ a
  · rw [if_pos q1, if_neg (by omega)]
  rw [if_neg q1]
  by_cases q2 : r ≤ c
  · rw [if_pos q2, if_neg (by omega)]
  rw [if_neg q2]
  by_cases q3 : k < f
  · rw [if_pos q3]
    by_cases q4 : D 1 c = 0
    · rw [if_pos q4, if_neg (by omega)]
    · rw [if_neg q4, if_pos (show a < r ∧ c < r ∧ k < f ∧ D 1 c ≠ 0 from ⟨by omega, by omega, q3, q4⟩), ((cs_t1 (D 1 c) (by omega)).2 q4).1, cs_inField (h.B hw) (by omega) hk, cs_rootGets hw h hb (by omega) (h.F (by omega))]
  · rw [if_neg q3, if_neg (by omega)]
theorem cs_store (hw : ab_W o f r) (h : ab_V o f r D) (hb : b < 128) {a c k : Nat} (ha : a < 3) (hc : c < 3) (hk : k < 2) : cf_X1_store wo (nI f) (nI r) (nI b) wa wl (ab_s D) (nI a) (nI c) (nI k) = if a < r ∧ c < r ∧ k < f ∧ D 1 a ≠ 0 then ab_s (sp_store b D a c k) else -1 := by
  obtain ⟨w1, w2, w3, w4, w5, w6⟩ := id hw
  have hR := h.R (k := a) ha
  have hT := h.R (k := c) hc
  unfold cf_X1_store cf_X1_store_s35
  simp only [nl_le (show r < 200 by omega) (show a < 200 by omega), nl_le (show r < 200 by omega) (show c < 200 by omega), nl_lt (show k < 200 by omega) (show f < 200 by omega), cs_inRoot (h.B hw) ha, cs_inRoot (h.B hw) hc, cs_m1' (show D 1 a ≤ 4 by omega)]
  by_cases q1 : r ≤ a
  · rw [if_pos q1, if_neg (by omega)]
  rw [if_neg q1]
  by_cases q2 : r ≤ c
  · rw [if_pos q2, if_neg (by omega)]
  rw [if_neg q2]
  by_cases q3 : k < f
  · rw [if_pos q3]
    by_cases q4 : D 1 a = 0
    · rw [if_pos q4, if_neg (by omega)]
    · have hcnd : a < r ∧ c < r ∧ k < f ∧ D 1 a ≠ 0 := ⟨by omega, by omega, q3, q4⟩
      rw [if_neg q4, if_pos hcnd]
      have ex := ((cs_t1 (D 1 a) (by omega)).2 q4).1
      obtain ⟨B0, B1, B2, B3, -⟩ := cs_bits b hb
      have g1 := cs_hb wo (nI f) (nI r) (nI b) wa 1 wl _ B0
      have g2 := cs_hb wo (nI f) (nI r) (nI b) wa 2 wl _ B1
      have g4 := cs_hb wo (nI f) (nI r) (nI b) wa 4 wl _ B2
      have g8 := cs_hb wo (nI f) (nI r) (nI b) wa 8 wl _ B3
      have hx : D 1 a - 1 < o := by omega
      rw [ex, cs_inField (h.B hw) (by omega) hk]
      have e1 : (if cf_X3_hasBarrier wo (nI f) (nI r) (nI b) wa wl 1 = 0 then cf_X1_store_s93 wo (nI f) (nI r) (nI b) wa wl (nI k) (nI (D 1 a - 1)) (nI (D 1 c) - 1) (ab_s D) else cf_X1_store_s93 wo (nI f) (nI r) (nI b) wa wl (nI k) (nI (D 1 a - 1)) (nI (D 1 c) - 1) (cf_X4_greyIfWhite (ab_s D) (nI (D 0 (2 * (D 1 a - 1) + k)) - 1))) = cf_X1_store_s93 wo (nI f) (nI r) (nI b) wa wl (nI k) (nI (D 1 a - 1)) (nI (D 1 c) - 1) (ab_s (sp_gb b 0 D (D 0 (2 * (D 1 a - 1) + k)))) := by
        by_cases q : sp_bit b 0 = false
        · rw [if_pos (g1.mpr q), sp_gb_f q]
        · rw [if_neg (fun z => q (g1.mp z)), sp_gb_t q, cs_gV hw h (h.F (by omega))]
      rw [e1]
      have h1 := sp_gb_V (b := b) (i := 0) hw h (h.F (k := 2 * (D 1 a - 1) + k) (by omega))
      have e2 : cf_X1_store_s93 wo (nI f) (nI r) (nI b) wa wl (nI k) (nI (D 1 a - 1)) (nI (D 1 c) - 1) (ab_s (sp_gb b 0 D (D 0 (2 * (D 1 a - 1) + k)))) = cf_X1_store_s113 wo (nI f) (nI r) (nI b) wa wl (nI k) (nI (D 1 a - 1)) (nI (D 1 c) - 1) (ab_s (sp_s1 b D (D 1 a - 1) (D 1 c) k)) := by
        unfold cf_X1_store_s93 sp_s1
        by_cases q : sp_bit b 1 = false
        · rw [if_pos (g2.mpr q), sp_gb_f (i := 1) q]
        · rw [if_neg (fun z => q (g2.mp z)), sp_gb_t (i := 1) q, cs_gV hw h1 hT]
      rw [e2]
      have h2 := sp_s1_V (b := b) (t := D 1 c) hw h hx q3 hT
      have e3 : cf_X1_store_s113 wo (nI f) (nI r) (nI b) wa wl (nI k) (nI (D 1 a - 1)) (nI (D 1 c) - 1) (ab_s (sp_s1 b D (D 1 a - 1) (D 1 c) k)) = cf_X1_store_s143 wo (nI f) (nI r) (nI b) wa wl (nI k) (nI (D 1 a - 1)) (nI (D 1 c) - 1) (ab_s (sp_s2 b D (D 1 a - 1) (D 1 c) k)) := by
        unfold cf_X1_store_s113 sp_s2
        rw [cs_isBlack (h2.B hw) (by omega)]
        by_cases q : sp_bit b 2 = false
        · rw [if_pos (g4.mpr q), if_neg (fun z => by rw [q] at z; exact absurd z.1 (by decide))]
        · rw [if_neg (fun z => q (g4.mp z))]
          by_cases z : sp_s1 b D (D 1 a - 1) (D 1 c) k 2 (D 1 a - 1) = 2
          · rw [if_pos z, if_neg (by decide), if_pos ⟨by simpa using q, z⟩, cs_gV hw h2 hT]
          · rw [if_neg z, if_pos rfl, if_neg (fun y => z y.2)]
      rw [e3]
      have h3 := sp_s2_V (b := b) (t := D 1 c) hw h hx q3 hT
      have e4 : cf_X1_store_s143 wo (nI f) (nI r) (nI b) wa wl (nI k) (nI (D 1 a - 1)) (nI (D 1 c) - 1) (ab_s (sp_s2 b D (D 1 a - 1) (D 1 c) k)) = cf_X1_store_s184 wo (nI f) (nI r) (nI b) wa wl (nI k) (nI (D 1 a - 1)) (nI (D 1 c) - 1) (ab_s (sp_s3 b D (D 1 a - 1) (D 1 c) k)) := by
        unfold cf_X1_store_s143 sp_s3
        rw [cs_isBlack (h3.B hw) (by omega), cs_isWhite (h3.B hw) (by omega) (fun q => h3.L0 (by omega) (by omega))]
        by_cases q : sp_bit b 3 = false
        · rw [if_pos (g8.mpr q), if_neg (fun z => by rw [q] at z; exact absurd z.1 (by decide))]
        · rw [if_neg (fun z => q (g8.mp z))]
          by_cases z : sp_s2 b D (D 1 a - 1) (D 1 c) k 2 (D 1 a - 1) = 2
          · rw [if_pos z, if_neg (by decide)]
            by_cases y : sp_w (sp_s2 b D (D 1 a - 1) (D 1 c) k) (D 1 c) = true
            · rw [if_pos y, if_neg (by decide), if_pos ⟨by simpa using q, z, y⟩, cs_greyAgain (h3.B hw) (by omega) z (h3.L0 (by omega) (by omega))]
            · rw [if_neg y, if_pos rfl, if_neg (fun x => y x.2.2)]
          · rw [if_neg z, if_pos rfl, if_neg (fun y => z y.2.1)]
      rw [e4]
      have h4 := sp_s3_V (b := b) (t := D 1 c) hw h hx q3 hT
      unfold cf_X1_store_s184 sp_store
      exact cs_withField (h4.B hw) (by omega) hk (by omega)
  · rw [if_neg q3, if_neg (by omega)]
end BH

/-! the class's search, act by act -/
def cr_R (σ : bf_S) (t_S : Nat → Int64) (t_O t_H : Nat → Int32) : Prop := (∀ i, i < bf_n σ → t_S i = ab_s (bf_X σ i)) ∧ (∀ i, 0 < i → i < bf_n σ → t_O i = nI (bf_o σ i * 64 + bf_b σ i)) ∧ ∃ sl : Nat → Nat, (∀ t, t < 32768 → t_H t = nI (sl t)) ∧ ht_ok 32768 ch_h sl (fun i => ab_s (bf_X σ i)) (bf_n σ)
/-- what it answers, and which ROW it leaves -/
def cr_o (g0 : Int32) (σ : bf_S) (W W' : Nat → Int32) (K K' res : Int32) : Prop :=
  (bf_c σ = 0 → res = g0 ∧ W' = W ∧ K' = K) ∧ (bf_c σ = 1 → res = nI (bf_R σ (bf_n σ - 1)).length ∧ K' = res ∧ ∀ k, k < (bf_R σ (bf_n σ - 1)).length → W' k = nI ((bf_R σ (bf_n σ - 1)).getD k 0)) ∧ (bf_c σ = 2 → res = -2 ∧ W' = W ∧ K' = K)
section GO
variable {o f r b fu w : Nat} {wo wa : Int32} {wl : Int64} {t_W : Nat → Int32} {sk : Int32}
theorem bf_mem_s {σ : bf_S} {D : ab_D} (hw : ab_W o f r) (hI : bf_I o f r σ) (hD : ab_V o f r D) : bf_mem (bf_n σ) (bf_X σ) D = true ↔ ∃ i, i < bf_n σ ∧ ab_s (bf_X σ i) = ab_s D := by
  rw [bf_mem_iff]
  constructor
  · rintro ⟨i, h1, h2⟩; exact ⟨i, h1, (ab_s_inj ((hI.2.2.2.1 i h1).B hw) (hD.B hw)).mpr h2⟩
  · rintro ⟨i, h1, h2⟩; exact ⟨i, h1, (ab_s_inj ((hI.2.2.2.1 i h1).B hw) (hD.B hw)).mp h2⟩
theorem cr_add {σ : bf_S} {t_S : Nat → Int64} {t_O t_H : Nat → Int32} {sl : Nat → Nat} {br : ab_D → Bool} {D : ab_D} {s k d : Nat} (hI : bf_I o f r σ) (h1 : ∀ i, i < bf_n σ → t_S i = ab_s (bf_X σ i)) (h2 : ∀ i, 0 < i → i < bf_n σ → t_O i = nI (bf_o σ i * 64 + bf_b σ i)) (hH : ∀ t, t < 32768 → t_H t = nI (sl t)) (hT : ht_ok 32768 ch_h sl (fun i => ab_s (bf_X σ i)) (bf_n σ))
    (hd : d < 32768) (hb : ∀ e, e < d → ¬ ht_stop 32768 ch_h sl (fun i => ab_s (bf_X σ i)) (ab_s D) e) (h0 : sl ((ch_h (ab_s D) + d) % 32768) = 0) (hm : bf_mem (bf_n σ) (bf_X σ) D = false) (hn : bf_n σ < 20000) :
    bf_n (bf_add br σ s k D) = bf_n σ + 1 ∧ bf_c (bf_add br σ s k D) = (if br D = true then 1 else 0) ∧ cr_R (bf_add br σ s k D) (vp_updL t_S (nI (bf_n σ)).toNatClampNeg (ab_s D)) (upd t_O (nI (bf_n σ)).toNatClampNeg ((nI s * (64 : Int32)) + nI k)) (upd t_H (nI ((ch_h (ab_s D) + d) % 32768)).toNatClampNeg (nI (bf_n σ) + (1 : Int32))) := by
  have hlt : (ch_h (ab_s D) + d) % 32768 < 32768 := Nat.mod_lt _ (by omega)
  have ea : bf_add br σ s k D = (bf_n σ + 1, va_up (bf_X σ) (bf_n σ) D, va_up (bf_o σ) (bf_n σ) s, va_up (bf_b σ) (bf_n σ) k, if br D = true then 1 else 0) := by
    unfold bf_add; rw [hm, if_neg (by decide), if_neg (by omega)]
  rw [ea]
  refine ⟨rfl, rfl, fun i hi => ?_, fun i hi0 hi => ?_, va_up sl ((ch_h (ab_s D) + d) % 32768) (bf_n σ + 1), fun t ht => ?_, ?_⟩
  · have hi' : i < bf_n σ + 1 := hi
    show vp_updL t_S (nI (bf_n σ)).toNatClampNeg (ab_s D) i = ab_s (va_up (bf_X σ) (bf_n σ) D i)
    rw [nI_clamp (by omega)]
    by_cases q : i = bf_n σ
    · rw [q, pk_uLs, va_up_self]
    · rw [pk_uLn q, va_up_ne _ _ q]; exact h1 i (by omega)
  · have hi' : i < bf_n σ + 1 := hi
    show upd t_O (nI (bf_n σ)).toNatClampNeg _ i = nI (va_up (bf_o σ) (bf_n σ) s i * 64 + va_up (bf_b σ) (bf_n σ) k i)
    rw [nI_clamp (by omega)]
    by_cases q : i = bf_n σ
    · rw [q, pk_us, va_up_self, va_up_self, show (64 : Int32) = nI 64 from rfl, pk_mul, nI_add]
    · rw [pk_un q, va_up_ne _ _ q, va_up_ne _ _ q]; exact h2 i hi0 (by omega)
  · rw [nI_clamp (by omega), nI_1]
    by_cases q : t = (ch_h (ab_s D) + d) % 32768
    · rw [q, pk_us, va_up_self]
    · rw [pk_un q, va_up_ne _ _ q]; exact hH t ht
  · exact ht_add hT hd hb h0 (fun i hi => by show ab_s (va_up (bf_X σ) (bf_n σ) D i) = ab_s (bf_X σ i); rw [va_up_ne _ _ (by omega)]) (by show ab_s (va_up (bf_X σ) (bf_n σ) D (bf_n σ)) = ab_s D; rw [va_up_self])
theorem kp_1 {t_S : Nat → Int64} {t_O t_H : Nat → Int32} {n : Int32} {x : Int64} {a1 a2 a3 : Int32} (h : n < (20000 : Int32)) : cf_X2_keep t_S t_O t_H n x a1 a2 a3 = (vp_updL t_S n.toNatClampNeg x, upd t_O n.toNatClampNeg ((a2 * (64 : Int32)) + a3), upd t_H a1.toNatClampNeg (n + (1 : Int32)), n + (1 : Int32), (1 : Int32)) := if_pos h
theorem kp_0 {t_S : Nat → Int64} {t_O t_H : Nat → Int32} {n : Int32} {x : Int64} {a1 a2 a3 : Int32} (h : ¬ n < (20000 : Int32)) : cf_X2_keep t_S t_O t_H n x a1 a2 a3 = (t_S, t_O, t_H, n, (0 : Int32)) := if_neg h
theorem kp_n : ¬ (1 : Int32) = 0 := by decide +kernel
theorem kp_z : (0 : Int32) < (20000 : Int32) := by decide +kernel
theorem go_L {σ0 : bf_S} {s last : Nat} (hw : ab_W o f r) (hb : b < 128) (hw4 : w < 4) (hfu : 40000 < fu) (hI : bf_I o f r σ0) (hJ : bf_J f r σ0) (hs : s < bf_n σ0) (hl : last < 50) : ∀ (j k m : Nat) (t_S : Nat → Int64) (t_O t_H : Nat → Int32), k + j = last + 1 → j < m → bf_c (bf_in f r b (fun D => sp_br D w) σ0 s k) = 0 → cr_R (bf_in f r b (fun D => sp_br D w) σ0 s k) t_S t_O t_H →
    ∃ S' O' H' W' K' res, cf_X2_goOnFrom_L20 fu m wo (nI f) (nI r) (nI b) wa wl t_S t_O t_H (nI (bf_n (bf_in f r b (fun D => sp_br D w) σ0 s k))) t_W sk (nI s) (nI w) (ab_s (bf_X σ0 s)) (nI last) (nI k) = (S', O', H', nI (bf_n (bf_in f r b (fun D => sp_br D w) σ0 s (last + 1))), W', K', res) ∧
      vc_X2_goOnFrom_L20 fu m wo (nI f) (nI r) (nI b) wa wl t_S t_O t_H (nI (bf_n (bf_in f r b (fun D => sp_br D w) σ0 s k))) t_W sk (nI s) (nI w) (ab_s (bf_X σ0 s)) (nI last) (nI k) ∧ cr_R (bf_in f r b (fun D => sp_br D w) σ0 s (last + 1)) S' O' H' ∧ cr_o (-3) (bf_in f r b (fun D => sp_br D w) σ0 s (last + 1)) t_W W' sk K' res
  | _, _, 0, _, _, _, _, hm, _, _ => absurd hm (Nat.not_lt_zero _)
  | 0, k, m + 1, t_S, t_O, t_H, hk, _, hc, hR => by
    have y : nI last < nI k := nI_lt (by omega) (by omega)
    have ek : k = last + 1 := by omega
    subst ek
    refine ⟨t_S, t_O, t_H, t_W, sk, -3, ?_, ⟨fun _ => trivial, fun q => absurd y q⟩, hR, fun _ => ⟨rfl, rfl, rfl⟩, fun q => absurd (q.symm.trans hc) (by decide), fun q => absurd (q.symm.trans hc) (by decide)⟩
    show (if nI last < nI (last + 1) then _ else _) = _
    rw [if_pos y]
  | j + 1, k, m + 1, t_S, t_O, t_H, hk, hm, hc, hR => by
    have y : ¬ nI last < nI k := nI_nlt (by omega) (by omega)
    obtain ⟨hIk, hnk⟩ := hI.in (b := b) (br := fun D => sp_br D w) hw hs k (by omega)
    have hJk := bf_J.in (b := b) (br := fun D => sp_br D w) hw hI hJ hs k (by omega)
    have hXs : bf_X (bf_in f r b (fun D => sp_br D w) σ0 s k) s = bf_X σ0 s := bf_inX hs k
    have hVs := hI.2.2.2.1 s hs
    have ih := fun t_S t_O t_H => go_L hw hb hw4 hfu hI hJ hs hl j (k + 1) m t_S t_O t_H (by omega) (by omega)
    have hend : bf_c (bf_in f r b (fun D => sp_br D w) σ0 s (k + 1)) ≠ 0 → bf_in f r b (fun D => sp_br D w) σ0 s (last + 1) = bf_in f r b (fun D => sp_br D w) σ0 s (k + 1) := fun h => by
      have := bf_in_end h j
      rwa [show k + 1 + j = last + 1 by omega] at this
    have est : bf_in f r b (fun D => sp_br D w) σ0 s (k + 1) = bf_vis f r b (fun D => sp_br D w) (bf_in f r b (fun D => sp_br D w) σ0 s k) s k := rfl
    generalize hσ : bf_in f r b (fun D => sp_br D w) σ0 s k = σ at *
    have e := cs_behind (wo := wo) (wa := wa) (wl := wl) hw hVs hb (show k < 50 by omega)
    by_cases c : sp_can f r (bf_X σ0 s) k = true
    · rw [if_pos c] at e
      have hVD := sp_act_V (b := b) hw hVs (show k < 50 by omega) c
      have hvis : bf_vis f r b (fun D => sp_br D w) σ s k = bf_add (fun D => sp_br D w) σ s k (sp_act f r b (bf_X σ0 s) k) := by
        unfold bf_vis; rw [if_pos hc, hXs, if_pos c]
      rw [hvis] at est
      generalize hD : sp_act f r b (bf_X σ0 s) k = D at *
      have y2 : ¬ lg_cmp (cf_X1_behind wo (nI f) (nI r) (nI b) wa wl (ab_s (bf_X σ0 s)) (nI k)) (-1 : Int64) = 0 := by
        rw [e, lg_cmp_eq]; exact ab_s_m1 (hVD.B hw)
      obtain ⟨h1, h2, sl, hH, hT⟩ := id hR
      obtain ⟨d, a1, a2, a3, a4, a5⟩ := cl_slot (fu := fu) h1 hH hT hIk.2.1 (by omega) (ab_s D)
      have hlt : (ch_h (ab_s D) + d) % 32768 < 32768 := Nat.mod_lt _ (by omega)
      have hn2 := hIk.2.1
      have eH : t_H (nI ((ch_h (ab_s D) + d) % 32768)).toNatClampNeg = nI (sl ((ch_h (ab_s D) + d) % 32768)) := by rw [nI_clamp (by omega)]; exact hH _ hlt
      have hle := hT.1 _ hlt
      have hin : vp_in (nI ((ch_h (ab_s D) + d) % 32768)) 32768 := vp_in_nI hlt (by omega)
      by_cases z : sl ((ch_h (ab_s D) + d) % 32768) = 0
      · have y3 : t_H (nI ((ch_h (ab_s D) + d) % 32768)).toNatClampNeg = 0 := by rw [eH, z]; rfl
        have hmem : bf_mem (bf_n σ) (bf_X σ) D = false := by
          rw [Bool.eq_false_iff]
          intro q
          obtain ⟨i, q1, q2⟩ := (bf_mem_s hw hIk hVD).mp q
          exact ht_miss hT a3 z i q1 q2
        by_cases hn : bf_n σ < 20000
        · have y4 : nI (bf_n σ) < (20000 : Int32) := (nI_ltI (a := bf_n σ) (b := 20000) (by omega) (by omega)).mpr hn
          obtain ⟨b1, b2, b3⟩ := cr_add (br := fun D => sp_br D w) (s := s) (k := k) hIk h1 h2 hH hT a1 a3 z hmem hn
          have hI1 := hIk.add (br := fun D => sp_br D w) (s := s) (k := k) hVD (by omega) (by omega)
          have hJ1 := bf_J.add (br := fun D => sp_br D w) (k := k) hIk hJk (D := D) (by rw [← hD]; exact (hJ.1 s hs).act hw hVs (by omega) c) (show s < bf_n σ by omega) (by rw [← hD, hXs]; exact rk_act hw hVs (by omega) c)
          rw [← est] at b1 b2 b3 hI1 hJ1
          have kv : vc_X2_keep t_S t_O t_H (nI (bf_n σ)) (ab_s D) (nI ((ch_h (ab_s D) + d) % 32768)) (nI s) (nI k) := ⟨fun _ => ⟨vp_in_nI hn (by omega), vp_in_nI hn (by omega), hin, trivial⟩, fun _ => trivial⟩
          have en : nI (bf_n σ) + (1 : Int32) = nI (bf_n (bf_in f r b (fun D => sp_br D w) σ0 s (k + 1))) := by rw [nI_1, b1]
          have ebr := cs_isBroken (hVD.B hw) hw4
          by_cases q : sp_br D w = true
          · rw [if_pos q] at ebr b2
            have y5 : ¬ cf_X0_isBroken (ab_s D) (nI w) = 0 := by rw [ebr]; decide +kernel
            have he := hend (by rw [b2]; decide)
            obtain ⟨W, r1, r2, r3⟩ := kr_all (fu := fu) (t_W := t_W) (sk := sk) hw hI1 hJ1 b3.2.1 (by omega)
            rw [he]
            refine ⟨_, _, _, W, _, _, ?_, ⟨fun q => absurd q y, fun _ => ⟨fun q => absurd q y2, fun _ => ?_⟩⟩, b3, fun q => absurd (q.symm.trans b2) (by decide), fun _ => ⟨rfl, rfl, r3⟩, fun q => absurd (q.symm.trans b2) (by decide)⟩
            · show (if nI last < nI k then _ else if lg_cmp _ _ = 0 then _ else if t_H _ = 0 then _ else _) = _
              rw [if_neg y, if_neg y2, e, a4, if_pos y3, kp_1 y4]
              dsimp only
              unfold cf_X2_goOnFrom_i20_s83 cf_X2_goOnFrom_i20_s102
              show (if (1 : Int32) = 0 then _ else if cf_X0_isBroken _ _ = 0 then _ else _) = _
              rw [if_neg kp_n, if_neg y5, en, r1]
            · rw [e, a4]
              refine ⟨a5, hin, fun _ => ⟨kv, ?_⟩, fun q => absurd y3 q⟩
              rw [kp_1 y4, en]
              exact ⟨fun q => absurd q kp_n, fun _ => ⟨fun q => absurd q y5, fun _ => ⟨r2, trivial⟩⟩⟩
          · rw [if_neg q] at ebr b2
            have y5 : cf_X0_isBroken (ab_s D) (nI w) = 0 := ebr
            obtain ⟨S', O', H', W', K', res, i1, i2, i3, i4⟩ := ih _ _ _ b2 b3
            rw [← nI_1 k, ← en] at i1 i2
            refine ⟨S', O', H', W', K', res, ?_, ⟨fun q => absurd q y, fun _ => ⟨fun q => absurd q y2, fun _ => ?_⟩⟩, i3, i4⟩
            · show (if nI last < nI k then _ else if lg_cmp _ _ = 0 then _ else if t_H _ = 0 then _ else _) = _
              rw [if_neg y, if_neg y2, e, a4, if_pos y3, kp_1 y4]
              dsimp only
              unfold cf_X2_goOnFrom_i20_s83 cf_X2_goOnFrom_i20_s107
              show (if (1 : Int32) = 0 then _ else if cf_X0_isBroken _ _ = 0 then _ else _) = _
              rw [if_neg kp_n, if_pos y5]; exact i1
            · rw [e, a4]
              refine ⟨a5, hin, fun _ => ⟨kv, ?_⟩, fun q => absurd y3 q⟩
              rw [kp_1 y4]
              exact ⟨fun q => absurd q kp_n, fun _ => ⟨fun _ => i2, fun q => absurd y5 q⟩⟩
        · have hn0 : bf_n σ = 20000 := by omega
          have y4 : ¬ nI (bf_n σ) < (20000 : Int32) := fun q => hn ((nI_ltI (a := bf_n σ) (b := 20000) (by omega) (by omega)).mp q)
          have ea : bf_in f r b (fun D => sp_br D w) σ0 s (k + 1) = (bf_n σ, bf_X σ, bf_o σ, bf_b σ, 2) := by
            rw [est]; unfold bf_add; rw [hmem, if_neg (by decide), if_pos hn0]
          have he := hend (by rw [ea]; show (2 : Nat) ≠ 0; decide)
          rw [he, ea]
          refine ⟨t_S, t_O, t_H, t_W, sk, -2, ?_, ⟨fun q => absurd q y, fun _ => ⟨fun q => absurd q y2, fun _ => ?_⟩⟩, hR, fun q => absurd (show (2 : Nat) = 0 from q) (by decide), fun q => absurd (show (2 : Nat) = 1 from q) (by decide), fun _ => ⟨rfl, rfl, rfl⟩⟩
          · show (if nI last < nI k then _ else if lg_cmp _ _ = 0 then _ else if t_H _ = 0 then _ else _) = _
            rw [if_neg y, if_neg y2, e, a4, if_pos y3, kp_0 y4]
            dsimp only
            unfold cf_X2_goOnFrom_i20_s83
            exact if_pos rfl
          · rw [e, a4]
            refine ⟨a5, hin, fun _ => ⟨⟨fun q => absurd q y4, fun _ => trivial⟩, ?_⟩, fun q => absurd y3 q⟩
            rw [kp_0 y4]
            exact ⟨fun _ => trivial, fun q => absurd rfl q⟩
      · have y3 : ¬ t_H (nI ((ch_h (ab_s D) + d) % 32768)).toNatClampNeg = 0 := by rw [eH]; exact nI_ne0 (by omega) (by omega)
        have hmem : bf_mem (bf_n σ) (bf_X σ) D = true := (bf_mem_s hw hIk hVD).mpr (ht_hit hT (by omega) a2 z)
        have ea : bf_in f r b (fun D => sp_br D w) σ0 s (k + 1) = σ := by rw [est]; unfold bf_add; rw [if_pos hmem]
        rw [ea] at ih
        obtain ⟨S', O', H', W', K', res, i1, i2, i3, i4⟩ := ih t_S t_O t_H hc hR
        rw [← nI_1 k] at i1 i2
        refine ⟨S', O', H', W', K', res, ?_, ⟨fun q => absurd q y, fun _ => ⟨fun q => absurd q y2, fun _ => ?_⟩⟩, i3, i4⟩
        · show (if nI last < nI k then _ else if lg_cmp _ _ = 0 then _ else if t_H _ = 0 then _ else _) = _
          rw [if_neg y, if_neg y2, e, a4, if_neg y3]
          exact i1
        · rw [e, a4]
          exact ⟨a5, hin, fun q => absurd q y3, fun _ => i2⟩
    · rw [if_neg c] at e
      have y2 : lg_cmp (cf_X1_behind wo (nI f) (nI r) (nI b) wa wl (ab_s (bf_X σ0 s)) (nI k)) (-1 : Int64) = 0 := by rw [e, lg_cmp_eq]
      have ea : bf_in f r b (fun D => sp_br D w) σ0 s (k + 1) = σ := by rw [est]; unfold bf_vis; rw [if_pos hc, hXs, if_neg c]
      rw [ea] at ih
      obtain ⟨S', O', H', W', K', res, i1, i2, i3, i4⟩ := ih t_S t_O t_H hc hR
      rw [← nI_1 k] at i1 i2
      refine ⟨S', O', H', W', K', res, ?_, ⟨fun q => absurd q y, fun _ => ⟨fun _ => i2, fun q => absurd y2 q⟩⟩, i3, i4⟩
      show (if nI last < nI k then _ else if lg_cmp _ _ = 0 then _ else _) = _
      rw [if_neg y, if_pos y2]
      exact i1
theorem go_all {σ : bf_S} {s : Nat} {t_S : Nat → Int64} {t_O t_H : Nat → Int32} (hw : ab_W o f r) (hb : b < 128) (hw4 : w < 4) (hfu : 40000 < fu) (hI : bf_I o f r σ) (hJ : bf_J f r σ) (hs : s < bf_n σ) (hc : bf_c σ = 0) (hR : cr_R σ t_S t_O t_H) :
    ∃ S' O' H' W' K' res, cf_X2_goOnFrom fu wo (nI f) (nI r) (nI b) wa wl t_S t_O t_H (nI (bf_n σ)) t_W sk (nI s) (nI w) = (S', O', H', nI (bf_n (bf_in f r b (fun D => sp_br D w) σ s 50)), W', K', res) ∧
      vc_X2_goOnFrom fu wo (nI f) (nI r) (nI b) wa wl t_S t_O t_H (nI (bf_n σ)) t_W sk (nI s) (nI w) ∧ cr_R (bf_in f r b (fun D => sp_br D w) σ s 50) S' O' H' ∧ cr_o (-3) (bf_in f r b (fun D => sp_br D w) σ s 50) t_W W' sk K' res := by
  have hn := hI.2.1
  have hB := (hI.2.2.2.1 s hs).B hw
  have e : t_S (nI s).toNatClampNeg = ab_s (bf_X σ s) := by rw [nI_clamp (by omega)]; exact hR.1 s hs
  have hl := sp_last_lt (D := bf_X σ s)
  rw [bf_in_last hs]
  have q := go_L (fu := fu) (wo := wo) (wa := wa) (wl := wl) (t_W := t_W) (sk := sk) hw hb hw4 hfu hI hJ hs hl (sp_last (bf_X σ s) + 1) 0 fu t_S t_O t_H (by omega) (by omega) hc hR
  obtain ⟨S', O', H', W', K', res, i1, i2, i3, i4⟩ := q
  refine ⟨S', O', H', W', K', res, ?_, ⟨vp_in_nI (by omega) (by omega), ?_⟩, i3, i4⟩
  · unfold cf_X2_goOnFrom; rw [e, cs_last hB]; exact i1
  · rw [e, cs_last hB]; exact i2
theorem sr_L {σ0 : bf_S} (hw : ab_W o f r) (hb : b < 128) (hw4 : w < 4) (hfu : 40000 < fu) (hI : bf_I o f r σ0) (hJ : bf_J f r σ0) : ∀ (j s m : Nat) (t_S : Nat → Int64) (t_O t_H : Nat → Int32), s + j = 20000 → j < m → bf_c (bf_out f r b (fun D => sp_br D w) σ0 s) = 0 → cr_R (bf_out f r b (fun D => sp_br D w) σ0 s) t_S t_O t_H →
    ∃ S' O' H' W' K' res, cf_X2_shortestRow_L34 fu m wo (nI f) (nI r) (nI b) wa wl t_S t_O t_H (nI (bf_n (bf_out f r b (fun D => sp_br D w) σ0 s))) t_W sk (nI w) (nI s) = (S', O', H', nI (bf_n (bf_out f r b (fun D => sp_br D w) σ0 20000)), W', K', res) ∧
      vc_X2_shortestRow_L34 fu m wo (nI f) (nI r) (nI b) wa wl t_S t_O t_H (nI (bf_n (bf_out f r b (fun D => sp_br D w) σ0 s))) t_W sk (nI w) (nI s) ∧ cr_o (-1) (bf_out f r b (fun D => sp_br D w) σ0 20000) t_W W' sk K' res
  | _, _, 0, _, _, _, _, hm, _, _ => absurd hm (Nat.not_lt_zero _)
  | j, s, m + 1, t_S, t_O, t_H, hj, hm, hc, hR => by
    have hIs := hI.out (b := b) (br := fun D => sp_br D w) hw s
    have hJs := bf_J.out (b := b) (br := fun D => sp_br D w) hw hI hJ s
    have hn2 := hIs.2.1
    have ih := fun (h0 : j ≠ 0) t_S t_O t_H => sr_L hw hb hw4 hfu hI hJ (j - 1) (s + 1) m t_S t_O t_H (by omega) (by omega)
    have hend : ∀ t i, t + i = 20000 → (bf_c (bf_out f r b (fun D => sp_br D w) σ0 t) ≠ 0 ∨ bf_n (bf_out f r b (fun D => sp_br D w) σ0 t) ≤ t) → bf_out f r b (fun D => sp_br D w) σ0 20000 = bf_out f r b (fun D => sp_br D w) σ0 t := fun t i ht h => by
      have := bf_out_end h i
      rwa [ht] at this
    have est : bf_out f r b (fun D => sp_br D w) σ0 (s + 1) = (if bf_c (bf_out f r b (fun D => sp_br D w) σ0 s) = 0 ∧ s < bf_n (bf_out f r b (fun D => sp_br D w) σ0 s) then bf_in f r b (fun D => sp_br D w) (bf_out f r b (fun D => sp_br D w) σ0 s) s 50 else bf_out f r b (fun D => sp_br D w) σ0 s) := rfl
    by_cases hs : bf_n (bf_out f r b (fun D => sp_br D w) σ0 s) ≤ s
    · have y : nI (bf_n (bf_out f r b (fun D => sp_br D w) σ0 s)) ≤ nI s := nI_le hs (by omega)
      rw [hend s j hj (Or.inr hs)]
      refine ⟨t_S, t_O, t_H, t_W, sk, -1, ?_, ⟨fun _ => trivial, fun q => absurd y q⟩, fun _ => ⟨rfl, rfl, rfl⟩, fun q => absurd (q.symm.trans hc) (by decide), fun q => absurd (q.symm.trans hc) (by decide)⟩
      show (if nI (bf_n (bf_out f r b (fun D => sp_br D w) σ0 s)) ≤ nI s then _ else _) = _
      rw [if_pos y]; rfl
    · have y : ¬ nI (bf_n (bf_out f r b (fun D => sp_br D w) σ0 s)) ≤ nI s := fun q => hs ((nI_leI (by omega) (by omega)).mp q)
      have y2 : ¬ (20000 : Int32) ≤ nI s := fun q => by have := (nI_leI (a := 20000) (b := s) (by omega) (by omega)).mp q; omega
      rw [if_pos ⟨hc, by omega⟩] at est
      obtain ⟨S1, O1, H1, W1, K1, res1, g1, g2, g3, g4⟩ := go_all (fu := fu) (wo := wo) (wa := wa) (wl := wl) (t_W := t_W) (sk := sk) hw hb hw4 hfu hIs hJs (show s < _ by omega) hc hR
      rw [← est] at g1 g3 g4
      by_cases c1 : bf_c (bf_out f r b (fun D => sp_br D w) σ0 (s + 1)) = 0
      · obtain ⟨q1, q2, q3⟩ := g4.1 c1
        subst q1 q2 q3
        obtain ⟨S', O', H', W', K', res, i1, i2, i4⟩ := ih (by omega) _ _ _ c1 g3
        rw [← nI_1 s] at i1 i2
        refine ⟨S', O', H', W', K', res, ?_, ⟨fun q => absurd q y, fun _ => ⟨fun q => absurd q y2, fun _ => ⟨g2, ?_⟩⟩⟩, i4⟩
        · show (if nI (bf_n (bf_out f r b (fun D => sp_br D w) σ0 s)) ≤ nI s then _ else if (20000 : Int32) ≤ nI s then _ else _) = _
          rw [if_neg y, if_neg y2, g1]
          unfold cf_X2_shortestRow_i34_s58
          rw [if_pos rfl]; exact i1
        · rw [g1]
          exact ⟨fun _ => i2, fun _ => trivial⟩
      · have he := hend (s + 1) (j - 1) (by omega) (Or.inl c1)
        have hI1 := hI.out (b := b) (br := fun D => sp_br D w) hw (s + 1)
        have hc2 := hI1.2.2.1
        have hn3 := hI1.1
        have hn4 := hI1.2.1
        have hJ1 := bf_J.out (b := b) (br := fun D => sp_br D w) hw hI hJ (s + 1)
        have h40 : (bf_R (bf_out f r b (fun D => sp_br D w) σ0 (s + 1)) (bf_n (bf_out f r b (fun D => sp_br D w) σ0 (s + 1)) - 1)).length ≤ 40 := bf_len40 hw hI1 hJ1 (by omega)
        have hne : res1 ≠ -3 := by
          rcases (show bf_c (bf_out f r b (fun D => sp_br D w) σ0 (s + 1)) = 1 ∨ bf_c (bf_out f r b (fun D => sp_br D w) σ0 (s + 1)) = 2 by omega) with c | c
          · rw [(g4.2.1 c).1]
            intro q
            have := nI_pos' (n := (bf_R (bf_out f r b (fun D => sp_br D w) σ0 (s + 1)) (bf_n (bf_out f r b (fun D => sp_br D w) σ0 (s + 1)) - 1)).length) (by omega)
            rw [q] at this
            exact absurd this (by decide +kernel)
          · rw [(g4.2.2 c).1]; decide +kernel
        rw [he]
        refine ⟨S1, O1, H1, W1, K1, res1, ?_, ⟨fun q => absurd q y, fun _ => ⟨fun q => absurd q y2, fun _ => ⟨g2, ?_⟩⟩⟩, fun q => absurd q c1, g4.2.1, g4.2.2⟩
        · show (if nI (bf_n (bf_out f r b (fun D => sp_br D w) σ0 s)) ≤ nI s then _ else if (20000 : Int32) ≤ nI s then _ else _) = _
          rw [if_neg y, if_neg y2, g1]
          unfold cf_X2_shortestRow_i34_s58
          rw [if_neg hne]
        · rw [g1]
          exact ⟨fun q => absurd q hne, fun _ => trivial⟩
theorem fl_L : ∀ (j k m : Nat) (t_H : Nat → Int32), k + j = 32768 → j < m → ∃ H', cf_J7_fill_53178_L5 fu m t_H (0 : Int32) (nI k) (32768 : Int32) = H' ∧ vc_J7_fill_53178_L5 fu m t_H (0 : Int32) (nI k) (32768 : Int32) ∧ ((∀ t, t < k → t_H t = 0) → ∀ t, t < 32768 → H' t = 0)
  | _, _, 0, _, _, hm => absurd hm (Nat.not_lt_zero _)
  | j, k, m + 1, t_H, hj, hm => by
    by_cases q : k = 32768
    · have y : (32768 : Int32) ≤ nI k := by rw [q]; decide +kernel
      refine ⟨t_H, ?_, ⟨fun _ => trivial, fun z => absurd y z⟩, fun h t ht => h t (by omega)⟩
      show (if (32768 : Int32) ≤ nI k then _ else _) = _
      rw [if_pos y]
    · have y : ¬ (32768 : Int32) ≤ nI k := fun z => by have := (nI_leI (a := 32768) (b := k) (by omega) (by omega)).mp z; omega
      obtain ⟨H', a1, a2, a3⟩ := fl_L (j - 1) (k + 1) m (upd t_H k 0) (by omega) (by omega)
      rw [← nI_1 k] at a1 a2
      refine ⟨H', ?_, ⟨fun z => absurd z y, fun _ => ⟨vp_in_nI (by omega) (by omega), ?_⟩⟩, fun h => a3 (fun t ht => ?_)⟩
      · show (if (32768 : Int32) ≤ nI k then _ else _) = _
        rw [if_neg y, nI_clamp (by omega)]; exact a1
      · rw [nI_clamp (by omega)]; exact a2
      · by_cases z : t = k
        · rw [z, pk_us]
        · rw [pk_un z]; exact h t (by omega)
/-- the whole search of the class -/
theorem sr_all {D : ab_D} {t_S : Nat → Int64} {t_O t_H : Nat → Int32} {sn : Int32} (hw : ab_W o f r) (hb : b < 128) (hw4 : w < 4) (hfu : 40000 < fu) (hV : ab_V o f r D) (hN : ab_N D) :
    ∃ S' O' H' W' K' res, cf_X2_shortestRow fu wo (nI f) (nI r) (nI b) wa wl t_S t_O t_H sn t_W sk (ab_s D) (nI w) = (S', O', H', nI (bf_n (bf_fin f r b (fun D => sp_br D w) D)), W', K', res) ∧
      vc_X2_shortestRow fu wo (nI f) (nI r) (nI b) wa wl t_S t_O t_H sn t_W sk (ab_s D) (nI w) ∧ cr_o (-1) (bf_fin f r b (fun D => sp_br D w) D) t_W W' 0 K' res := by
  obtain ⟨H0, f1, f2, f3⟩ := fl_L (fu := fu) 32768 0 fu t_H (by omega) (by omega)
  have f4 := f3 (fun t ht => absurd ht (Nat.not_lt_zero _))
  have e0 : cf_J7_fill_53178 fu t_H (0 : Int32) = H0 := f1
  have v0 : vc_J7_fill_53178 fu t_H (0 : Int32) := f2
  have hT := ht_0 32768 ch_h (fun i => ab_s (bf_X (0, (fun _ => D), (fun _ => 0), (fun _ => 0), 0) i))
  obtain ⟨d, a1, a2, a3, a4, a5⟩ := cl_slot (fu := fu) (n := 0) (t_S := t_S) (t_H := H0) (sl := fun _ => 0) (fun i hi => absurd hi (Nat.not_lt_zero _)) f4 hT (by omega) (by omega) (ab_s D)
  have hlt : (ch_h (ab_s D) + d) % 32768 < 32768 := Nat.mod_lt _ (by omega)
  have hR : cr_R (bf_0 D) (vp_updL t_S ((0 : Int32)).toNatClampNeg (ab_s D)) (upd t_O ((0 : Int32)).toNatClampNeg (((0 : Int32) * (64 : Int32)) + (0 : Int32))) (upd H0 (nI ((ch_h (ab_s D) + d) % 32768)).toNatClampNeg ((0 : Int32) + (1 : Int32))) := by
    refine ⟨fun i hi => ?_, fun i h0 hi => absurd (show i < 1 from hi) (by omega), va_up (fun _ => 0) ((ch_h (ab_s D) + d) % 32768) (0 + 1), fun t ht => ?_, ?_⟩
    · have : i = 0 := by have : i < 1 := hi; omega
      subst this; exact pk_uLs
    · rw [nI_clamp (by omega)]
      by_cases q : t = (ch_h (ab_s D) + d) % 32768
      · rw [q, pk_us, va_up_self]; decide +kernel
      · rw [pk_un q, va_up_ne _ _ q, f4 t ht]; rfl
    · exact ht_add hT a1 a3 rfl (fun i hi => absurd hi (Nat.not_lt_zero _)) rfl
  obtain ⟨S', O', H', W', K', res, i1, i2, i3⟩ := sr_L (fu := fu) (wo := wo) (wa := wa) (wl := wl) (t_W := t_W) (sk := 0) hw hb hw4 hfu (bf_0I hV) (bf_0J hN) 20000 0 fu _ _ _ (by omega) (by omega) rfl hR
  refine ⟨S', O', H', W', K', res, ?_, ⟨v0, ?_⟩, i3⟩
  · unfold cf_X2_shortestRow cf_X2_shortestRow_s30
    rw [e0, a4, kp_1 kp_z]
    exact i1
  · rw [e0, a4, kp_1 kp_z]
    exact ⟨a5, ⟨fun _ => ⟨vp_in_nI (n := 0) (by omega) (by omega), vp_in_nI (n := 0) (by omega) (by omega), vp_in_nI hlt (by omega), trivial⟩, fun _ => trivial⟩, i2⟩
end GO

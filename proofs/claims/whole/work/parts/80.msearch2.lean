/-! the reference's search, act by act -/
def mr_R (σ : bf_S) (g_S : Nat → Int64) (g_O g_Y g_H : Nat → Int32) : Prop := (∀ i, i < bf_n σ → g_S i = ab_n (bf_X σ i)) ∧ g_O 0 = -1 ∧ (∀ i, 0 < i → i < bf_n σ → g_O i = nI (bf_o σ i) ∧ g_Y i = nI (bf_b σ i)) ∧ ∃ sl : Nat → Nat, (∀ t, t < 65536 → g_H t = nI (sl t)) ∧ ht_ok 65536 mh_h sl (fun i => ab_n (bf_X σ i)) (bf_n σ)
def mr_c (c : Nat) : Int32 := if c = 0 then 0 else if c = 1 then 1 else -1
section MF
variable {o f r b fu w : Nat} {g_S : Nat → Int64} {g_O g_Y g_H g_M : Nat → Int32}
theorem bf_mem_n {σ : bf_S} {D : ab_D} (hw : ab_W o f r) (hI : bf_I o f r σ) (hD : ab_V o f r D) : bf_mem (bf_n σ) (bf_X σ) D = true ↔ ∃ i, i < bf_n σ ∧ ab_n (bf_X σ i) = ab_n D := by
  rw [bf_mem_iff]
  constructor
  · rintro ⟨i, h1, h2⟩; exact ⟨i, h1, (ab_n_inj ((hI.2.2.2.1 i h1).B hw) (hD.B hw)).mpr h2⟩
  · rintro ⟨i, h1, h2⟩; exact ⟨i, h1, (ab_n_inj ((hI.2.2.2.1 i h1).B hw) (hD.B hw)).mp h2⟩
/-- a new STATE is kept -/
theorem co_new {n d : Nat} {D : ab_D} {sl : Nat → Nat} {x5 x6 : Int32} (hw : ab_W o f r) (hV : ab_V o f r D) (hw4 : w < 4) (hfu : 66000 < fu) (hn : n < 20000) (a4 : cf_X6_slotOf fu g_S g_H (ab_n D) = nI ((mh_h (ab_n D) + d) % 65536)) (a5 : vc_X6_slotOf fu g_S g_H (ab_n D)) (hH : ∀ t, t < 65536 → g_H t = nI (sl t)) (z : sl ((mh_h (ab_n D) + d) % 65536) = 0) :
    ∃ M', cf_X6_come fu (nI o) (nI f) (nI r) (ma_F (D)) (ma_R (D)) (ma_C (D)) (ma_L (D)) (nI ((D) 4 0)) (nI ((D) 4 1)) (nI ((D) 4 2)) g_S g_O g_Y g_H (nI n) g_M x5 x6 (nI w) = (vp_updL g_S n (ab_n D), upd g_O n x5, upd g_Y n x6, upd g_H ((mh_h (ab_n D) + d) % 65536) (nI (n + 1)), nI (n + 1), M', if sp_br D w = true then 1 else 0) ∧ vc_X6_come fu (nI o) (nI f) (nI r) (ma_F (D)) (ma_R (D)) (ma_C (D)) (ma_L (D)) (nI ((D) 4 0)) (nI ((D) 4 1)) (nI ((D) 4 2)) g_S g_O g_Y g_H (nI n) g_M x5 x6 (nI w) := by
  have hlt : (mh_h (ab_n D) + d) % 65536 < 65536 := Nat.mod_lt _ (by omega)
  obtain ⟨M', i1, i2⟩ := ms_isBroken (fu := fu) (g := g_M) hw hV (by omega) hw4
  have e0 := ms_number (hV.B hw)
  have y : g_H (nI ((mh_h (ab_n D) + d) % 65536)).toNatClampNeg ≤ 0 := by rw [nI_clamp (by omega), hH _ hlt, z]; decide +kernel
  have y2 : ¬ nI n = (20000 : Int32) := fun q => by have := (nI_eq (a := n) (b := 20000) (by omega) (by omega)).mp q; omega
  have hin : vp_in (nI n) 20000 := vp_in_nI hn (by omega)
  have hin2 : vp_in (nI ((mh_h (ab_n D) + d) % 65536)) 65536 := vp_in_nI hlt (by omega)
  refine ⟨M', ?_, ?_⟩
  · unfold cf_X6_come
    rw [e0, a4, if_pos y, if_neg y2, i1, nI_1, nI_clamp (by omega), nI_clamp (by omega)]
    by_cases q : sp_br D w = true
    · rw [if_pos q, if_neg (show ¬ (1 : Int32) = 0 by decide +kernel)]
    · rw [if_neg q, if_pos rfl]
  · unfold vc_X6_come
    rw [e0, a4]
    exact ⟨a5, hin2, fun _ => ⟨fun q => absurd q y2, fun _ => ⟨hin, hin, hin, hin2, i2, trivial⟩⟩, fun q => absurd y q⟩
theorem co_add {σ : bf_S} {D : ab_D} {s k : Nat} (hw : ab_W o f r) (hV : ab_V o f r D) (hw4 : w < 4) (hfu : 66000 < fu) (hI : bf_I o f r σ) (hc : bf_c σ = 0) (hR : mr_R σ g_S g_O g_Y g_H) :
    ∃ S' O' Y' H' M', cf_X6_come fu (nI o) (nI f) (nI r) (ma_F (D)) (ma_R (D)) (ma_C (D)) (ma_L (D)) (nI ((D) 4 0)) (nI ((D) 4 1)) (nI ((D) 4 2)) g_S g_O g_Y g_H (nI (bf_n σ)) g_M (nI s) (nI k) (nI w) = (S', O', Y', H', nI (bf_n (bf_add (fun D => sp_br D w) σ s k D)), M', mr_c (bf_c (bf_add (fun D => sp_br D w) σ s k D))) ∧ vc_X6_come fu (nI o) (nI f) (nI r) (ma_F (D)) (ma_R (D)) (ma_C (D)) (ma_L (D)) (nI ((D) 4 0)) (nI ((D) 4 1)) (nI ((D) 4 2)) g_S g_O g_Y g_H (nI (bf_n σ)) g_M (nI s) (nI k) (nI w) ∧ mr_R (bf_add (fun D => sp_br D w) σ s k D) S' O' Y' H' := by
  obtain ⟨h1, h0, h2, sl, hH, hT⟩ := id hR
  have hn2 := hI.2.1
  have hn1 := hI.1
  obtain ⟨d, a1, a2, a3, a4, a5⟩ := mo_slot (fu := fu) h1 hH hT hn2 (by omega) (hV.B hw)
  have hlt : (mh_h (ab_n D) + d) % 65536 < 65536 := Nat.mod_lt _ (by omega)
  have e0 := ms_number (hV.B hw)
  have hin2 : vp_in (nI ((mh_h (ab_n D) + d) % 65536)) 65536 := vp_in_nI hlt (by omega)
  have hle := hT.1 _ hlt
  by_cases z : sl ((mh_h (ab_n D) + d) % 65536) = 0
  · have hmem : bf_mem (bf_n σ) (bf_X σ) D = false := by
      rw [Bool.eq_false_iff]
      intro q
      obtain ⟨i, q1, q2⟩ := (bf_mem_n hw hI hV).mp q
      exact ht_miss hT a3 z i q1 q2
    by_cases hn : bf_n σ < 20000
    · obtain ⟨M', i1, i2⟩ := co_new (g_O := g_O) (g_Y := g_Y) (g_M := g_M) (x5 := nI s) (x6 := nI k) hw hV hw4 hfu hn a4 a5 hH z
      have ea : bf_add (fun D => sp_br D w) σ s k D = (bf_n σ + 1, va_up (bf_X σ) (bf_n σ) D, va_up (bf_o σ) (bf_n σ) s, va_up (bf_b σ) (bf_n σ) k, if sp_br D w = true then 1 else 0) := by
        unfold bf_add; rw [hmem, if_neg (by decide), if_neg (by omega)]
      rw [ea]
      refine ⟨vp_updL g_S (bf_n σ) (ab_n D), upd g_O (bf_n σ) (nI s), upd g_Y (bf_n σ) (nI k), upd g_H ((mh_h (ab_n D) + d) % 65536) (nI (bf_n σ + 1)), M', ?_, i2, fun i hi => ?_, ?_, fun i hi0 hi => ?_, va_up sl ((mh_h (ab_n D) + d) % 65536) (bf_n σ + 1), fun t ht => ?_, ?_⟩
      · rw [i1]
        show _ = (vp_updL g_S (bf_n σ) (ab_n D), upd g_O (bf_n σ) (nI s), upd g_Y (bf_n σ) (nI k), upd g_H ((mh_h (ab_n D) + d) % 65536) (nI (bf_n σ + 1)), nI (bf_n σ + 1), M', mr_c (if sp_br D w = true then 1 else 0))
        by_cases q : sp_br D w = true
        · rw [if_pos q, if_pos q]; rfl
        · rw [if_neg q, if_neg q]; rfl
      · have hi' : i < bf_n σ + 1 := hi
        show vp_updL g_S (bf_n σ) (ab_n D) i = ab_n (va_up (bf_X σ) (bf_n σ) D i)
        by_cases q : i = bf_n σ
        · rw [q, pk_uLs, va_up_self]
        · rw [pk_uLn q, va_up_ne _ _ q]; exact h1 i (by omega)
      · rw [pk_un (by omega)]; exact h0
      · have hi' : i < bf_n σ + 1 := hi
        show upd g_O (bf_n σ) _ i = nI (va_up (bf_o σ) (bf_n σ) s i) ∧ upd g_Y (bf_n σ) _ i = nI (va_up (bf_b σ) (bf_n σ) k i)
        by_cases q : i = bf_n σ
        · rw [q, pk_us, pk_us, va_up_self, va_up_self]; exact ⟨rfl, rfl⟩
        · rw [pk_un q, pk_un q, va_up_ne _ _ q, va_up_ne _ _ q]; exact h2 i hi0 (by omega)
      · by_cases q : t = (mh_h (ab_n D) + d) % 65536
        · rw [q, pk_us, va_up_self]
        · rw [pk_un q, va_up_ne _ _ q]; exact hH t ht
      · exact ht_add hT a1 a3 z (fun i hi => by show ab_n (va_up (bf_X σ) (bf_n σ) D i) = ab_n (bf_X σ i); rw [va_up_ne _ _ (by omega)]) (by show ab_n (va_up (bf_X σ) (bf_n σ) D (bf_n σ)) = ab_n D; rw [va_up_self])
    · have hn0 : bf_n σ = 20000 := by omega
      have y : g_H (nI ((mh_h (ab_n D) + d) % 65536)).toNatClampNeg ≤ 0 := by rw [nI_clamp (by omega), hH _ hlt, z]; decide +kernel
      have y2 : nI (bf_n σ) = (20000 : Int32) := by rw [hn0]; rfl
      have ea : bf_add (fun D => sp_br D w) σ s k D = (bf_n σ, bf_X σ, bf_o σ, bf_b σ, 2) := by
        unfold bf_add; rw [hmem, if_neg (by decide), if_pos hn0]
      rw [ea]
      refine ⟨g_S, g_O, g_Y, g_H, g_M, ?_, ?_, hR⟩
      · unfold cf_X6_come
        rw [e0, a4, if_pos y, if_pos y2]; rfl
      · unfold vc_X6_come
        rw [e0, a4]
        exact ⟨a5, hin2, fun _ => ⟨fun _ => trivial, fun q => absurd y2 q⟩, fun q => absurd y q⟩
  · have y : ¬ g_H (nI ((mh_h (ab_n D) + d) % 65536)).toNatClampNeg ≤ 0 := by rw [nI_clamp (by omega), hH _ hlt]; exact nI_nle (by omega) (by omega)
    have hmem : bf_mem (bf_n σ) (bf_X σ) D = true := (bf_mem_n hw hI hV).mpr (ht_hit hT (by omega) a2 z)
    have ea : bf_add (fun D => sp_br D w) σ s k D = σ := by unfold bf_add; rw [if_pos hmem]
    rw [ea, hc]
    refine ⟨g_S, g_O, g_Y, g_H, g_M, ?_, ?_, hR⟩
    · unfold cf_X6_come
      rw [e0, a4, if_neg y]; rfl
    · unfold vc_X6_come
      rw [e0, a4]
      exact ⟨a5, hin2, fun q => absurd q y, fun _ => trivial⟩
end MF
theorem cs_ne {D D' : ab_D} (h : ab_B D) (h' : ab_B D') (q : ¬ ab_E D D') : ab_s D ≠ ab_s D' := fun e => q (ab_c_inj h h' ((pk_lEQ (Nat.lt_trans (ab_s_lt h) (by decide)) (Nat.lt_trans (ab_s_lt h') (by decide))).mp e))
theorem sp_g_B {D : ab_D} {t : Nat} (h : ab_B D) : ab_B (sp_g D t) := by
  obtain ⟨h1, h2, h3, h4⟩ := id h
  unfold sp_g
  split
  · refine ⟨fun k hk => ?_, fun k hk => ?_, fun k hk => ?_, ?_⟩
    · rw [ab_un _ _ (by omega), ab_un _ _ (by omega)]; exact h1 k hk
    · rw [ab_un _ _ (by omega), ab_un _ _ (by omega)]; exact h2 k hk
    · by_cases e : k = t - 1
      · subst e; rw [ab_us, ab_un _ _ (by omega), ab_us]; exact ⟨by omega, by omega⟩
      · rw [ab_un _ _ (by omega), ab_un _ _ (by omega), ab_un _ _ (by omega), ab_un _ _ (by omega)]; exact h3 k hk
    · rw [ab_un _ _ (by omega), ab_un _ _ (by omega), ab_un _ _ (by omega), ab_un _ _ (by omega), ab_un _ _ (by omega), ab_un _ _ (by omega)]; exact h4
  · exact h
theorem cs_sg {D : ab_D} (h : ab_B D) {t : Nat} (ht : t ≤ 4) : ab_s (sp_g D t) = ab_s D ↔ sp_w D t = false := by
  constructor
  · intro e
    apply Bool.eq_false_iff.mpr
    intro hw
    refine cs_ne (sp_g_B h) h (fun q => ?_) e
    obtain ⟨w1, w2⟩ := sp_w_iff.mp hw
    have q2 := (q.2.2.1 (t - 1) (by omega)).1
    unfold sp_g at q2
    rw [if_pos hw, ab_un _ _ (by omega), ab_us, w2] at q2
    omega
  · intro hw
    unfold sp_g
    rw [if_neg (by rw [hw]; decide)]
theorem cs_isWhite {D : ab_D} (h : ab_B D) {t : Nat} (ht : t ≤ 4) (hl : D 2 (t - 1) = 0 → D 3 (t - 1) = 0) : cf_X4_isWhite (ab_s D) (nI t - 1) = if sp_w D t = true then 1 else 0 := by
  unfold cf_X4_isWhite
  rw [cs_greyIfWhite h ht hl]
  by_cases hw : sp_w D t = true
  · rw [if_pos hw, if_neg]
    rw [lg_cmp_eq, cs_sg h ht, hw]
    decide
  · rw [if_neg hw, if_pos]
    rw [lg_cmp_eq, cs_sg h ht]
    exact Bool.eq_false_iff.mpr hw
theorem cs_gb {D : ab_D} (h : ab_B D) {o : Nat} (ho : o < 4) : lg_cmp (jl_ushr (ab_s D) ((33 : Int32) + nI o) &&& (1 : Int64)) (0 : Int64) = 0 ↔ ¬ D 2 o = 1 := by
  rw [cs_gbit h ho, lg_cmp_eq, cs_l0 (ab_g_lt _)]
  unfold ab_g
  split
  · rename_i q; simp [q]
  · rename_i q; simp [q]
theorem cs_leastGrey {D : ab_D} (h : ab_B D) : cf_X4_leastGrey (ab_s D) = if sp_lg D < 4 then nI (sp_lg D) else -1 := by
  unfold cf_X4_leastGrey cf_X4_leastGrey_s2_0 cf_X4_leastGrey_s2_1 cf_X4_leastGrey_s2_2 cf_X4_leastGrey_s2_3 cf_X4_leastGrey_s2_4
  have e0 := cs_gb h (o := 0) (by omega); have e1 := cs_gb h (o := 1) (by omega); have e2 := cs_gb h (o := 2) (by omega); have e3 := cs_gb h (o := 3) (by omega)
  rw [show nI 0 = (0 : Int32) from rfl] at e0; rw [show nI 1 = (1 : Int32) from rfl] at e1; rw [show nI 2 = (2 : Int32) from rfl] at e2; rw [show nI 3 = (3 : Int32) from rfl] at e3
  simp only [e0, e1, e2, e3]
  unfold sp_lg
  by_cases h0 : D 2 0 = 1
  · simp [h0]; rfl
  by_cases h1 : D 2 1 = 1
  · simp [h0, h1]; rfl
  by_cases h2 : D 2 2 = 1
  · simp [h0, h1, h2]; rfl
  by_cases h3 : D 2 3 = 1
  · simp [h0, h1, h2, h3]; rfl
  · simp [h0, h1, h2, h3]
theorem cs_looked {D : ab_D} (h : ab_B D) {o : Nat} (ho : o < 4) : cf_X4_fieldsLookedAt (ab_s D) (nI o) = nI (D 3 o) := by
  unfold cf_X4_fieldsLookedAt
  rw [show (41 : Int32) = nI 41 from rfl, cs_pl]
  exact jp_get (w := 1) (ab_cok h) (cx_L ho) (cp_L ho) (by omega) (by decide +kernel) (by decide) (cs_lt4 h)
theorem cs_rl {D : ab_D} (h : ab_B D) : cf_X4_rootsLookedAt (ab_s D) = nI (D 4 0) := by
  unfold cf_X4_rootsLookedAt
  exact jp_get (i := 23) (p := 45) (w := 2) (ab_cok h) rfl (by simp [ab_c, hr_p]) (by omega) (by decide +kernel) (by decide) (cs_lt4 h)
theorem cs_actsLeft {D : ab_D} (h : ab_B D) : cf_X4_actsLeft (ab_s D) = nI (D 4 1) := by
  unfold cf_X4_actsLeft
  exact jp_get (i := 25) (p := 48) (w := 4) (ab_cok h) rfl (by simp [ab_c, hr_p]) (by omega) (by decide +kernel) (by decide) (cs_lt4 h)
theorem cs_isOver {D : ab_D} (h : ab_B D) : cf_X4_isOver (ab_s D) = if D 4 2 = 1 then 1 else 0 := by
  unfold cf_X4_isOver
  have e : jl_ushr (ab_s D) (47 : Int32) &&& (1 : Int64) = lN (D 4 2) := jp_bit (i := 24) (p := 47) (ab_cok h) rfl (by simp [ab_c, hr_p]) (by omega) (cs_lt4 h)
  have h2 := h.2.2.2.2.2
  rw [e]
  by_cases hc : D 4 2 = 1
  · rw [if_pos hc, if_neg]
    rw [lg_cmp_eq, cs_l0 (by omega)]
    omega
  · rw [if_neg hc, if_pos]
    rw [lg_cmp_eq, cs_l0 (by omega)]
    omega
theorem cs_ended {D : ab_D} (h : ab_B D) (h0 : D 4 2 = 0) : cf_X4_ended (ab_s D) = ab_s (ab_up D 4 2 1) := by
  unfold cf_X4_ended
  have e := jp_or (i := 24) (p := 47) (w := 1) (d' := 1) (ab_cok h) (by show some (2, D 4 2) = _; rw [h0]) (by decide) (by simp [ab_c, hr_p]) (by omega) (cs_lt h)
  rw [show jl_shl (lN 1) (nI 47) = (140737488355328 : Int64) by decide +kernel] at e
  exact e.trans (congrArg (fun l => lN (hr_v l)) (by simp [ab_c, ab_up]))
theorem cs_withActsLeft {D : ab_D} (h : ab_B D) {a : Nat} (ha : a < 16) : cf_X4_withActsLeft (ab_s D) (nI a) = ab_s (ab_up D 4 1 a) := by
  unfold cf_X4_withActsLeft
  have e := jp_put (i := 25) (p := 48) (w := 4) (d' := a) (d := D 4 1) (ab_cok h) rfl (by omega) (by simp [ab_c, hr_p]) (by omega) (cs_lt h)
  rw [show jl_shl (lN (2 ^ 4 - 1)) (nI 48) ^^^ (-1) = (-4222124650659841 : Int64) by decide +kernel] at e
  rw [nI_l (by omega)]
  exact e.trans (congrArg (fun l => lN (hr_v l)) (by simp [ab_c, ab_up]))
theorem hr_inc {l : List (Nat × Nat)} {i b d : Nat} (h : l[i]? = some (b, d)) : hr_v (l.set i (b, d + 1)) = hr_v l + hr_p (l.take i) := by
  have e1 : hr_v l = hr_v (l.take i) + hr_p (l.take i) * (d + b * hr_v (l.drop (i + 1))) := by
    have e := congrArg hr_v (hr_split h)
    rw [hr_app, hr_app] at e
    simpa [hr_v, hr_p] using e
  rw [hr_set h, hr_app, hr_app, e1]
  simp only [hr_v, hr_p, Nat.mul_zero, Nat.add_zero, Nat.mul_one]
  rw [Nat.add_right_comm d 1, Nat.mul_add _ _ 1, Nat.mul_one]
  omega
theorem cs_rl1 {D : ab_D} (h : ab_B D) (h3 : D 4 0 < 3) : cf_X4_withOneMoreRootLookedAt (ab_s D) = ab_s (ab_up D 4 0 (D 4 0 + 1)) := by
  have e := hr_inc (l := ab_c D) (i := 23) (b := 4) (d := D 4 0) rfl
  have e2 : (ab_c D).set 23 (4, D 4 0 + 1) = ab_c (ab_up D 4 0 (D 4 0 + 1)) := by simp [ab_c, ab_up]
  have e3 : hr_p ((ab_c D).take 23) = 35184372088832 := by simp [ab_c, hr_p]
  rw [e2, e3] at e
  unfold cf_X4_withOneMoreRootLookedAt
  show lN (hr_v (ab_c D)) + lN 35184372088832 = lN (hr_v (ab_c (ab_up D 4 0 (D 4 0 + 1))))
  rw [lN_add, e]
theorem cs_first {D : ab_D} (h : ab_B D) {o : Nat} (ho : o < 4) (h0 : D 3 o = 0) : cf_X4_withFirstFieldLookedAt (ab_s D) (nI o) = ab_s (ab_up D 3 o 1) := by
  unfold cf_X4_withFirstFieldLookedAt
  rw [show (41 : Int32) = nI 41 from rfl, cs_pl]
  have e := jp_or (d' := 1) (w := 1) (ab_cok h) (by have := cx_L (D := D) ho; rw [h0] at this; exact this) (by decide) (cp_L ho) (by omega) (cs_lt h)
  refine e.trans (congrArg (fun l => lN (hr_v l)) ?_)
  rcases (show o = 0 ∨ o = 1 ∨ o = 2 ∨ o = 3 by omega) with rfl | rfl | rfl | rfl <;> simp [ab_c, ab_up]
theorem cs_blackened {D : ab_D} (h : ab_B D) {o : Nat} (ho : o < 4) (h1 : D 2 o = 1) : cf_X4_blackened (ab_s D) (nI o) = ab_s (ab_up (ab_up D 2 o 2) 3 o 0) := by
  unfold cf_X4_blackened
  rw [show (33 : Int32) = nI 33 from rfl, show (37 : Int32) = nI 37 from rfl, show (41 : Int32) = nI 41 from rfl, cs_pl, cs_pl, cs_pl]
  have k0 := ab_cok h
  have e1 := jp_clr (w := 1) k0 (cx_G (D := D) ho) (cp_G ho) (by omega) (cs_lt h)
  have k1 : hr_ok ((ab_c D).set (11 + o) (2, 0)) := k0.set (by decide)
  have q1 : ∀ l : List (Nat × Nat), l.map (·.1) = (ab_c D).map (·.1) → hr_ok l → hr_v l < 2 ^ 63 := fun l hm hk => by
    have e := hr_lt l hk
    have : hr_p l = 2 ^ 52 := by
      have hh : ∀ x y : List (Nat × Nat), x.map (·.1) = y.map (·.1) → hr_p x = hr_p y := by
        intro x
        induction x with
        | nil => intro y hy; cases y with
          | nil => rfl
          | cons _ _ => simp at hy
        | cons a t ih => intro y hy; cases y with
          | nil => simp at hy
          | cons b u =>
            simp only [List.map_cons, List.cons.injEq] at hy
            show a.1 * hr_p t = b.1 * hr_p u
            rw [hy.1, ih u hy.2]
      rw [hh l (ab_c D) hm]; simp [ab_c, hr_p]
    omega
  have m1 : ((ab_c D).set (11 + o) (2, 0)).map (·.1) = (ab_c D).map (·.1) := by
    rcases (show o = 0 ∨ o = 1 ∨ o = 2 ∨ o = 3 by omega) with rfl | rfl | rfl | rfl <;> simp [ab_c]
  have e2 := jp_clr (l := (ab_c D).set (11 + o) (2, 0)) (i := 19 + o) (p := 41 + o) (d := D 3 o) (w := 1) k1 (by rw [List.getElem?_set_ne (by omega)]; exact cx_L ho) (by
    rcases (show o = 0 ∨ o = 1 ∨ o = 2 ∨ o = 3 by omega) with rfl | rfl | rfl | rfl <;> simp [ab_c, hr_p]) (by omega) (q1 _ m1 k1)
  have k2 : hr_ok (((ab_c D).set (11 + o) (2, 0)).set (19 + o) (2, 0)) := k1.set (by decide)
  have m2 : (((ab_c D).set (11 + o) (2, 0)).set (19 + o) (2, 0)).map (·.1) = (ab_c D).map (·.1) := by
    rcases (show o = 0 ∨ o = 1 ∨ o = 2 ∨ o = 3 by omega) with rfl | rfl | rfl | rfl <;> simp [ab_c]
  have e3 := jp_or (l := ((ab_c D).set (11 + o) (2, 0)).set (19 + o) (2, 0)) (i := 15 + o) (p := 37 + o) (d' := 1) (w := 1) k2 (by rw [List.getElem?_set_ne (by omega), List.getElem?_set_ne (by omega), cx_B ho, h1]; rfl) (by decide) (by
    rcases (show o = 0 ∨ o = 1 ∨ o = 2 ∨ o = 3 by omega) with rfl | rfl | rfl | rfl <;> simp [ab_c, hr_p]) (by omega) (q1 _ m2 k2)
  rw [show ((2 : Nat) ^ 1 - 1) = 1 from rfl, show ((2 : Nat) ^ 1) = 2 from rfl] at e1 e2
  rw [show ((2 : Nat) ^ 1) = 2 from rfl] at e3
  show ((lN (hr_v (ab_c D)) &&& (jl_shl (lN 1) (nI (33 + o)) ^^^ (-1))) &&& (jl_shl (lN 1) (nI (41 + o)) ^^^ (-1))) ||| jl_shl (lN 1) (nI (37 + o)) = _
  rw [e1, e2, e3]
  refine congrArg (fun l => lN (hr_v l)) ?_
  rcases (show o = 0 ∨ o = 1 ∨ o = 2 ∨ o = 3 by omega) with rfl | rfl | rfl | rfl <;> simp [ab_c, ab_up, ab_g, ab_b]
theorem cs_greyAgain {D : ab_D} (h : ab_B D) {o : Nat} (ho : o < 4) (h1 : D 2 o = 2) (h3 : D 3 o = 0) : cf_X4_greyAgain (ab_s D) (nI o) = ab_s (ab_up (ab_up D 2 o 1) 3 o 0) := by
  unfold cf_X4_greyAgain
  rw [show (33 : Int32) = nI 33 from rfl, show (37 : Int32) = nI 37 from rfl, cs_pl, cs_pl]
  have k0 := ab_cok h
  have e1 := jp_clr (w := 1) k0 (cx_B (D := D) ho) (cp_B ho) (by omega) (cs_lt h)
  have k1 : hr_ok ((ab_c D).set (15 + o) (2, 0)) := k0.set (by decide)
  have e0 : (ab_c D).set (15 + o) (2, 0) = ab_c (ab_up D 2 o 0) := by
    rcases (show o = 0 ∨ o = 1 ∨ o = 2 ∨ o = 3 by omega) with rfl | rfl | rfl | rfl <;> simp [ab_c, ab_up, ab_g, ab_b, h1]
  have hB : ab_B (ab_up D 2 o 0) := by
    obtain ⟨b1, b2, b3, b4⟩ := id h
    refine ⟨fun k hk => ?_, fun k hk => ?_, fun k hk => ?_, ?_⟩
    · rw [ab_un _ _ (by omega)]; exact b1 k hk
    · rw [ab_un _ _ (by omega)]; exact b2 k hk
    · rw [ab_un D (i := 2) (k := o) (a := 3) _ (by omega)]
      by_cases e : k = o
      · subst e; rw [ab_us]; exact ⟨by omega, (b3 k hk).2⟩
      · rw [ab_un _ _ (by omega)]; exact b3 k hk
    · rw [ab_un _ _ (by omega), ab_un _ _ (by omega), ab_un _ _ (by omega)]; exact b4
  have e3 := jp_or (d' := 1) (w := 1) (ab_cok hB) (by have := cx_G (D := ab_up D 2 o 0) ho; rw [ab_us] at this; exact this) (by decide) (cp_G ho) (by omega) (cs_lt hB)
  rw [show ((2 : Nat) ^ 1 - 1) = 1 from rfl, show ((2 : Nat) ^ 1) = 2 from rfl, e0] at e1
  rw [show ((2 : Nat) ^ 1) = 2 from rfl] at e3
  show (lN (hr_v (ab_c D)) &&& (jl_shl (lN 1) (nI (37 + o)) ^^^ (-1))) ||| jl_shl (lN 1) (nI (33 + o)) = _
  rw [e1, e3]
  refine congrArg (fun l => lN (hr_v l)) ?_
  rcases (show o = 0 ∨ o = 1 ∨ o = 2 ∨ o = 3 by omega) with rfl | rfl | rfl | rfl <;> simp [ab_c, ab_up, ab_g, ab_b, h3]

theorem ll_len {N j : Nat} (hN : N ≤ 2048) (hj : j ≤ 4096) : Int32.ofNat N - (4 : Int32) < nI j ↔ N < j + 4 := by
  rw [Int32.lt_iff_toInt_lt, nI_toInt (by omega)]
  have key : (Int32.ofNat N - (4 : Int32)).toInt = (N : Int) - 4 := by
    by_cases h : 4 ≤ N
    · obtain ⟨n, rfl⟩ : ∃ n, N = n + 4 := ⟨N - 4, by omega⟩
      have h1 : Int32.ofNat (n + 4) - (4 : Int32) = nI n := by
        have h2 : nI n + nI 4 = Int32.ofNat (n + 4) := nI_add n 4
        rw [← h2, show nI 4 = (4 : Int32) by decide +kernel]
        first | exact Int32.add_sub_cancel | exact Int32.add_sub_cancel _ _ | simp
      rw [h1, nI_toInt (by omega)]; omega
    · rcases (show N = 0 ∨ N = 1 ∨ N = 2 ∨ N = 3 by omega) with rfl | rfl | rfl | rfl <;> decide +kernel
  rw [key]; omega
theorem ll_in {N j k : Nat} (x : Int32) (hx : nI k = x) (h : j + k < N) (hN : N ≤ 2048) : vp_in (nI j + x) N := by
  rw [← hx, nI_add]; exact vp_in_nI h (by omega)
theorem ll_head {p : Program} {l : Launch} {e : Env} {R : Room} {s : State} {m : MethodId} {args : Array Value} {below : List Frame} {meth : Method} {c : Code} {Q : State → Prop} {dC : Nat → ClassId} {dI : Nat → Nat → Nat} {A : Nat → Prop} {b0 N : Nat} {xs : Nat → Int32} {qx q5 q6 : Nat} {cyI cyJ cyZ : ClassId} {j cells slots : Nat} {H : Heap} {locs : List Loc} {ls : Array Slot} (hN : N ≤ 2048) (hF : la_F p l R s m args c dC dI cyI cyJ cyZ A b0 N xs) (hj : j ≤ N) (hS : va_S A s.heap H locs) (hl : lv_has ls 7 [(0, .ref b0), (1, .ref q5), (2, .ref q6), (3, .ref qx), (4, .int (nI j))])
    (kx : N < j + 4 → W p l e R s m args below meth c H locs cells slots Q (F0 m 806 ls [])) (kk : j + 4 ≤ N → W p l e R s m args below meth c H locs cells slots Q (F0 m 39 ls [.int (xs (nI j).toNatClampNeg &&& (15 : Int32))])) : W p l e R s m args below meth c H locs cells slots Q (F0 m 23 ls []) := by
  obtain ⟨hx, hb, hml, hown, hts, hX, hbl, hbA, hA, hK, hZ, hl0, hRf, hRl, hRc, hRs⟩ := hF
  refine lv_iload hx hb dL_law_23 (lv_at hl 4 rfl) ?_
  refine lv_aload_n hx hb dL_law_25 rfl (lv_at hl 0 rfl) ?_
  refine va_slen hx hb hX hbl hbA hS dL_law_26 ?_
  refine lv_iconst (v := (4 : Int32)) hx hb dL_law_27 (by decide +kernel) ?_
  refine lv_isub hx hb dL_law_28 ?_
  refine lv_icmp_gt (tgt := 806) hx hb dL_law_29 (by decide) (fun c9 => kx ((ll_len hN (by omega)).mp c9)) (fun c9 => ?_)
  have hlt : j + 4 ≤ N := Nat.not_lt.mp (fun q => c9 ((ll_len hN (by omega)).mpr q))
  refine lv_aload_n hx hb dL_law_32 rfl (lv_at hl 0 rfl) ?_
  refine lv_iload hx hb dL_law_33 (lv_at hl 4 rfl) ?_
  refine va_sld hx hb hX hbl hbA hS (vp_in_nI (n := j) (by omega) (by omega)) dL_law_35 ?_
  refine lv_bipush (v := (15 : Int32)) hx hb dL_law_36 (by decide +kernel) ?_
  refine lv_iand hx hb dL_law_38 ?_
  exact kk hlt
set_option maxHeartbeats 4000000 in
theorem ll_loop {p : Program} {l : Launch} {e : Env} {R : Room} {s : State} {m : MethodId} {args : Array Value} {below : List Frame} {meth : Method} {c : Code} {Q : State → Prop} {dC : Nat → ClassId} {dI : Nat → Nat → Nat} {A : Nat → Prop} {b0 N : Nat} {xs : Nat → Int32} {qx q5 q2 q1 q3 qs qo qh qw q6 qA qB qF qR qC qL qS qO qY qH qW qM : Nat} {cyI cyJ cyZ : ClassId} {fu : Nat} (hfu : 66000 < fu) (hN : N ≤ 2048) (hF : la_F p l R s m args c dC dI cyI cyJ cyZ A b0 N xs)
    (kx : ∀ (H : Heap) (locs : List Loc) (ls : Array Slot) (cells slots : Nat), cells ≤ 601024 → slots ≤ 7293034 → va_S A s.heap H locs → W p l e R s m args below meth c H locs cells slots Q (F0 m 806 ls [])) :
    ∀ (n j : Nat) (H : Heap) (locs : List Loc) (ls : Array Slot) (cells slots : Nat), N < j + 4 + 4 * n → j ≤ N → cells + 3 * n ≤ 601024 → slots + 18 * n ≤ 7293034 → la_P dC dI qx q5 q2 q1 q3 qs qo qh qw q6 qA qB qF qR qC qL qS qO qY qH qW qM cyI cyJ cyZ A s.heap H locs → lv_has ls 7 [(0, .ref b0), (1, .ref q5), (2, .ref q6), (3, .ref qx), (4, .int (nI j))] → W p l e R s m args below meth c H locs cells slots Q (F0 m 23 ls []) := by
  intro n
  induction n with
  | zero =>
    intro j H locs ls cells slots h1 h2 h3 h4 hLP hl
    have hS : va_S A s.heap H locs := by
      obtain ⟨o, f, r, b, a, L, E, D, g_F, g_R, g_C, g_L, t_W, g_W, g_X, t_S, t_O, t_H, sn, m_th, rl, lf, ov, g_S, g_O, g_Y, g_H, m_st, g_M, hI, hP, hD, hS⟩ := hLP
      exact hS
    exact ll_head hN hF h2 hS hl (fun _ => kx H locs ls cells slots (by omega) (by omega) hS) (fun q => absurd q (by omega))
  | succ n ih =>
    intro j H locs ls cells slots h1 h2 h3 h4 hLP hl
    have hLP0 := hLP
    obtain ⟨o, f, r, b, a, L, E, D, g_F, g_R, g_C, g_L, t_W, g_W, g_X, t_S, t_O, t_H, sn, m_th, rl, lf, ov, g_S, g_O, g_Y, g_H, m_st, g_M, hI, hP, hD, hS⟩ := hLP
    refine ll_head hN hF h2 hS hl (fun _ => kx H locs ls cells slots (by omega) (by omega) hS) (fun hj => ?_)
    have hx := hF.1
    have hb := hF.2.1
    have next : ∀ (H : Heap) (locs : List Loc) (ls : Array Slot), la_P dC dI qx q5 q2 q1 q3 qs qo qh qw q6 qA qB qF qR qC qL qS qO qY qH qW qM cyI cyJ cyZ A s.heap H locs → lv_has ls 7 [(0, .ref b0), (1, .ref q5), (2, .ref q6), (3, .ref qx), (4, .int (nI j))] → W p l e R s m args below meth c H locs (cells + 3) (slots + 18) Q (F0 m 800 ls []) := by
      intro H locs ls hLP hl
      refine lv_iinc (v := nI (j + 4)) (lv' := [(4, .int (nI (j + 4))), (0, .ref b0), (1, .ref q5), (2, .ref q6), (3, .ref qx)]) hx hb dL_law_800 hl (k := 4) rfl (by rw [show (Int32.ofInt 4) = nI 4 by decide +kernel]; exact nI_add j 4) (by decide) rfl (fun ls hl => ?_)
      refine lv_goto (tgt := 23) hx hb dL_law_803 (by decide) ?_
      exact ih (j + 4) H locs ls (cells + 3) (slots + 18) (by omega) (by omega) (by omega) (by omega) hLP (lv_sub hl [1, 2, 3, 4, 0] rfl)
    have hi1 : vp_in (nI j + (1 : Int32)) N := ll_in (k := 1) _ (by decide +kernel) (by omega) hN
    have hi2 : vp_in (nI j + (2 : Int32)) N := ll_in (k := 2) _ (by decide +kernel) (by omega) hN
    have hi3 : vp_in (nI j + (3 : Int32)) N := ll_in (k := 3) _ (by decide +kernel) (by omega) hN
    generalize (xs (nI j).toNatClampNeg &&& (15 : Int32)) = z
    by_cases c_0 : z = 0
    · refine lv_tableIn (off := 65) (tgt := 104) hx hb dL_law_39 (by rw [c_0]; decide +kernel) (by rw [c_0]; decide +kernel) (by rw [c_0]; decide +kernel) (by decide) ?_
      exact lc_size hF hI hP hD hS hl hi1 hi2 hi3 ⟨by omega, by omega⟩ next
    by_cases c_1 : z = 1
    · refine lv_tableIn (off := 125) (tgt := 164) hx hb dL_law_39 (by rw [c_1]; decide +kernel) (by rw [c_1]; decide +kernel) (by rw [c_1]; decide +kernel) (by decide) ?_
      exact lc_point hF hI hP hD hS hl hi1 hi2 hi3 ⟨by omega, by omega⟩ next
    by_cases c_2 : z = 2
    · refine lv_tableIn (off := 185) (tgt := 224) hx hb dL_law_39 (by rw [c_2]; decide +kernel) (by rw [c_2]; decide +kernel) (by rw [c_2]; decide +kernel) (by decide) ?_
      exact lc_root hF hI hP hD hS hl hi1 hi2 hi3 ⟨by omega, by omega⟩ next
    by_cases c_3 : z = 3
    · refine lv_tableIn (off := 233) (tgt := 272) hx hb dL_law_39 (by rw [c_3]; decide +kernel) (by rw [c_3]; decide +kernel) (by rw [c_3]; decide +kernel) (by decide) ?_
      exact lc_rules hF hI hP hD hS hl hi1 hi2 hi3 ⟨by omega, by omega⟩ next
    by_cases c_4 : z = 4
    · refine lv_tableIn (off := 281) (tgt := 320) hx hb dL_law_39 (by rw [c_4]; decide +kernel) (by rw [c_4]; decide +kernel) (by rw [c_4]; decide +kernel) (by decide) ?_
      exact lc_find hfu hF hI hP hD hS hl hi1 hi2 hi3 ⟨by omega, by omega⟩ next
    by_cases c_5 : z = 5
    · refine lv_tableIn (off := 337) (tgt := 376) hx hb dL_law_39 (by rw [c_5]; decide +kernel) (by rw [c_5]; decide +kernel) (by rw [c_5]; decide +kernel) (by decide) ?_
      exact lc_act hF hI hP hD hS hl hi1 hi2 hi3 ⟨by omega, by omega⟩ next
    by_cases c_6 : z = 6
    · refine lv_tableIn (off := 393) (tgt := 432) hx hb dL_law_39 (by rw [c_6]; decide +kernel) (by rw [c_6]; decide +kernel) (by rw [c_6]; decide +kernel) (by decide) ?_
      exact lc_play hfu hF hI hP hD hS hl hi1 hi2 hi3 ⟨by omega, by omega⟩ next
    by_cases c_7 : z = 7
    · refine lv_tableIn (off := 449) (tgt := 488) hx hb dL_law_39 (by rw [c_7]; decide +kernel) (by rw [c_7]; decide +kernel) (by rw [c_7]; decide +kernel) (by decide) ?_
      exact lc_again hfu hF hI hP hD hS hl hi1 hi2 hi3 ⟨by omega, by omega⟩ next
    by_cases c_8 : z = 8
    · refine lv_tableIn (off := 462) (tgt := 501) hx hb dL_law_39 (by rw [c_8]; decide +kernel) (by rw [c_8]; decide +kernel) (by rw [c_8]; decide +kernel) (by decide) ?_
      exact lc_broken hfu hF hI hP hD hS hl hi1 hi2 hi3 ⟨by omega, by omega⟩ next
    by_cases c_9 : z = 9
    · refine lv_tableIn (off := 525) (tgt := 564) hx hb dL_law_39 (by rw [c_9]; decide +kernel) (by rw [c_9]; decide +kernel) (by rw [c_9]; decide +kernel) (by decide) ?_
      exact lc_colour hF hI hP hD hS hl hi1 hi2 hi3 ⟨by omega, by omega⟩ next
    by_cases c_10 : z = 10
    · refine lv_tableIn (off := 581) (tgt := 620) hx hb dL_law_39 (by rw [c_10]; decide +kernel) (by rw [c_10]; decide +kernel) (by rw [c_10]; decide +kernel) (by decide) ?_
      exact lc_field hF hI hP hD hS hl hi1 hi2 hi3 ⟨by omega, by omega⟩ next
    by_cases c_11 : z = 11
    · refine lv_tableIn (off := 649) (tgt := 688) hx hb dL_law_39 (by rw [c_11]; decide +kernel) (by rw [c_11]; decide +kernel) (by rw [c_11]; decide +kernel) (by decide) ?_
      exact lc_has hF hI hP hD hS hl hi1 hi2 hi3 ⟨by omega, by omega⟩ next
    by_cases c_12 : z = 12
    · refine lv_tableIn (off := 705) (tgt := 744) hx hb dL_law_39 (by rw [c_12]; decide +kernel) (by rw [c_12]; decide +kernel) (by rw [c_12]; decide +kernel) (by decide) ?_
      exact lc_count hF hI hP hD hS hl hi1 hi2 hi3 ⟨by omega, by omega⟩ next
    refine lv_tableOut (tgt := 800) hx hb dL_law_39 (by have q0 := lv_neT (a := 0) c_0 (by decide +kernel); have q1 := lv_neT (a := 1) c_1 (by decide +kernel); have q2 := lv_neT (a := 2) c_2 (by decide +kernel); have q3 := lv_neT (a := 3) c_3 (by decide +kernel); have q4 := lv_neT (a := 4) c_4 (by decide +kernel); have q5 := lv_neT (a := 5) c_5 (by decide +kernel); have q6 := lv_neT (a := 6) c_6 (by decide +kernel); have q7 := lv_neT (a := 7) c_7 (by decide +kernel); have q8 := lv_neT (a := 8) c_8 (by decide +kernel); have q9 := lv_neT (a := 9) c_9 (by decide +kernel); have q10 := lv_neT (a := 10) c_10 (by decide +kernel); have q11 := lv_neT (a := 11) c_11 (by decide +kernel); have q12 := lv_neT (a := 12) c_12 (by decide +kernel); omega) (by decide) ?_
    exact W.widen (k := cells + 3) (n := slots + 18) (by omega) (by omega) (next H locs ls hLP0 hl)

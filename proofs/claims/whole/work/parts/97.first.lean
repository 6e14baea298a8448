theorem up_n {f : Nat → Int32} {k j : Nat} {x : Int32} (h : k ≠ j) : upd f j x k = f k := if_neg h
theorem st_F : (upd (upd (upd (upd (upd (upd (upd (upd (zN 8) ((0 : Int32)).toNatClampNeg (-1 : Int32)) ((1 : Int32)).toNatClampNeg (-1 : Int32)) ((2 : Int32)).toNatClampNeg (-1 : Int32)) ((3 : Int32)).toNatClampNeg (-1 : Int32)) ((4 : Int32)).toNatClampNeg (-1 : Int32)) ((5 : Int32)).toNatClampNeg (-1 : Int32)) ((6 : Int32)).toNatClampNeg (-1 : Int32)) ((7 : Int32)).toNatClampNeg (-1 : Int32)) = ma_F e0 := by
  funext k
  by_cases h : k < 8
  · rcases (show k = 0 ∨ k = 1 ∨ k = 2 ∨ k = 3 ∨ k = 4 ∨ k = 5 ∨ k = 6 ∨ k = 7 by omega) with rfl | rfl | rfl | rfl | rfl | rfl | rfl | rfl <;> decide +kernel
  · show (upd (upd (upd (upd (upd (upd (upd (upd (zN 8) ((0 : Int32)).toNatClampNeg (-1 : Int32)) ((1 : Int32)).toNatClampNeg (-1 : Int32)) ((2 : Int32)).toNatClampNeg (-1 : Int32)) ((3 : Int32)).toNatClampNeg (-1 : Int32)) ((4 : Int32)).toNatClampNeg (-1 : Int32)) ((5 : Int32)).toNatClampNeg (-1 : Int32)) ((6 : Int32)).toNatClampNeg (-1 : Int32)) ((7 : Int32)).toNatClampNeg (-1 : Int32)) k = nI 0 - 1
    have n0 : k ≠ ((0 : Int32)).toNatClampNeg := by rw [show ((0 : Int32)).toNatClampNeg = 0 by decide +kernel]; omega
    have n1 : k ≠ ((1 : Int32)).toNatClampNeg := by rw [show ((1 : Int32)).toNatClampNeg = 1 by decide +kernel]; omega
    have n2 : k ≠ ((2 : Int32)).toNatClampNeg := by rw [show ((2 : Int32)).toNatClampNeg = 2 by decide +kernel]; omega
    have n3 : k ≠ ((3 : Int32)).toNatClampNeg := by rw [show ((3 : Int32)).toNatClampNeg = 3 by decide +kernel]; omega
    have n4 : k ≠ ((4 : Int32)).toNatClampNeg := by rw [show ((4 : Int32)).toNatClampNeg = 4 by decide +kernel]; omega
    have n5 : k ≠ ((5 : Int32)).toNatClampNeg := by rw [show ((5 : Int32)).toNatClampNeg = 5 by decide +kernel]; omega
    have n6 : k ≠ ((6 : Int32)).toNatClampNeg := by rw [show ((6 : Int32)).toNatClampNeg = 6 by decide +kernel]; omega
    have n7 : k ≠ ((7 : Int32)).toNatClampNeg := by rw [show ((7 : Int32)).toNatClampNeg = 7 by decide +kernel]; omega
    rw [up_n n7, up_n n6, up_n n5, up_n n4, up_n n3, up_n n2, up_n n1, up_n n0]
    show (if k < 8 then (0 : Int32) else -1) = nI 0 - 1
    rw [if_neg h]; decide +kernel
theorem st_R : (upd (upd (upd (zN 3) ((0 : Int32)).toNatClampNeg (-1 : Int32)) ((1 : Int32)).toNatClampNeg (-1 : Int32)) ((2 : Int32)).toNatClampNeg (-1 : Int32)) = ma_R e0 := by
  funext k
  by_cases h : k < 3
  · rcases (show k = 0 ∨ k = 1 ∨ k = 2 by omega) with rfl | rfl | rfl <;> decide +kernel
  · show (upd (upd (upd (zN 3) ((0 : Int32)).toNatClampNeg (-1 : Int32)) ((1 : Int32)).toNatClampNeg (-1 : Int32)) ((2 : Int32)).toNatClampNeg (-1 : Int32)) k = nI 0 - 1
    have n0 : k ≠ ((0 : Int32)).toNatClampNeg := by rw [show ((0 : Int32)).toNatClampNeg = 0 by decide +kernel]; omega
    have n1 : k ≠ ((1 : Int32)).toNatClampNeg := by rw [show ((1 : Int32)).toNatClampNeg = 1 by decide +kernel]; omega
    have n2 : k ≠ ((2 : Int32)).toNatClampNeg := by rw [show ((2 : Int32)).toNatClampNeg = 2 by decide +kernel]; omega
    rw [up_n n2, up_n n1, up_n n0]
    show (if k < 3 then (0 : Int32) else -1) = nI 0 - 1
    rw [if_neg h]; decide +kernel
theorem st_W : ab_W 1 1 1 := ⟨by omega, by omega, by omega, by omega, by omega, by omega⟩
theorem zN_1 {n : Nat} : no_1 n (zN n) := fun k hk => if_neg (by omega)
theorem st_M : cf_X6_first 0 (ma_F e0) (ma_R e0) (zN 8) (zN 3) z0 z0 0 0 0 = (ma_F (ab_1 e0 0), ma_R (ab_1 e0 0), ma_C (ab_1 e0 0), ma_L (ab_1 e0 0), 0, nI 0, 0, ab_n (ab_1 e0 0)) := ms_first (a := 0) st_W e0_L (by omega) 0 0 0 zN_1 zN_1 (fun _ _ => rfl) (fun _ _ => rfl)
theorem st_S : cf_X3_firstState (1 : Int32) (1 : Int32) (1 : Int32) (0 : Int32) (0 : Int32) (0 : Int64) = ab_s (ab_1 e0 0) := by
  have h := cs_firstState (wo := 1) (wf := 1) (wr := 1) (wb := 0) (a := 0) st_W e0_L (by omega)
  rw [e0_s] at h ⊢
  exact h
theorem st_LI : LI 1 1 1 0 0 0 e0 (ab_1 e0 0) (ma_F (ab_1 e0 0)) (ma_R (ab_1 e0 0)) (ma_C (ab_1 e0 0)) (ma_L (ab_1 e0 0)) z0 z0 := by
  have hN : ab_N (ab_1 e0 0) := ab_1N (o := 1) (f := 1) (r := 1) e0_L
  exact ⟨st_W, by omega, by omega, e0_L, ab_1V st_W e0_L (by omega), hN, by omega, hN.F, hN.R, hN.C, hN.L, fun _ _ => rfl⟩
theorem st_LP {dC : Nat → ClassId} {dI : Nat → Nat → Nat} {qx q5 q2 q1 q3 qs qo qh qw q6 qA qB qF qR qC qL qS qO qY qH qW qM : Nat} {cyI cyJ cyZ : ClassId} {A : Nat → Prop} {H0 H : Heap} {locs : List Loc} {g_X : Nat → Int64}
    (hP : va_P (dC, dI) kcl ([(qx, .inl (cyJ, 1, .inr (.inl g_X)))] ++ ([(q5, .inr (3, [.ref q3, .ref q1, .ref q2, .long (cf_X3_firstState (1 : Int32) (1 : Int32) (1 : Int32) (0 : Int32) (0 : Int32) (0 : Int64))])), (q2, .inr (1, [.ref q1, .ref qs, .ref qo, .ref qh, .int (0 : Int32), .ref qw, .int (0 : Int32)])), (q1, .inr (0, [.ref q3])), (q3, .inr (2, [.int (1 : Int32), .int (1 : Int32), .int (1 : Int32), .int (0 : Int32), .int (0 : Int32), .long (0 : Int64)])), (qs, .inl (cyJ, 20000, .inr (.inl zL))), (qo, .inl (cyI, 20000, .inl z0)), (qh, .inl (cyI, 32768, .inl z0)), (qw, .inl (cyI, 40, .inl z0))] ++ cw_X6_init q6 cyI cyJ cyZ (qA, qB, qF, qR, qC, qL, qS, qO, qY, qH, qW, qM))) H)
    (hD : va_D A ([(qx, .inl (cyJ, 1, .inr (.inl g_X)))] ++ ([(q5, .inr (3, [.ref q3, .ref q1, .ref q2, .long (cf_X3_firstState (1 : Int32) (1 : Int32) (1 : Int32) (0 : Int32) (0 : Int32) (0 : Int64))])), (q2, .inr (1, [.ref q1, .ref qs, .ref qo, .ref qh, .int (0 : Int32), .ref qw, .int (0 : Int32)])), (q1, .inr (0, [.ref q3])), (q3, .inr (2, [.int (1 : Int32), .int (1 : Int32), .int (1 : Int32), .int (0 : Int32), .int (0 : Int32), .long (0 : Int64)])), (qs, .inl (cyJ, 20000, .inr (.inl zL))), (qo, .inl (cyI, 20000, .inl z0)), (qh, .inl (cyI, 32768, .inl z0)), (qw, .inl (cyI, 40, .inl z0))] ++ cw_X6_init q6 cyI cyJ cyZ (qA, qB, qF, qR, qC, qL, qS, qO, qY, qH, qW, qM)))) (hS : va_S A H0 H locs) : la_P dC dI qx q5 q2 q1 q3 qs qo qh qw q6 qA qB qF qR qC qL qS qO qY qH qW qM cyI cyJ cyZ A H0 H locs := by
  dsimp only [cw_X6_init] at hP hD
  rw [st_S, st_F, st_R, st_M] at hP hD
  have e1 : ((0 : Int64)) = ab_s (ab_1 e0 0) := e0_s.symm
  refine ⟨1, 1, 1, 0, 0, 0, e0, ab_1 e0 0, ma_F (ab_1 e0 0), ma_R (ab_1 e0 0), ma_C (ab_1 e0 0), ma_L (ab_1 e0 0), z0, z0, g_X, zL, z0, z0, 0, 0, 0, nI 0, 0, zL, z0, z0, z0, 0, z0, st_LI, ?_, ?_, hS⟩
  · rw [e0_s] at hP ⊢; exact hP
  · rw [e0_s] at hD ⊢; exact hD

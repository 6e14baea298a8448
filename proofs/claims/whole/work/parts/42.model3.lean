def cf_X6_take_s98_m1  (g_F : Nat → Int32) (g_R : Nat → Int32) (g_C : Nat → Int32) (g_L : Nat → Int32) (m_rl : Int32) (m_lf : Int32) (m_ov : Int32) (x3 : Int64) : (Nat → Int32) × (Nat → Int32) × (Nat → Int32) × (Nat → Int32) × Int32 × Int32 × Int32 :=
  (if (lg_cmp ((x3 / (4 : Int64)) / (9 : Int64)) (1 : Int64)) = 0 then (g_F, g_R, g_C, g_L, ((x3 - x3 / (4 : Int64) * (4 : Int64)).toInt32), (((x3 / (4 : Int64)) - (x3 / (4 : Int64)) / (9 : Int64) * (9 : Int64)).toInt32), (1 : Int32)) else (g_F, g_R, g_C, g_L, ((x3 - x3 / (4 : Int64) * (4 : Int64)).toInt32), (((x3 / (4 : Int64)) - (x3 / (4 : Int64)) / (9 : Int64) * (9 : Int64)).toInt32), (0 : Int32)))
def cf_X6_take_s98_0  (g_F : Nat → Int32) (g_R : Nat → Int32) (g_C : Nat → Int32) (g_L : Nat → Int32) (m_rl : Int32) (m_lf : Int32) (m_ov : Int32) (x3 : Int64) : (Nat → Int32) × (Nat → Int32) × (Nat → Int32) × (Nat → Int32) × Int32 × Int32 × Int32 :=
  cf_X6_take_s98_m1  g_F (upd g_R ((0 : Int32)).toNatClampNeg (((x3 - x3 / (5 : Int64) * (5 : Int64)).toInt32) - (1 : Int32))) g_C g_L m_rl m_lf m_ov (x3 / (5 : Int64))
def cf_X6_take_s98_1  (g_F : Nat → Int32) (g_R : Nat → Int32) (g_C : Nat → Int32) (g_L : Nat → Int32) (m_rl : Int32) (m_lf : Int32) (m_ov : Int32) (x3 : Int64) : (Nat → Int32) × (Nat → Int32) × (Nat → Int32) × (Nat → Int32) × Int32 × Int32 × Int32 :=
  cf_X6_take_s98_0  g_F (upd g_R ((1 : Int32)).toNatClampNeg (((x3 - x3 / (5 : Int64) * (5 : Int64)).toInt32) - (1 : Int32))) g_C g_L m_rl m_lf m_ov (x3 / (5 : Int64))
def cf_X6_take_s98_2  (g_F : Nat → Int32) (g_R : Nat → Int32) (g_C : Nat → Int32) (g_L : Nat → Int32) (m_rl : Int32) (m_lf : Int32) (m_ov : Int32) (x3 : Int64) : (Nat → Int32) × (Nat → Int32) × (Nat → Int32) × (Nat → Int32) × Int32 × Int32 × Int32 :=
  cf_X6_take_s98_1  g_F (upd g_R ((2 : Int32)).toNatClampNeg (((x3 - x3 / (5 : Int64) * (5 : Int64)).toInt32) - (1 : Int32))) g_C g_L m_rl m_lf m_ov (x3 / (5 : Int64))
def cf_X6_take_s46_m1  (g_F : Nat → Int32) (g_R : Nat → Int32) (g_C : Nat → Int32) (g_L : Nat → Int32) (m_rl : Int32) (m_lf : Int32) (m_ov : Int32) (x3 : Int64) : (Nat → Int32) × (Nat → Int32) × (Nat → Int32) × (Nat → Int32) × Int32 × Int32 × Int32 :=
  cf_X6_take_s98_2  g_F g_R g_C g_L m_rl m_lf m_ov x3
def cf_X6_take_s46_0  (g_F : Nat → Int32) (g_R : Nat → Int32) (g_C : Nat → Int32) (g_L : Nat → Int32) (m_rl : Int32) (m_lf : Int32) (m_ov : Int32) (x3 : Int64) : (Nat → Int32) × (Nat → Int32) × (Nat → Int32) × (Nat → Int32) × Int32 × Int32 × Int32 :=
  cf_X6_take_s46_m1  g_F g_R (upd g_C ((0 : Int32)).toNatClampNeg (((x3 / (3 : Int64)) - (x3 / (3 : Int64)) / (3 : Int64) * (3 : Int64)).toInt32)) (upd g_L ((0 : Int32)).toNatClampNeg ((x3 - x3 / (3 : Int64) * (3 : Int64)).toInt32)) m_rl m_lf m_ov ((x3 / (3 : Int64)) / (3 : Int64))
def cf_X6_take_s46_1  (g_F : Nat → Int32) (g_R : Nat → Int32) (g_C : Nat → Int32) (g_L : Nat → Int32) (m_rl : Int32) (m_lf : Int32) (m_ov : Int32) (x3 : Int64) : (Nat → Int32) × (Nat → Int32) × (Nat → Int32) × (Nat → Int32) × Int32 × Int32 × Int32 :=
  cf_X6_take_s46_0  g_F g_R (upd g_C ((1 : Int32)).toNatClampNeg (((x3 / (3 : Int64)) - (x3 / (3 : Int64)) / (3 : Int64) * (3 : Int64)).toInt32)) (upd g_L ((1 : Int32)).toNatClampNeg ((x3 - x3 / (3 : Int64) * (3 : Int64)).toInt32)) m_rl m_lf m_ov ((x3 / (3 : Int64)) / (3 : Int64))
def cf_X6_take_s46_2  (g_F : Nat → Int32) (g_R : Nat → Int32) (g_C : Nat → Int32) (g_L : Nat → Int32) (m_rl : Int32) (m_lf : Int32) (m_ov : Int32) (x3 : Int64) : (Nat → Int32) × (Nat → Int32) × (Nat → Int32) × (Nat → Int32) × Int32 × Int32 × Int32 :=
  cf_X6_take_s46_1  g_F g_R (upd g_C ((2 : Int32)).toNatClampNeg (((x3 / (3 : Int64)) - (x3 / (3 : Int64)) / (3 : Int64) * (3 : Int64)).toInt32)) (upd g_L ((2 : Int32)).toNatClampNeg ((x3 - x3 / (3 : Int64) * (3 : Int64)).toInt32)) m_rl m_lf m_ov ((x3 / (3 : Int64)) / (3 : Int64))
def cf_X6_take_s46_3  (g_F : Nat → Int32) (g_R : Nat → Int32) (g_C : Nat → Int32) (g_L : Nat → Int32) (m_rl : Int32) (m_lf : Int32) (m_ov : Int32) (x3 : Int64) : (Nat → Int32) × (Nat → Int32) × (Nat → Int32) × (Nat → Int32) × Int32 × Int32 × Int32 :=
  cf_X6_take_s46_2  g_F g_R (upd g_C ((3 : Int32)).toNatClampNeg (((x3 / (3 : Int64)) - (x3 / (3 : Int64)) / (3 : Int64) * (3 : Int64)).toInt32)) (upd g_L ((3 : Int32)).toNatClampNeg ((x3 - x3 / (3 : Int64) * (3 : Int64)).toInt32)) m_rl m_lf m_ov ((x3 / (3 : Int64)) / (3 : Int64))
def cf_X6_take_s11_m1  (g_F : Nat → Int32) (g_R : Nat → Int32) (g_C : Nat → Int32) (g_L : Nat → Int32) (m_rl : Int32) (m_lf : Int32) (m_ov : Int32) (x3 : Int64) : (Nat → Int32) × (Nat → Int32) × (Nat → Int32) × (Nat → Int32) × Int32 × Int32 × Int32 :=
  cf_X6_take_s46_3  g_F g_R g_C g_L m_rl m_lf m_ov x3
def cf_X6_take_s11_0  (g_F : Nat → Int32) (g_R : Nat → Int32) (g_C : Nat → Int32) (g_L : Nat → Int32) (m_rl : Int32) (m_lf : Int32) (m_ov : Int32) (x3 : Int64) : (Nat → Int32) × (Nat → Int32) × (Nat → Int32) × (Nat → Int32) × Int32 × Int32 × Int32 :=
  cf_X6_take_s11_m1  (upd g_F ((0 : Int32)).toNatClampNeg (((x3 - x3 / (5 : Int64) * (5 : Int64)).toInt32) - (1 : Int32))) g_R g_C g_L m_rl m_lf m_ov (x3 / (5 : Int64))
def cf_X6_take_s11_1  (g_F : Nat → Int32) (g_R : Nat → Int32) (g_C : Nat → Int32) (g_L : Nat → Int32) (m_rl : Int32) (m_lf : Int32) (m_ov : Int32) (x3 : Int64) : (Nat → Int32) × (Nat → Int32) × (Nat → Int32) × (Nat → Int32) × Int32 × Int32 × Int32 :=
  cf_X6_take_s11_0  (upd g_F ((1 : Int32)).toNatClampNeg (((x3 - x3 / (5 : Int64) * (5 : Int64)).toInt32) - (1 : Int32))) g_R g_C g_L m_rl m_lf m_ov (x3 / (5 : Int64))
def cf_X6_take_s11_2  (g_F : Nat → Int32) (g_R : Nat → Int32) (g_C : Nat → Int32) (g_L : Nat → Int32) (m_rl : Int32) (m_lf : Int32) (m_ov : Int32) (x3 : Int64) : (Nat → Int32) × (Nat → Int32) × (Nat → Int32) × (Nat → Int32) × Int32 × Int32 × Int32 :=
  cf_X6_take_s11_1  (upd g_F ((2 : Int32)).toNatClampNeg (((x3 - x3 / (5 : Int64) * (5 : Int64)).toInt32) - (1 : Int32))) g_R g_C g_L m_rl m_lf m_ov (x3 / (5 : Int64))
def cf_X6_take_s11_3  (g_F : Nat → Int32) (g_R : Nat → Int32) (g_C : Nat → Int32) (g_L : Nat → Int32) (m_rl : Int32) (m_lf : Int32) (m_ov : Int32) (x3 : Int64) : (Nat → Int32) × (Nat → Int32) × (Nat → Int32) × (Nat → Int32) × Int32 × Int32 × Int32 :=
  cf_X6_take_s11_2  (upd g_F ((3 : Int32)).toNatClampNeg (((x3 - x3 / (5 : Int64) * (5 : Int64)).toInt32) - (1 : Int32))) g_R g_C g_L m_rl m_lf m_ov (x3 / (5 : Int64))
def cf_X6_take_s11_4  (g_F : Nat → Int32) (g_R : Nat → Int32) (g_C : Nat → Int32) (g_L : Nat → Int32) (m_rl : Int32) (m_lf : Int32) (m_ov : Int32) (x3 : Int64) : (Nat → Int32) × (Nat → Int32) × (Nat → Int32) × (Nat → Int32) × Int32 × Int32 × Int32 :=
  cf_X6_take_s11_3  (upd g_F ((4 : Int32)).toNatClampNeg (((x3 - x3 / (5 : Int64) * (5 : Int64)).toInt32) - (1 : Int32))) g_R g_C g_L m_rl m_lf m_ov (x3 / (5 : Int64))
def cf_X6_take_s11_5  (g_F : Nat → Int32) (g_R : Nat → Int32) (g_C : Nat → Int32) (g_L : Nat → Int32) (m_rl : Int32) (m_lf : Int32) (m_ov : Int32) (x3 : Int64) : (Nat → Int32) × (Nat → Int32) × (Nat → Int32) × (Nat → Int32) × Int32 × Int32 × Int32 :=
  cf_X6_take_s11_4  (upd g_F ((5 : Int32)).toNatClampNeg (((x3 - x3 / (5 : Int64) * (5 : Int64)).toInt32) - (1 : Int32))) g_R g_C g_L m_rl m_lf m_ov (x3 / (5 : Int64))
def cf_X6_take_s11_6  (g_F : Nat → Int32) (g_R : Nat → Int32) (g_C : Nat → Int32) (g_L : Nat → Int32) (m_rl : Int32) (m_lf : Int32) (m_ov : Int32) (x3 : Int64) : (Nat → Int32) × (Nat → Int32) × (Nat → Int32) × (Nat → Int32) × Int32 × Int32 × Int32 :=
  cf_X6_take_s11_5  (upd g_F ((6 : Int32)).toNatClampNeg (((x3 - x3 / (5 : Int64) * (5 : Int64)).toInt32) - (1 : Int32))) g_R g_C g_L m_rl m_lf m_ov (x3 / (5 : Int64))
def cf_X6_take_s11_7  (g_F : Nat → Int32) (g_R : Nat → Int32) (g_C : Nat → Int32) (g_L : Nat → Int32) (m_rl : Int32) (m_lf : Int32) (m_ov : Int32) (x3 : Int64) : (Nat → Int32) × (Nat → Int32) × (Nat → Int32) × (Nat → Int32) × Int32 × Int32 × Int32 :=
  cf_X6_take_s11_6  (upd g_F ((7 : Int32)).toNatClampNeg (((x3 - x3 / (5 : Int64) * (5 : Int64)).toInt32) - (1 : Int32))) g_R g_C g_L m_rl m_lf m_ov (x3 / (5 : Int64))
def cf_X6_take (g_F : Nat → Int32) (g_R : Nat → Int32) (g_C : Nat → Int32) (g_L : Nat → Int32) (m_rl : Int32) (m_lf : Int32) (m_ov : Int32) (a0 : Int64) : (Nat → Int32) × (Nat → Int32) × (Nat → Int32) × (Nat → Int32) × Int32 × Int32 × Int32 :=
  cf_X6_take_s11_7  g_F g_R g_C g_L m_rl m_lf m_ov a0
set_option maxHeartbeats 4000000 in
set_option maxRecDepth 100000 in
theorem c_X6_take (l : Launch) (dC : Nat → ClassId) (dI : Nat → Nat → Nat) (q6 qA qB qF qR qC qL qS qO qY qH qW qM : Nat) (cyI cyJ cyZ : ClassId) (m_th : Int32) (m_o : Int32) (m_f : Int32) (m_r : Int32) (m_b : Int32) (m_a : Int32) (u_F : Nat → Int32) (u_R : Nat → Int32) (g_F : Nat → Int32) (g_R : Nat → Int32) (g_C : Nat → Int32) (g_L : Nat → Int32) (m_rl : Int32) (m_lf : Int32) (m_ov : Int32) (m_pl : Int64) (g_S : Nat → Int64) (g_O : Nat → Int32) (g_Y : Nat → Int32) (g_H : Nat → Int32) (m_st : Int32) (g_W : Nat → Int32) (m_rm : Int32) (m_fs : Int32) (g_M : Nat → Int32) (sz : Nat) (a0 : Int64)   : Met l yX6_take wsX6_take ({ frames := 0, cells := 0, slots := 0, locals := 0 }) (mu_P [.ref q6, .long a0] sz (dC, dI) kcl (mo_W q6 qA qB qF qR qC qL qS qO qY qH qW qM cyI cyJ cyZ m_th m_o m_f m_r m_b m_a u_F u_R g_F g_R g_C g_L m_rl m_lf m_ov m_pl g_S g_O g_Y g_H m_st g_W m_rm m_fs g_M) [(cyI, .int), (cyJ, .long), (cyZ, .boolean)]) (mu_Q none (dC, dI) kcl (mo_W q6 qA qB qF qR qC qL qS qO qY qH qW qM cyI cyJ cyZ m_th m_o m_f m_r m_b m_a u_F u_R ((cf_X6_take g_F g_R g_C g_L m_rl m_lf m_ov a0).1) ((cf_X6_take g_F g_R g_C g_L m_rl m_lf m_ov a0).2.1) ((cf_X6_take g_F g_R g_C g_L m_rl m_lf m_ov a0).2.2.1) ((cf_X6_take g_F g_R g_C g_L m_rl m_lf m_ov a0).2.2.2.1) ((cf_X6_take g_F g_R g_C g_L m_rl m_lf m_ov a0).2.2.2.2.1) ((cf_X6_take g_F g_R g_C g_L m_rl m_lf m_ov a0).2.2.2.2.2.1) ((cf_X6_take g_F g_R g_C g_L m_rl m_lf m_ov a0).2.2.2.2.2.2) m_pl g_S g_O g_Y g_H m_st g_W m_rm m_fs g_M) (va_A (mo_W q6 qA qB qF qR qC qL qS qO qY qH qW qM cyI cyJ cyZ m_th m_o m_f m_r m_b m_a u_F u_R g_F g_R g_C g_L m_rl m_lf m_ov m_pl g_S g_O g_Y g_H m_st g_W m_rm m_fs g_M) sz)) 0 0 (va_A (mo_W q6 qA qB qF qR qC qL qS qO qY qH qW qM cyI cyJ cyZ m_th m_o m_f m_r m_b m_a u_F u_R g_F g_R g_C g_L m_rl m_lf m_ov m_pl g_S g_O g_Y g_H m_st g_W m_rm m_fs g_M) sz) := by
  refine Met.ofW (cc := cX6_take) (maxL := 6) (ret := none) (by decide) rfl ?_
  intro p e s m args below meth c s₁ B hml hv
  obtain ⟨rfl, hsz, hP, hK, hD0⟩ := hv
  have hx := B.exec
  have hb := B.bytes
  have hr := B.returns
  have hts := atoms_spec (ws := wsX6_take) B.pre
  have hown : s.vm.findClass RX6 = some m.cls := findClass_of_methodNamed B.named
  have hlocks := B.notSynchronized
  subst hsz
  have hD := hD0.self (sz := s.heap.size)
  generalize hAe : va_A (mo_W q6 qA qB qF qR qC qL qS qO qY qH qW qM cyI cyJ cyZ m_th m_o m_f m_r m_b m_a u_F u_R g_F g_R g_C g_L m_rl m_lf m_ov m_pl g_S g_O g_Y g_H m_st g_W m_rm m_fs g_M) s.heap.size = A at hD ⊢
  have hA : ∀ q : Nat, s.heap.size ≤ q → A q := fun q h => by rw [← hAe]; exact Or.inr h
  have hP : va_P (dC, dI) kcl (mo_W q6 qA qB qF qR qC qL qS qO qY qH qW qM cyI cyJ cyZ m_th m_o m_f m_r m_b m_a u_F u_R g_F g_R g_C g_L m_rl m_lf m_ov m_pl g_S g_O g_Y g_H m_st g_W m_rm m_fs g_M) s.heap := hP
  have h0_ : (Cond.fieldLink RX6 29 "ColourTrierModel" "field" "[I").before _ s = true := hts _ (by decide +kernel)
  have h1_ : ∀ w ∈ u_ws RX6 TX6 25, w ∈ wsX6_take := fun w h => List.mem_cons_of_mem _ (List.mem_append_right _ h)
  have h2_ : (Cond.constantLong RX6 90 (5)).before _ s = true := hts _ (by decide +kernel)
  have h3_ : (Cond.fieldLink RX6 38 "ColourTrierModel" "looked" "[I").before _ s = true := hts _ (by decide +kernel)
  have h4_ : (Cond.constantLong RX6 92 (3)).before _ s = true := hts _ (by decide +kernel)
  have h5_ : (Cond.fieldLink RX6 35 "ColourTrierModel" "colour" "[I").before _ s = true := hts _ (by decide +kernel)
  have h6_ : (Cond.fieldLink RX6 32 "ColourTrierModel" "root" "[I").before _ s = true := hts _ (by decide +kernel)
  have h7_ : (Cond.constantLong RX6 88 (4)).before _ s = true := hts _ (by decide +kernel)
  have h8_ : (Cond.fieldLink RX6 70 "ColourTrierModel" "rootsLooked" "I").before _ s = true := hts _ (by decide +kernel)
  have h9_ : (Cond.constantLong RX6 86 (9)).before _ s = true := hts _ (by decide +kernel)
  have h10_ : (Cond.fieldLink RX6 76 "ColourTrierModel" "left" "I").before _ s = true := hts _ (by decide +kernel)
  have h11_ : (Cond.fieldLink RX6 79 "ColourTrierModel" "isOver" "Z").before _ s = true := hts _ (by decide +kernel)
  generalize hR : (cf_X6_take g_F g_R g_C g_L m_rl m_lf m_ov a0) = R
  have Ks98_m1 : ∀  (g_F : Nat → Int32) (g_R : Nat → Int32) (g_C : Nat → Int32) (g_L : Nat → Int32) (m_rl : Int32) (m_lf : Int32) (m_ov : Int32) (x3 : Int64) (H : Heap) (locs : List Loc) (ls : Array Slot), va_P (dC, dI) kcl (mo_W q6 qA qB qF qR qC qL qS qO qY qH qW qM cyI cyJ cyZ m_th m_o m_f m_r m_b m_a u_F u_R g_F g_R g_C g_L m_rl m_lf m_ov m_pl g_S g_O g_Y g_H m_st g_W m_rm m_fs g_M) H → va_D A (mo_W q6 qA qB qF qR qC qL qS qO qY qH qW qM cyI cyJ cyZ m_th m_o m_f m_r m_b m_a u_F u_R g_F g_R g_C g_L m_rl m_lf m_ov m_pl g_S g_O g_Y g_H m_st g_W m_rm m_fs g_M) → va_S A s.heap H locs → lv_has ls 6 [(0, .ref q6), (3, .long x3), (5, .int (-1 : Int32))] → cf_X6_take_s98_m1  g_F g_R g_C g_L m_rl m_lf m_ov x3 = R → W p l e (headSpec wsX6_take ({ frames := 0, cells := 0, slots := 0, locals := 0 })).room s m ([.ref q6, .long a0] : List Value).toArray below meth c H locs 0 0 (MQ below (mu_Q none (dC, dI) kcl (mo_W q6 qA qB qF qR qC qL qS qO qY qH qW qM cyI cyJ cyZ m_th m_o m_f m_r m_b m_a u_F u_R R.1 R.2.1 R.2.2.1 R.2.2.2.1 R.2.2.2.2.1 R.2.2.2.2.2.1 R.2.2.2.2.2.2 m_pl g_S g_O g_Y g_H m_st g_W m_rm m_fs g_M) A) ([.ref q6, .long a0] : List Value).toArray s 0 0 A) (F0 m 98 ls []) := by
    intro  g_F g_R g_C g_L m_rl m_lf m_ov x3 H locs ls hP hD hS hl hR
    unfold cf_X6_take_s98_m1 at hR
    refine lv_iload hx hb dX6_take_98 (lv_at hl 2 rfl) ?_
    refine lv_if_lt (tgt := 130) hx hb dX6_take_100 (by decide) (fun _ => ?_) (fun c_0 => absurd c_0 (by decide +kernel))
    refine lv_aload_n hx hb dX6_take_130 rfl (lv_at hl 0 rfl) ?_
    refine lv_lload_n hx hb dX6_take_131 rfl (lv_at hl 1 rfl) ?_
    refine lv_ldc2 (v := (4 : Int64)) hx hb hown h7_ dX6_take_132 ?_
    refine lv_lrem hx hb dX6_take_135 (by decide +kernel) ?_
    refine lv_l2i (v := ((x3 - x3 / (4 : Int64) * (4 : Int64)).toInt32)) hx hb dX6_take_136 rfl ?_
    refine va_put (D := (dC, dI)) (ci := 4) (v := .int ((x3 - x3 / (4 : Int64) * (4 : Int64)).toInt32)) (ty := .int) (C := RX6) (T := TX6) (N := 25) hx hb hts h1_ tyX6 tyX6_ok nmX6 hown hK hP hD hS 0 rfl rfl 12 (by decide) h8_ (fun _ h9 => h9) rfl (by decide +kernel) rfl rfl (Nat.le_of_ble_eq_true rfl) dX6_take_137 (fun H locs hP hD hS => ?_)
    have hP : va_P (dC, dI) kcl (mo_W q6 qA qB qF qR qC qL qS qO qY qH qW qM cyI cyJ cyZ m_th m_o m_f m_r m_b m_a u_F u_R g_F g_R g_C g_L ((x3 - x3 / (4 : Int64) * (4 : Int64)).toInt32) m_lf m_ov m_pl g_S g_O g_Y g_H m_st g_W m_rm m_fs g_M) H := hP
    have hD : va_D A (mo_W q6 qA qB qF qR qC qL qS qO qY qH qW qM cyI cyJ cyZ m_th m_o m_f m_r m_b m_a u_F u_R g_F g_R g_C g_L ((x3 - x3 / (4 : Int64) * (4 : Int64)).toInt32) m_lf m_ov m_pl g_S g_O g_Y g_H m_st g_W m_rm m_fs g_M) := hD
    refine lv_lload_n hx hb dX6_take_140 rfl (lv_at hl 1 rfl) ?_
    refine lv_ldc2 (v := (4 : Int64)) hx hb hown h7_ dX6_take_141 ?_
    refine lv_ldiv hx hb dX6_take_144 (by decide +kernel) ?_
    refine lv_lstore_n (lv' := [(3, .long (x3 / (4 : Int64))), (0, .ref q6), (5, .int (-1 : Int32))]) hx hb dX6_take_145 rfl hl (by decide) rfl (fun ls hl => ?_)
    refine lv_aload_n hx hb dX6_take_146 rfl (lv_at hl 1 rfl) ?_
    refine lv_lload_n hx hb dX6_take_147 rfl (lv_at hl 0 rfl) ?_
    refine lv_ldc2 (v := (9 : Int64)) hx hb hown h9_ dX6_take_148 ?_
    refine lv_lrem hx hb dX6_take_151 (by decide +kernel) ?_
    refine lv_l2i (v := (((x3 / (4 : Int64)) - (x3 / (4 : Int64)) / (9 : Int64) * (9 : Int64)).toInt32)) hx hb dX6_take_152 rfl ?_
    refine va_put (D := (dC, dI)) (ci := 4) (v := .int (((x3 / (4 : Int64)) - (x3 / (4 : Int64)) / (9 : Int64) * (9 : Int64)).toInt32)) (ty := .int) (C := RX6) (T := TX6) (N := 25) hx hb hts h1_ tyX6 tyX6_ok nmX6 hown hK hP hD hS 0 rfl rfl 13 (by decide) h10_ (fun _ h9 => h9) rfl (by decide +kernel) rfl rfl (Nat.le_of_ble_eq_true rfl) dX6_take_153 (fun H locs hP hD hS => ?_)
    have hP : va_P (dC, dI) kcl (mo_W q6 qA qB qF qR qC qL qS qO qY qH qW qM cyI cyJ cyZ m_th m_o m_f m_r m_b m_a u_F u_R g_F g_R g_C g_L ((x3 - x3 / (4 : Int64) * (4 : Int64)).toInt32) (((x3 / (4 : Int64)) - (x3 / (4 : Int64)) / (9 : Int64) * (9 : Int64)).toInt32) m_ov m_pl g_S g_O g_Y g_H m_st g_W m_rm m_fs g_M) H := hP
    have hD : va_D A (mo_W q6 qA qB qF qR qC qL qS qO qY qH qW qM cyI cyJ cyZ m_th m_o m_f m_r m_b m_a u_F u_R g_F g_R g_C g_L ((x3 - x3 / (4 : Int64) * (4 : Int64)).toInt32) (((x3 / (4 : Int64)) - (x3 / (4 : Int64)) / (9 : Int64) * (9 : Int64)).toInt32) m_ov m_pl g_S g_O g_Y g_H m_st g_W m_rm m_fs g_M) := hD
    refine lv_aload_n hx hb dX6_take_156 rfl (lv_at hl 1 rfl) ?_
    refine lv_lload_n hx hb dX6_take_157 rfl (lv_at hl 0 rfl) ?_
    refine lv_ldc2 (v := (9 : Int64)) hx hb hown h9_ dX6_take_158 ?_
    refine lv_ldiv hx hb dX6_take_161 (by decide +kernel) ?_
    refine lv_lconst (v := (1 : Int64)) hx hb dX6_take_162 (by decide +kernel) ?_
    refine W.lcmp hx hb dX6_take_163 ?_
    refine lv_if_ne (tgt := 171) hx hb dX6_take_164 (by decide) (fun c_1 => ?_) (fun c_1 => ?_)
    · rw [if_neg c_1] at hR
      refine lv_iconst (v := (0 : Int32)) hx hb dX6_take_171 (by decide +kernel) ?_
      refine va_put (D := (dC, dI)) (ci := 4) (v := .int (0 : Int32)) (ty := .boolean) (C := RX6) (T := TX6) (N := 25) hx hb hts h1_ tyX6 tyX6_ok nmX6 hown hK hP hD hS 0 rfl rfl 14 (by decide) h11_ (fun _ h9 => h9) rfl (by decide +kernel) (by decide +kernel) (by decide +kernel) (Nat.le_of_ble_eq_true rfl) dX6_take_172 (fun H locs hP hD hS => ?_)
      have hP : va_P (dC, dI) kcl (mo_W q6 qA qB qF qR qC qL qS qO qY qH qW qM cyI cyJ cyZ m_th m_o m_f m_r m_b m_a u_F u_R g_F g_R g_C g_L ((x3 - x3 / (4 : Int64) * (4 : Int64)).toInt32) (((x3 / (4 : Int64)) - (x3 / (4 : Int64)) / (9 : Int64) * (9 : Int64)).toInt32) (0 : Int32) m_pl g_S g_O g_Y g_H m_st g_W m_rm m_fs g_M) H := hP
      have hD : va_D A (mo_W q6 qA qB qF qR qC qL qS qO qY qH qW qM cyI cyJ cyZ m_th m_o m_f m_r m_b m_a u_F u_R g_F g_R g_C g_L ((x3 - x3 / (4 : Int64) * (4 : Int64)).toInt32) (((x3 / (4 : Int64)) - (x3 / (4 : Int64)) / (9 : Int64) * (9 : Int64)).toInt32) (0 : Int32) m_pl g_S g_O g_Y g_H m_st g_W m_rm m_fs g_M) := hD
      rw [← hR]
      exact W.vret hx hb hr (fun t ht _ => ⟨rfl, by rw [ht]; exact hP, hS.F ht⟩) hS.2.2 dX6_take_175
    · rw [if_pos c_1] at hR
      refine lv_iconst (v := (1 : Int32)) hx hb dX6_take_167 (by decide +kernel) ?_
      refine lv_goto (tgt := 172) hx hb dX6_take_168 (by decide) ?_
      refine va_put (D := (dC, dI)) (ci := 4) (v := .int (1 : Int32)) (ty := .boolean) (C := RX6) (T := TX6) (N := 25) hx hb hts h1_ tyX6 tyX6_ok nmX6 hown hK hP hD hS 0 rfl rfl 14 (by decide) h11_ (fun _ h9 => h9) rfl (by decide +kernel) (by decide +kernel) (by decide +kernel) (Nat.le_of_ble_eq_true rfl) dX6_take_172 (fun H locs hP hD hS => ?_)
      have hP : va_P (dC, dI) kcl (mo_W q6 qA qB qF qR qC qL qS qO qY qH qW qM cyI cyJ cyZ m_th m_o m_f m_r m_b m_a u_F u_R g_F g_R g_C g_L ((x3 - x3 / (4 : Int64) * (4 : Int64)).toInt32) (((x3 / (4 : Int64)) - (x3 / (4 : Int64)) / (9 : Int64) * (9 : Int64)).toInt32) (1 : Int32) m_pl g_S g_O g_Y g_H m_st g_W m_rm m_fs g_M) H := hP
      have hD : va_D A (mo_W q6 qA qB qF qR qC qL qS qO qY qH qW qM cyI cyJ cyZ m_th m_o m_f m_r m_b m_a u_F u_R g_F g_R g_C g_L ((x3 - x3 / (4 : Int64) * (4 : Int64)).toInt32) (((x3 / (4 : Int64)) - (x3 / (4 : Int64)) / (9 : Int64) * (9 : Int64)).toInt32) (1 : Int32) m_pl g_S g_O g_Y g_H m_st g_W m_rm m_fs g_M) := hD
      rw [← hR]
      exact W.vret hx hb hr (fun t ht _ => ⟨rfl, by rw [ht]; exact hP, hS.F ht⟩) hS.2.2 dX6_take_175
  have Ks98_0 : ∀  (g_F : Nat → Int32) (g_R : Nat → Int32) (g_C : Nat → Int32) (g_L : Nat → Int32) (m_rl : Int32) (m_lf : Int32) (m_ov : Int32) (x3 : Int64) (H : Heap) (locs : List Loc) (ls : Array Slot), va_P (dC, dI) kcl (mo_W q6 qA qB qF qR qC qL qS qO qY qH qW qM cyI cyJ cyZ m_th m_o m_f m_r m_b m_a u_F u_R g_F g_R g_C g_L m_rl m_lf m_ov m_pl g_S g_O g_Y g_H m_st g_W m_rm m_fs g_M) H → va_D A (mo_W q6 qA qB qF qR qC qL qS qO qY qH qW qM cyI cyJ cyZ m_th m_o m_f m_r m_b m_a u_F u_R g_F g_R g_C g_L m_rl m_lf m_ov m_pl g_S g_O g_Y g_H m_st g_W m_rm m_fs g_M) → va_S A s.heap H locs → lv_has ls 6 [(0, .ref q6), (3, .long x3), (5, .int (0 : Int32))] → cf_X6_take_s98_0  g_F g_R g_C g_L m_rl m_lf m_ov x3 = R → W p l e (headSpec wsX6_take ({ frames := 0, cells := 0, slots := 0, locals := 0 })).room s m ([.ref q6, .long a0] : List Value).toArray below meth c H locs 0 0 (MQ below (mu_Q none (dC, dI) kcl (mo_W q6 qA qB qF qR qC qL qS qO qY qH qW qM cyI cyJ cyZ m_th m_o m_f m_r m_b m_a u_F u_R R.1 R.2.1 R.2.2.1 R.2.2.2.1 R.2.2.2.2.1 R.2.2.2.2.2.1 R.2.2.2.2.2.2 m_pl g_S g_O g_Y g_H m_st g_W m_rm m_fs g_M) A) ([.ref q6, .long a0] : List Value).toArray s 0 0 A) (F0 m 98 ls []) := by
    intro  g_F g_R g_C g_L m_rl m_lf m_ov x3 H locs ls hP hD hS hl hR
    unfold cf_X6_take_s98_0 at hR
    refine lv_iload hx hb dX6_take_98 (lv_at hl 2 rfl) ?_
    refine lv_if_lt (tgt := 130) hx hb dX6_take_100 (by decide) (fun c_0 => absurd c_0 (by decide +kernel)) (fun _ => ?_)
    refine lv_aload_n hx hb dX6_take_103 rfl (lv_at hl 0 rfl) ?_
    refine va_get (D := (dC, dI)) (ci := 4) (v := .ref qR) (C := RX6) (T := TX6) (N := 25) hx hb hts h1_ hown hK hP 0 rfl rfl 9 (by decide) h6_ (fun _ h9 => h9) rfl dX6_take_104 ?_
    refine lv_iload hx hb dX6_take_107 (lv_at hl 2 rfl) ?_
    refine lv_lload_n hx hb dX6_take_109 rfl (lv_at hl 1 rfl) ?_
    refine lv_ldc2 (v := (5 : Int64)) hx hb hown h2_ dX6_take_110 ?_
    refine lv_lrem hx hb dX6_take_113 (by decide +kernel) ?_
    refine lv_l2i (v := ((x3 - x3 / (5 : Int64) * (5 : Int64)).toInt32)) hx hb dX6_take_114 rfl ?_
    refine lv_iconst (v := (1 : Int32)) hx hb dX6_take_115 (by decide +kernel) ?_
    refine lv_isub hx hb dX6_take_116 ?_
    refine va_iast hx hb hK hP hD hS 4 0 rfl rfl (by unfold vp_in; decide +kernel) dX6_take_117 (fun H locs hP hD hS => ?_)
    have hP : va_P (dC, dI) kcl (mo_W q6 qA qB qF qR qC qL qS qO qY qH qW qM cyI cyJ cyZ m_th m_o m_f m_r m_b m_a u_F u_R g_F (upd g_R ((0 : Int32)).toNatClampNeg (((x3 - x3 / (5 : Int64) * (5 : Int64)).toInt32) - (1 : Int32))) g_C g_L m_rl m_lf m_ov m_pl g_S g_O g_Y g_H m_st g_W m_rm m_fs g_M) H := hP
    have hD : va_D A (mo_W q6 qA qB qF qR qC qL qS qO qY qH qW qM cyI cyJ cyZ m_th m_o m_f m_r m_b m_a u_F u_R g_F (upd g_R ((0 : Int32)).toNatClampNeg (((x3 - x3 / (5 : Int64) * (5 : Int64)).toInt32) - (1 : Int32))) g_C g_L m_rl m_lf m_ov m_pl g_S g_O g_Y g_H m_st g_W m_rm m_fs g_M) := hD
    refine lv_lload_n hx hb dX6_take_118 rfl (lv_at hl 1 rfl) ?_
    refine lv_ldc2 (v := (5 : Int64)) hx hb hown h2_ dX6_take_119 ?_
    refine lv_ldiv hx hb dX6_take_122 (by decide +kernel) ?_
    refine lv_lstore_n (lv' := [(3, .long (x3 / (5 : Int64))), (0, .ref q6), (5, .int (0 : Int32))]) hx hb dX6_take_123 rfl hl (by decide) rfl (fun ls hl => ?_)
    refine lv_iinc (v := (-1 : Int32)) (lv' := [(5, .int (-1 : Int32)), (3, .long (x3 / (5 : Int64))), (0, .ref q6)]) hx hb dX6_take_124 hl (k := 2) rfl (by decide +kernel) (by decide) rfl (fun ls hl => ?_)
    refine lv_goto (tgt := 98) hx hb dX6_take_127 (by decide) ?_
    exact Ks98_m1  g_F (upd g_R ((0 : Int32)).toNatClampNeg (((x3 - x3 / (5 : Int64) * (5 : Int64)).toInt32) - (1 : Int32))) g_C g_L m_rl m_lf m_ov (x3 / (5 : Int64)) H locs ls hP hD hS (lv_sub hl [2, 1, 0] rfl) hR
  have Ks98_1 : ∀  (g_F : Nat → Int32) (g_R : Nat → Int32) (g_C : Nat → Int32) (g_L : Nat → Int32) (m_rl : Int32) (m_lf : Int32) (m_ov : Int32) (x3 : Int64) (H : Heap) (locs : List Loc) (ls : Array Slot), va_P (dC, dI) kcl (mo_W q6 qA qB qF qR qC qL qS qO qY qH qW qM cyI cyJ cyZ m_th m_o m_f m_r m_b m_a u_F u_R g_F g_R g_C g_L m_rl m_lf m_ov m_pl g_S g_O g_Y g_H m_st g_W m_rm m_fs g_M) H → va_D A (mo_W q6 qA qB qF qR qC qL qS qO qY qH qW qM cyI cyJ cyZ m_th m_o m_f m_r m_b m_a u_F u_R g_F g_R g_C g_L m_rl m_lf m_ov m_pl g_S g_O g_Y g_H m_st g_W m_rm m_fs g_M) → va_S A s.heap H locs → lv_has ls 6 [(0, .ref q6), (3, .long x3), (5, .int (1 : Int32))] → cf_X6_take_s98_1  g_F g_R g_C g_L m_rl m_lf m_ov x3 = R → W p l e (headSpec wsX6_take ({ frames := 0, cells := 0, slots := 0, locals := 0 })).room s m ([.ref q6, .long a0] : List Value).toArray below meth c H locs 0 0 (MQ below (mu_Q none (dC, dI) kcl (mo_W q6 qA qB qF qR qC qL qS qO qY qH qW qM cyI cyJ cyZ m_th m_o m_f m_r m_b m_a u_F u_R R.1 R.2.1 R.2.2.1 R.2.2.2.1 R.2.2.2.2.1 R.2.2.2.2.2.1 R.2.2.2.2.2.2 m_pl g_S g_O g_Y g_H m_st g_W m_rm m_fs g_M) A) ([.ref q6, .long a0] : List Value).toArray s 0 0 A) (F0 m 98 ls []) := by
    intro  g_F g_R g_C g_L m_rl m_lf m_ov x3 H locs ls hP hD hS hl hR
    unfold cf_X6_take_s98_1 at hR
    refine lv_iload hx hb dX6_take_98 (lv_at hl 2 rfl) ?_
    refine lv_if_lt (tgt := 130) hx hb dX6_take_100 (by decide) (fun c_0 => absurd c_0 (by decide +kernel)) (fun _ => ?_)
    refine lv_aload_n hx hb dX6_take_103 rfl (lv_at hl 0 rfl) ?_
    refine va_get (D := (dC, dI)) (ci := 4) (v := .ref qR) (C := RX6) (T := TX6) (N := 25) hx hb hts h1_ hown hK hP 0 rfl rfl 9 (by decide) h6_ (fun _ h9 => h9) rfl dX6_take_104 ?_
    refine lv_iload hx hb dX6_take_107 (lv_at hl 2 rfl) ?_
    refine lv_lload_n hx hb dX6_take_109 rfl (lv_at hl 1 rfl) ?_
    refine lv_ldc2 (v := (5 : Int64)) hx hb hown h2_ dX6_take_110 ?_
    refine lv_lrem hx hb dX6_take_113 (by decide +kernel) ?_
    refine lv_l2i (v := ((x3 - x3 / (5 : Int64) * (5 : Int64)).toInt32)) hx hb dX6_take_114 rfl ?_
    refine lv_iconst (v := (1 : Int32)) hx hb dX6_take_115 (by decide +kernel) ?_
    refine lv_isub hx hb dX6_take_116 ?_
    refine va_iast hx hb hK hP hD hS 4 0 rfl rfl (by unfold vp_in; decide +kernel) dX6_take_117 (fun H locs hP hD hS => ?_)
    have hP : va_P (dC, dI) kcl (mo_W q6 qA qB qF qR qC qL qS qO qY qH qW qM cyI cyJ cyZ m_th m_o m_f m_r m_b m_a u_F u_R g_F (upd g_R ((1 : Int32)).toNatClampNeg (((x3 - x3 / (5 : Int64) * (5 : Int64)).toInt32) - (1 : Int32))) g_C g_L m_rl m_lf m_ov m_pl g_S g_O g_Y g_H m_st g_W m_rm m_fs g_M) H := hP
    have hD : va_D A (mo_W q6 qA qB qF qR qC qL qS qO qY qH qW qM cyI cyJ cyZ m_th m_o m_f m_r m_b m_a u_F u_R g_F (upd g_R ((1 : Int32)).toNatClampNeg (((x3 - x3 / (5 : Int64) * (5 : Int64)).toInt32) - (1 : Int32))) g_C g_L m_rl m_lf m_ov m_pl g_S g_O g_Y g_H m_st g_W m_rm m_fs g_M) := hD
    refine lv_lload_n hx hb dX6_take_118 rfl (lv_at hl 1 rfl) ?_
    refine lv_ldc2 (v := (5 : Int64)) hx hb hown h2_ dX6_take_119 ?_
    refine lv_ldiv hx hb dX6_take_122 (by decide +kernel) ?_
    refine lv_lstore_n (lv' := [(3, .long (x3 / (5 : Int64))), (0, .ref q6), (5, .int (1 : Int32))]) hx hb dX6_take_123 rfl hl (by decide) rfl (fun ls hl => ?_)
    refine lv_iinc (v := (0 : Int32)) (lv' := [(5, .int (0 : Int32)), (3, .long (x3 / (5 : Int64))), (0, .ref q6)]) hx hb dX6_take_124 hl (k := 2) rfl (by decide +kernel) (by decide) rfl (fun ls hl => ?_)
    refine lv_goto (tgt := 98) hx hb dX6_take_127 (by decide) ?_
    exact Ks98_0  g_F (upd g_R ((1 : Int32)).toNatClampNeg (((x3 - x3 / (5 : Int64) * (5 : Int64)).toInt32) - (1 : Int32))) g_C g_L m_rl m_lf m_ov (x3 / (5 : Int64)) H locs ls hP hD hS (lv_sub hl [2, 1, 0] rfl) hR
  have Ks98_2 : ∀  (g_F : Nat → Int32) (g_R : Nat → Int32) (g_C : Nat → Int32) (g_L : Nat → Int32) (m_rl : Int32) (m_lf : Int32) (m_ov : Int32) (x3 : Int64) (H : Heap) (locs : List Loc) (ls : Array Slot), va_P (dC, dI) kcl (mo_W q6 qA qB qF qR qC qL qS qO qY qH qW qM cyI cyJ cyZ m_th m_o m_f m_r m_b m_a u_F u_R g_F g_R g_C g_L m_rl m_lf m_ov m_pl g_S g_O g_Y g_H m_st g_W m_rm m_fs g_M) H → va_D A (mo_W q6 qA qB qF qR qC qL qS qO qY qH qW qM cyI cyJ cyZ m_th m_o m_f m_r m_b m_a u_F u_R g_F g_R g_C g_L m_rl m_lf m_ov m_pl g_S g_O g_Y g_H m_st g_W m_rm m_fs g_M) → va_S A s.heap H locs → lv_has ls 6 [(0, .ref q6), (3, .long x3), (5, .int (2 : Int32))] → cf_X6_take_s98_2  g_F g_R g_C g_L m_rl m_lf m_ov x3 = R → W p l e (headSpec wsX6_take ({ frames := 0, cells := 0, slots := 0, locals := 0 })).room s m ([.ref q6, .long a0] : List Value).toArray below meth c H locs 0 0 (MQ below (mu_Q none (dC, dI) kcl (mo_W q6 qA qB qF qR qC qL qS qO qY qH qW qM cyI cyJ cyZ m_th m_o m_f m_r m_b m_a u_F u_R R.1 R.2.1 R.2.2.1 R.2.2.2.1 R.2.2.2.2.1 R.2.2.2.2.2.1 R.2.2.2.2.2.2 m_pl g_S g_O g_Y g_H m_st g_W m_rm m_fs g_M) A) ([.ref q6, .long a0] : List Value).toArray s 0 0 A) (F0 m 98 ls []) := by
    intro  g_F g_R g_C g_L m_rl m_lf m_ov x3 H locs ls hP hD hS hl hR
    unfold cf_X6_take_s98_2 at hR
    refine lv_iload hx hb dX6_take_98 (lv_at hl 2 rfl) ?_
    refine lv_if_lt (tgt := 130) hx hb dX6_take_100 (by decide) (fun c_0 => absurd c_0 (by decide +kernel)) (fun _ => ?_)
    refine lv_aload_n hx hb dX6_take_103 rfl (lv_at hl 0 rfl) ?_
    refine va_get (D := (dC, dI)) (ci := 4) (v := .ref qR) (C := RX6) (T := TX6) (N := 25) hx hb hts h1_ hown hK hP 0 rfl rfl 9 (by decide) h6_ (fun _ h9 => h9) rfl dX6_take_104 ?_
    refine lv_iload hx hb dX6_take_107 (lv_at hl 2 rfl) ?_
    refine lv_lload_n hx hb dX6_take_109 rfl (lv_at hl 1 rfl) ?_
    refine lv_ldc2 (v := (5 : Int64)) hx hb hown h2_ dX6_take_110 ?_
    refine lv_lrem hx hb dX6_take_113 (by decide +kernel) ?_
    refine lv_l2i (v := ((x3 - x3 / (5 : Int64) * (5 : Int64)).toInt32)) hx hb dX6_take_114 rfl ?_
    refine lv_iconst (v := (1 : Int32)) hx hb dX6_take_115 (by decide +kernel) ?_
    refine lv_isub hx hb dX6_take_116 ?_
    refine va_iast hx hb hK hP hD hS 4 0 rfl rfl (by unfold vp_in; decide +kernel) dX6_take_117 (fun H locs hP hD hS => ?_)
    have hP : va_P (dC, dI) kcl (mo_W q6 qA qB qF qR qC qL qS qO qY qH qW qM cyI cyJ cyZ m_th m_o m_f m_r m_b m_a u_F u_R g_F (upd g_R ((2 : Int32)).toNatClampNeg (((x3 - x3 / (5 : Int64) * (5 : Int64)).toInt32) - (1 : Int32))) g_C g_L m_rl m_lf m_ov m_pl g_S g_O g_Y g_H m_st g_W m_rm m_fs g_M) H := hP
    have hD : va_D A (mo_W q6 qA qB qF qR qC qL qS qO qY qH qW qM cyI cyJ cyZ m_th m_o m_f m_r m_b m_a u_F u_R g_F (upd g_R ((2 : Int32)).toNatClampNeg (((x3 - x3 / (5 : Int64) * (5 : Int64)).toInt32) - (1 : Int32))) g_C g_L m_rl m_lf m_ov m_pl g_S g_O g_Y g_H m_st g_W m_rm m_fs g_M) := hD
    refine lv_lload_n hx hb dX6_take_118 rfl (lv_at hl 1 rfl) ?_
    refine lv_ldc2 (v := (5 : Int64)) hx hb hown h2_ dX6_take_119 ?_
    refine lv_ldiv hx hb dX6_take_122 (by decide +kernel) ?_
    refine lv_lstore_n (lv' := [(3, .long (x3 / (5 : Int64))), (0, .ref q6), (5, .int (2 : Int32))]) hx hb dX6_take_123 rfl hl (by decide) rfl (fun ls hl => ?_)
    refine lv_iinc (v := (1 : Int32)) (lv' := [(5, .int (1 : Int32)), (3, .long (x3 / (5 : Int64))), (0, .ref q6)]) hx hb dX6_take_124 hl (k := 2) rfl (by decide +kernel) (by decide) rfl (fun ls hl => ?_)
    refine lv_goto (tgt := 98) hx hb dX6_take_127 (by decide) ?_
    exact Ks98_1  g_F (upd g_R ((2 : Int32)).toNatClampNeg (((x3 - x3 / (5 : Int64) * (5 : Int64)).toInt32) - (1 : Int32))) g_C g_L m_rl m_lf m_ov (x3 / (5 : Int64)) H locs ls hP hD hS (lv_sub hl [2, 1, 0] rfl) hR
  have Ks46_m1 : ∀  (g_F : Nat → Int32) (g_R : Nat → Int32) (g_C : Nat → Int32) (g_L : Nat → Int32) (m_rl : Int32) (m_lf : Int32) (m_ov : Int32) (x3 : Int64) (H : Heap) (locs : List Loc) (ls : Array Slot), va_P (dC, dI) kcl (mo_W q6 qA qB qF qR qC qL qS qO qY qH qW qM cyI cyJ cyZ m_th m_o m_f m_r m_b m_a u_F u_R g_F g_R g_C g_L m_rl m_lf m_ov m_pl g_S g_O g_Y g_H m_st g_W m_rm m_fs g_M) H → va_D A (mo_W q6 qA qB qF qR qC qL qS qO qY qH qW qM cyI cyJ cyZ m_th m_o m_f m_r m_b m_a u_F u_R g_F g_R g_C g_L m_rl m_lf m_ov m_pl g_S g_O g_Y g_H m_st g_W m_rm m_fs g_M) → va_S A s.heap H locs → lv_has ls 6 [(0, .ref q6), (3, .long x3), (5, .int (-1 : Int32))] → cf_X6_take_s46_m1  g_F g_R g_C g_L m_rl m_lf m_ov x3 = R → W p l e (headSpec wsX6_take ({ frames := 0, cells := 0, slots := 0, locals := 0 })).room s m ([.ref q6, .long a0] : List Value).toArray below meth c H locs 0 0 (MQ below (mu_Q none (dC, dI) kcl (mo_W q6 qA qB qF qR qC qL qS qO qY qH qW qM cyI cyJ cyZ m_th m_o m_f m_r m_b m_a u_F u_R R.1 R.2.1 R.2.2.1 R.2.2.2.1 R.2.2.2.2.1 R.2.2.2.2.2.1 R.2.2.2.2.2.2 m_pl g_S g_O g_Y g_H m_st g_W m_rm m_fs g_M) A) ([.ref q6, .long a0] : List Value).toArray s 0 0 A) (F0 m 46 ls []) := by
    intro  g_F g_R g_C g_L m_rl m_lf m_ov x3 H locs ls hP hD hS hl hR
    unfold cf_X6_take_s46_m1 at hR
    refine lv_iload hx hb dX6_take_46 (lv_at hl 2 rfl) ?_
    refine lv_if_lt (tgt := 95) hx hb dX6_take_48 (by decide) (fun _ => ?_) (fun c_0 => absurd c_0 (by decide +kernel))
    refine lv_iconst (v := (2 : Int32)) hx hb dX6_take_95 (by decide +kernel) ?_
    refine lv_istore (lv' := [(5, .int (2 : Int32)), (0, .ref q6), (3, .long x3)]) hx hb dX6_take_96 hl (by decide) rfl (fun ls hl => ?_)
    exact Ks98_2  g_F g_R g_C g_L m_rl m_lf m_ov x3 H locs ls hP hD hS (lv_sub hl [1, 2, 0] rfl) hR
  have Ks46_0 : ∀  (g_F : Nat → Int32) (g_R : Nat → Int32) (g_C : Nat → Int32) (g_L : Nat → Int32) (m_rl : Int32) (m_lf : Int32) (m_ov : Int32) (x3 : Int64) (H : Heap) (locs : List Loc) (ls : Array Slot), va_P (dC, dI) kcl (mo_W q6 qA qB qF qR qC qL qS qO qY qH qW qM cyI cyJ cyZ m_th m_o m_f m_r m_b m_a u_F u_R g_F g_R g_C g_L m_rl m_lf m_ov m_pl g_S g_O g_Y g_H m_st g_W m_rm m_fs g_M) H → va_D A (mo_W q6 qA qB qF qR qC qL qS qO qY qH qW qM cyI cyJ cyZ m_th m_o m_f m_r m_b m_a u_F u_R g_F g_R g_C g_L m_rl m_lf m_ov m_pl g_S g_O g_Y g_H m_st g_W m_rm m_fs g_M) → va_S A s.heap H locs → lv_has ls 6 [(0, .ref q6), (3, .long x3), (5, .int (0 : Int32))] → cf_X6_take_s46_0  g_F g_R g_C g_L m_rl m_lf m_ov x3 = R → W p l e (headSpec wsX6_take ({ frames := 0, cells := 0, slots := 0, locals := 0 })).room s m ([.ref q6, .long a0] : List Value).toArray below meth c H locs 0 0 (MQ below (mu_Q none (dC, dI) kcl (mo_W q6 qA qB qF qR qC qL qS qO qY qH qW qM cyI cyJ cyZ m_th m_o m_f m_r m_b m_a u_F u_R R.1 R.2.1 R.2.2.1 R.2.2.2.1 R.2.2.2.2.1 R.2.2.2.2.2.1 R.2.2.2.2.2.2 m_pl g_S g_O g_Y g_H m_st g_W m_rm m_fs g_M) A) ([.ref q6, .long a0] : List Value).toArray s 0 0 A) (F0 m 46 ls []) := by
    intro  g_F g_R g_C g_L m_rl m_lf m_ov x3 H locs ls hP hD hS hl hR
    unfold cf_X6_take_s46_0 at hR
    refine lv_iload hx hb dX6_take_46 (lv_at hl 2 rfl) ?_
    refine lv_if_lt (tgt := 95) hx hb dX6_take_48 (by decide) (fun c_0 => absurd c_0 (by decide +kernel)) (fun _ => ?_)
    refine lv_aload_n hx hb dX6_take_51 rfl (lv_at hl 0 rfl) ?_
    refine va_get (D := (dC, dI)) (ci := 4) (v := .ref qL) (C := RX6) (T := TX6) (N := 25) hx hb hts h1_ hown hK hP 0 rfl rfl 11 (by decide) h3_ (fun _ h9 => h9) rfl dX6_take_52 ?_
    refine lv_iload hx hb dX6_take_55 (lv_at hl 2 rfl) ?_
    refine lv_lload_n hx hb dX6_take_57 rfl (lv_at hl 1 rfl) ?_
    refine lv_ldc2 (v := (3 : Int64)) hx hb hown h4_ dX6_take_58 ?_
    refine lv_lrem hx hb dX6_take_61 (by decide +kernel) ?_
    refine lv_l2i (v := ((x3 - x3 / (3 : Int64) * (3 : Int64)).toInt32)) hx hb dX6_take_62 rfl ?_
    refine va_iast hx hb hK hP hD hS 6 0 rfl rfl (by unfold vp_in; decide +kernel) dX6_take_63 (fun H locs hP hD hS => ?_)
    have hP : va_P (dC, dI) kcl (mo_W q6 qA qB qF qR qC qL qS qO qY qH qW qM cyI cyJ cyZ m_th m_o m_f m_r m_b m_a u_F u_R g_F g_R g_C (upd g_L ((0 : Int32)).toNatClampNeg ((x3 - x3 / (3 : Int64) * (3 : Int64)).toInt32)) m_rl m_lf m_ov m_pl g_S g_O g_Y g_H m_st g_W m_rm m_fs g_M) H := hP
    have hD : va_D A (mo_W q6 qA qB qF qR qC qL qS qO qY qH qW qM cyI cyJ cyZ m_th m_o m_f m_r m_b m_a u_F u_R g_F g_R g_C (upd g_L ((0 : Int32)).toNatClampNeg ((x3 - x3 / (3 : Int64) * (3 : Int64)).toInt32)) m_rl m_lf m_ov m_pl g_S g_O g_Y g_H m_st g_W m_rm m_fs g_M) := hD
    refine lv_lload_n hx hb dX6_take_64 rfl (lv_at hl 1 rfl) ?_
    refine lv_ldc2 (v := (3 : Int64)) hx hb hown h4_ dX6_take_65 ?_
    refine lv_ldiv hx hb dX6_take_68 (by decide +kernel) ?_
    refine lv_lstore_n (lv' := [(3, .long (x3 / (3 : Int64))), (0, .ref q6), (5, .int (0 : Int32))]) hx hb dX6_take_69 rfl hl (by decide) rfl (fun ls hl => ?_)
    refine lv_aload_n hx hb dX6_take_70 rfl (lv_at hl 1 rfl) ?_
    refine va_get (D := (dC, dI)) (ci := 4) (v := .ref qC) (C := RX6) (T := TX6) (N := 25) hx hb hts h1_ hown hK hP 0 rfl rfl 10 (by decide) h5_ (fun _ h9 => h9) rfl dX6_take_71 ?_
    refine lv_iload hx hb dX6_take_74 (lv_at hl 2 rfl) ?_
    refine lv_lload_n hx hb dX6_take_76 rfl (lv_at hl 0 rfl) ?_
    refine lv_ldc2 (v := (3 : Int64)) hx hb hown h4_ dX6_take_77 ?_
    refine lv_lrem hx hb dX6_take_80 (by decide +kernel) ?_
    refine lv_l2i (v := (((x3 / (3 : Int64)) - (x3 / (3 : Int64)) / (3 : Int64) * (3 : Int64)).toInt32)) hx hb dX6_take_81 rfl ?_
    refine va_iast hx hb hK hP hD hS 5 0 rfl rfl (by unfold vp_in; decide +kernel) dX6_take_82 (fun H locs hP hD hS => ?_)
    have hP : va_P (dC, dI) kcl (mo_W q6 qA qB qF qR qC qL qS qO qY qH qW qM cyI cyJ cyZ m_th m_o m_f m_r m_b m_a u_F u_R g_F g_R (upd g_C ((0 : Int32)).toNatClampNeg (((x3 / (3 : Int64)) - (x3 / (3 : Int64)) / (3 : Int64) * (3 : Int64)).toInt32)) (upd g_L ((0 : Int32)).toNatClampNeg ((x3 - x3 / (3 : Int64) * (3 : Int64)).toInt32)) m_rl m_lf m_ov m_pl g_S g_O g_Y g_H m_st g_W m_rm m_fs g_M) H := hP
    have hD : va_D A (mo_W q6 qA qB qF qR qC qL qS qO qY qH qW qM cyI cyJ cyZ m_th m_o m_f m_r m_b m_a u_F u_R g_F g_R (upd g_C ((0 : Int32)).toNatClampNeg (((x3 / (3 : Int64)) - (x3 / (3 : Int64)) / (3 : Int64) * (3 : Int64)).toInt32)) (upd g_L ((0 : Int32)).toNatClampNeg ((x3 - x3 / (3 : Int64) * (3 : Int64)).toInt32)) m_rl m_lf m_ov m_pl g_S g_O g_Y g_H m_st g_W m_rm m_fs g_M) := hD
    refine lv_lload_n hx hb dX6_take_83 rfl (lv_at hl 0 rfl) ?_
    refine lv_ldc2 (v := (3 : Int64)) hx hb hown h4_ dX6_take_84 ?_
    refine lv_ldiv hx hb dX6_take_87 (by decide +kernel) ?_
    refine lv_lstore_n (lv' := [(3, .long ((x3 / (3 : Int64)) / (3 : Int64))), (0, .ref q6), (5, .int (0 : Int32))]) hx hb dX6_take_88 rfl hl (by decide) rfl (fun ls hl => ?_)
    refine lv_iinc (v := (-1 : Int32)) (lv' := [(5, .int (-1 : Int32)), (3, .long ((x3 / (3 : Int64)) / (3 : Int64))), (0, .ref q6)]) hx hb dX6_take_89 hl (k := 2) rfl (by decide +kernel) (by decide) rfl (fun ls hl => ?_)
    refine lv_goto (tgt := 46) hx hb dX6_take_92 (by decide) ?_
    exact Ks46_m1  g_F g_R (upd g_C ((0 : Int32)).toNatClampNeg (((x3 / (3 : Int64)) - (x3 / (3 : Int64)) / (3 : Int64) * (3 : Int64)).toInt32)) (upd g_L ((0 : Int32)).toNatClampNeg ((x3 - x3 / (3 : Int64) * (3 : Int64)).toInt32)) m_rl m_lf m_ov ((x3 / (3 : Int64)) / (3 : Int64)) H locs ls hP hD hS (lv_sub hl [2, 1, 0] rfl) hR
  have Ks46_1 : ∀  (g_F : Nat → Int32) (g_R : Nat → Int32) (g_C : Nat → Int32) (g_L : Nat → Int32) (m_rl : Int32) (m_lf : Int32) (m_ov : Int32) (x3 : Int64) (H : Heap) (locs : List Loc) (ls : Array Slot), va_P (dC, dI) kcl (mo_W q6 qA qB qF qR qC qL qS qO qY qH qW qM cyI cyJ cyZ m_th m_o m_f m_r m_b m_a u_F u_R g_F g_R g_C g_L m_rl m_lf m_ov m_pl g_S g_O g_Y g_H m_st g_W m_rm m_fs g_M) H → va_D A (mo_W q6 qA qB qF qR qC qL qS qO qY qH qW qM cyI cyJ cyZ m_th m_o m_f m_r m_b m_a u_F u_R g_F g_R g_C g_L m_rl m_lf m_ov m_pl g_S g_O g_Y g_H m_st g_W m_rm m_fs g_M) → va_S A s.heap H locs → lv_has ls 6 [(0, .ref q6), (3, .long x3), (5, .int (1 : Int32))] → cf_X6_take_s46_1  g_F g_R g_C g_L m_rl m_lf m_ov x3 = R → W p l e (headSpec wsX6_take ({ frames := 0, cells := 0, slots := 0, locals := 0 })).room s m ([.ref q6, .long a0] : List Value).toArray below meth c H locs 0 0 (MQ below (mu_Q none (dC, dI) kcl (mo_W q6 qA qB qF qR qC qL qS qO qY qH qW qM cyI cyJ cyZ m_th m_o m_f m_r m_b m_a u_F u_R R.1 R.2.1 R.2.2.1 R.2.2.2.1 R.2.2.2.2.1 R.2.2.2.2.2.1 R.2.2.2.2.2.2 m_pl g_S g_O g_Y g_H m_st g_W m_rm m_fs g_M) A) ([.ref q6, .long a0] : List Value).toArray s 0 0 A) (F0 m 46 ls []) := by
    intro  g_F g_R g_C g_L m_rl m_lf m_ov x3 H locs ls hP hD hS hl hR
    unfold cf_X6_take_s46_1 at hR
    refine lv_iload hx hb dX6_take_46 (lv_at hl 2 rfl) ?_
    refine lv_if_lt (tgt := 95) hx hb dX6_take_48 (by decide) (fun c_0 => absurd c_0 (by decide +kernel)) (fun _ => ?_)
    refine lv_aload_n hx hb dX6_take_51 rfl (lv_at hl 0 rfl) ?_
    refine va_get (D := (dC, dI)) (ci := 4) (v := .ref qL) (C := RX6) (T := TX6) (N := 25) hx hb hts h1_ hown hK hP 0 rfl rfl 11 (by decide) h3_ (fun _ h9 => h9) rfl dX6_take_52 ?_
    refine lv_iload hx hb dX6_take_55 (lv_at hl 2 rfl) ?_
    refine lv_lload_n hx hb dX6_take_57 rfl (lv_at hl 1 rfl) ?_
    refine lv_ldc2 (v := (3 : Int64)) hx hb hown h4_ dX6_take_58 ?_
    refine lv_lrem hx hb dX6_take_61 (by decide +kernel) ?_
    refine lv_l2i (v := ((x3 - x3 / (3 : Int64) * (3 : Int64)).toInt32)) hx hb dX6_take_62 rfl ?_
    refine va_iast hx hb hK hP hD hS 6 0 rfl rfl (by unfold vp_in; decide +kernel) dX6_take_63 (fun H locs hP hD hS => ?_)
    have hP : va_P (dC, dI) kcl (mo_W q6 qA qB qF qR qC qL qS qO qY qH qW qM cyI cyJ cyZ m_th m_o m_f m_r m_b m_a u_F u_R g_F g_R g_C (upd g_L ((1 : Int32)).toNatClampNeg ((x3 - x3 / (3 : Int64) * (3 : Int64)).toInt32)) m_rl m_lf m_ov m_pl g_S g_O g_Y g_H m_st g_W m_rm m_fs g_M) H := hP
    have hD : va_D A (mo_W q6 qA qB qF qR qC qL qS qO qY qH qW qM cyI cyJ cyZ m_th m_o m_f m_r m_b m_a u_F u_R g_F g_R g_C (upd g_L ((1 : Int32)).toNatClampNeg ((x3 - x3 / (3 : Int64) * (3 : Int64)).toInt32)) m_rl m_lf m_ov m_pl g_S g_O g_Y g_H m_st g_W m_rm m_fs g_M) := hD
    refine lv_lload_n hx hb dX6_take_64 rfl (lv_at hl 1 rfl) ?_
    refine lv_ldc2 (v := (3 : Int64)) hx hb hown h4_ dX6_take_65 ?_
    refine lv_ldiv hx hb dX6_take_68 (by decide +kernel) ?_
    refine lv_lstore_n (lv' := [(3, .long (x3 / (3 : Int64))), (0, .ref q6), (5, .int (1 : Int32))]) hx hb dX6_take_69 rfl hl (by decide) rfl (fun ls hl => ?_)
    refine lv_aload_n hx hb dX6_take_70 rfl (lv_at hl 1 rfl) ?_
    refine va_get (D := (dC, dI)) (ci := 4) (v := .ref qC) (C := RX6) (T := TX6) (N := 25) hx hb hts h1_ hown hK hP 0 rfl rfl 10 (by decide) h5_ (fun _ h9 => h9) rfl dX6_take_71 ?_
    refine lv_iload hx hb dX6_take_74 (lv_at hl 2 rfl) ?_
    refine lv_lload_n hx hb dX6_take_76 rfl (lv_at hl 0 rfl) ?_
    refine lv_ldc2 (v := (3 : Int64)) hx hb hown h4_ dX6_take_77 ?_
    refine lv_lrem hx hb dX6_take_80 (by decide +kernel) ?_
    refine lv_l2i (v := (((x3 / (3 : Int64)) - (x3 / (3 : Int64)) / (3 : Int64) * (3 : Int64)).toInt32)) hx hb dX6_take_81 rfl ?_
    refine va_iast hx hb hK hP hD hS 5 0 rfl rfl (by unfold vp_in; decide +kernel) dX6_take_82 (fun H locs hP hD hS => ?_)
    have hP : va_P (dC, dI) kcl (mo_W q6 qA qB qF qR qC qL qS qO qY qH qW qM cyI cyJ cyZ m_th m_o m_f m_r m_b m_a u_F u_R g_F g_R (upd g_C ((1 : Int32)).toNatClampNeg (((x3 / (3 : Int64)) - (x3 / (3 : Int64)) / (3 : Int64) * (3 : Int64)).toInt32)) (upd g_L ((1 : Int32)).toNatClampNeg ((x3 - x3 / (3 : Int64) * (3 : Int64)).toInt32)) m_rl m_lf m_ov m_pl g_S g_O g_Y g_H m_st g_W m_rm m_fs g_M) H := hP
    have hD : va_D A (mo_W q6 qA qB qF qR qC qL qS qO qY qH qW qM cyI cyJ cyZ m_th m_o m_f m_r m_b m_a u_F u_R g_F g_R (upd g_C ((1 : Int32)).toNatClampNeg (((x3 / (3 : Int64)) - (x3 / (3 : Int64)) / (3 : Int64) * (3 : Int64)).toInt32)) (upd g_L ((1 : Int32)).toNatClampNeg ((x3 - x3 / (3 : Int64) * (3 : Int64)).toInt32)) m_rl m_lf m_ov m_pl g_S g_O g_Y g_H m_st g_W m_rm m_fs g_M) := hD
    refine lv_lload_n hx hb dX6_take_83 rfl (lv_at hl 0 rfl) ?_
    refine lv_ldc2 (v := (3 : Int64)) hx hb hown h4_ dX6_take_84 ?_
    refine lv_ldiv hx hb dX6_take_87 (by decide +kernel) ?_
    refine lv_lstore_n (lv' := [(3, .long ((x3 / (3 : Int64)) / (3 : Int64))), (0, .ref q6), (5, .int (1 : Int32))]) hx hb dX6_take_88 rfl hl (by decide) rfl (fun ls hl => ?_)
    refine lv_iinc (v := (0 : Int32)) (lv' := [(5, .int (0 : Int32)), (3, .long ((x3 / (3 : Int64)) / (3 : Int64))), (0, .ref q6)]) hx hb dX6_take_89 hl (k := 2) rfl (by decide +kernel) (by decide) rfl (fun ls hl => ?_)
    refine lv_goto (tgt := 46) hx hb dX6_take_92 (by decide) ?_
    exact Ks46_0  g_F g_R (upd g_C ((1 : Int32)).toNatClampNeg (((x3 / (3 : Int64)) - (x3 / (3 : Int64)) / (3 : Int64) * (3 : Int64)).toInt32)) (upd g_L ((1 : Int32)).toNatClampNeg ((x3 - x3 / (3 : Int64) * (3 : Int64)).toInt32)) m_rl m_lf m_ov ((x3 / (3 : Int64)) / (3 : Int64)) H locs ls hP hD hS (lv_sub hl [2, 1, 0] rfl) hR
  have Ks46_2 : ∀  (g_F : Nat → Int32) (g_R : Nat → Int32) (g_C : Nat → Int32) (g_L : Nat → Int32) (m_rl : Int32) (m_lf : Int32) (m_ov : Int32) (x3 : Int64) (H : Heap) (locs : List Loc) (ls : Array Slot), va_P (dC, dI) kcl (mo_W q6 qA qB qF qR qC qL qS qO qY qH qW qM cyI cyJ cyZ m_th m_o m_f m_r m_b m_a u_F u_R g_F g_R g_C g_L m_rl m_lf m_ov m_pl g_S g_O g_Y g_H m_st g_W m_rm m_fs g_M) H → va_D A (mo_W q6 qA qB qF qR qC qL qS qO qY qH qW qM cyI cyJ cyZ m_th m_o m_f m_r m_b m_a u_F u_R g_F g_R g_C g_L m_rl m_lf m_ov m_pl g_S g_O g_Y g_H m_st g_W m_rm m_fs g_M) → va_S A s.heap H locs → lv_has ls 6 [(0, .ref q6), (3, .long x3), (5, .int (2 : Int32))] → cf_X6_take_s46_2  g_F g_R g_C g_L m_rl m_lf m_ov x3 = R → W p l e (headSpec wsX6_take ({ frames := 0, cells := 0, slots := 0, locals := 0 })).room s m ([.ref q6, .long a0] : List Value).toArray below meth c H locs 0 0 (MQ below (mu_Q none (dC, dI) kcl (mo_W q6 qA qB qF qR qC qL qS qO qY qH qW qM cyI cyJ cyZ m_th m_o m_f m_r m_b m_a u_F u_R R.1 R.2.1 R.2.2.1 R.2.2.2.1 R.2.2.2.2.1 R.2.2.2.2.2.1 R.2.2.2.2.2.2 m_pl g_S g_O g_Y g_H m_st g_W m_rm m_fs g_M) A) ([.ref q6, .long a0] : List Value).toArray s 0 0 A) (F0 m 46 ls []) := by
    intro  g_F g_R g_C g_L m_rl m_lf m_ov x3 H locs ls hP hD hS hl hR
    unfold cf_X6_take_s46_2 at hR
    refine lv_iload hx hb dX6_take_46 (lv_at hl 2 rfl) ?_
    refine lv_if_lt (tgt := 95) hx hb dX6_take_48 (by decide) (fun c_0 => absurd c_0 (by decide +kernel)) (fun _ => ?_)
    refine lv_aload_n hx hb dX6_take_51 rfl (lv_at hl 0 rfl) ?_
    refine va_get (D := (dC, dI)) (ci := 4) (v := .ref qL) (C := RX6) (T := TX6) (N := 25) hx hb hts h1_ hown hK hP 0 rfl rfl 11 (by decide) h3_ (fun _ h9 => h9) rfl dX6_take_52 ?_
    refine lv_iload hx hb dX6_take_55 (lv_at hl 2 rfl) ?_
    refine lv_lload_n hx hb dX6_take_57 rfl (lv_at hl 1 rfl) ?_
    refine lv_ldc2 (v := (3 : Int64)) hx hb hown h4_ dX6_take_58 ?_
    refine lv_lrem hx hb dX6_take_61 (by decide +kernel) ?_
    refine lv_l2i (v := ((x3 - x3 / (3 : Int64) * (3 : Int64)).toInt32)) hx hb dX6_take_62 rfl ?_
    refine va_iast hx hb hK hP hD hS 6 0 rfl rfl (by unfold vp_in; decide +kernel) dX6_take_63 (fun H locs hP hD hS => ?_)
    have hP : va_P (dC, dI) kcl (mo_W q6 qA qB qF qR qC qL qS qO qY qH qW qM cyI cyJ cyZ m_th m_o m_f m_r m_b m_a u_F u_R g_F g_R g_C (upd g_L ((2 : Int32)).toNatClampNeg ((x3 - x3 / (3 : Int64) * (3 : Int64)).toInt32)) m_rl m_lf m_ov m_pl g_S g_O g_Y g_H m_st g_W m_rm m_fs g_M) H := hP
    have hD : va_D A (mo_W q6 qA qB qF qR qC qL qS qO qY qH qW qM cyI cyJ cyZ m_th m_o m_f m_r m_b m_a u_F u_R g_F g_R g_C (upd g_L ((2 : Int32)).toNatClampNeg ((x3 - x3 / (3 : Int64) * (3 : Int64)).toInt32)) m_rl m_lf m_ov m_pl g_S g_O g_Y g_H m_st g_W m_rm m_fs g_M) := hD
    refine lv_lload_n hx hb dX6_take_64 rfl (lv_at hl 1 rfl) ?_
    refine lv_ldc2 (v := (3 : Int64)) hx hb hown h4_ dX6_take_65 ?_
    refine lv_ldiv hx hb dX6_take_68 (by decide +kernel) ?_
    refine lv_lstore_n (lv' := [(3, .long (x3 / (3 : Int64))), (0, .ref q6), (5, .int (2 : Int32))]) hx hb dX6_take_69 rfl hl (by decide) rfl (fun ls hl => ?_)
    refine lv_aload_n hx hb dX6_take_70 rfl (lv_at hl 1 rfl) ?_
    refine va_get (D := (dC, dI)) (ci := 4) (v := .ref qC) (C := RX6) (T := TX6) (N := 25) hx hb hts h1_ hown hK hP 0 rfl rfl 10 (by decide) h5_ (fun _ h9 => h9) rfl dX6_take_71 ?_
    refine lv_iload hx hb dX6_take_74 (lv_at hl 2 rfl) ?_
    refine lv_lload_n hx hb dX6_take_76 rfl (lv_at hl 0 rfl) ?_
    refine lv_ldc2 (v := (3 : Int64)) hx hb hown h4_ dX6_take_77 ?_
    refine lv_lrem hx hb dX6_take_80 (by decide +kernel) ?_
    refine lv_l2i (v := (((x3 / (3 : Int64)) - (x3 / (3 : Int64)) / (3 : Int64) * (3 : Int64)).toInt32)) hx hb dX6_take_81 rfl ?_
    refine va_iast hx hb hK hP hD hS 5 0 rfl rfl (by unfold vp_in; decide +kernel) dX6_take_82 (fun H locs hP hD hS => ?_)
    have hP : va_P (dC, dI) kcl (mo_W q6 qA qB qF qR qC qL qS qO qY qH qW qM cyI cyJ cyZ m_th m_o m_f m_r m_b m_a u_F u_R g_F g_R (upd g_C ((2 : Int32)).toNatClampNeg (((x3 / (3 : Int64)) - (x3 / (3 : Int64)) / (3 : Int64) * (3 : Int64)).toInt32)) (upd g_L ((2 : Int32)).toNatClampNeg ((x3 - x3 / (3 : Int64) * (3 : Int64)).toInt32)) m_rl m_lf m_ov m_pl g_S g_O g_Y g_H m_st g_W m_rm m_fs g_M) H := hP
    have hD : va_D A (mo_W q6 qA qB qF qR qC qL qS qO qY qH qW qM cyI cyJ cyZ m_th m_o m_f m_r m_b m_a u_F u_R g_F g_R (upd g_C ((2 : Int32)).toNatClampNeg (((x3 / (3 : Int64)) - (x3 / (3 : Int64)) / (3 : Int64) * (3 : Int64)).toInt32)) (upd g_L ((2 : Int32)).toNatClampNeg ((x3 - x3 / (3 : Int64) * (3 : Int64)).toInt32)) m_rl m_lf m_ov m_pl g_S g_O g_Y g_H m_st g_W m_rm m_fs g_M) := hD
    refine lv_lload_n hx hb dX6_take_83 rfl (lv_at hl 0 rfl) ?_
    refine lv_ldc2 (v := (3 : Int64)) hx hb hown h4_ dX6_take_84 ?_
    refine lv_ldiv hx hb dX6_take_87 (by decide +kernel) ?_
    refine lv_lstore_n (lv' := [(3, .long ((x3 / (3 : Int64)) / (3 : Int64))), (0, .ref q6), (5, .int (2 : Int32))]) hx hb dX6_take_88 rfl hl (by decide) rfl (fun ls hl => ?_)
    refine lv_iinc (v := (1 : Int32)) (lv' := [(5, .int (1 : Int32)), (3, .long ((x3 / (3 : Int64)) / (3 : Int64))), (0, .ref q6)]) hx hb dX6_take_89 hl (k := 2) rfl (by decide +kernel) (by decide) rfl (fun ls hl => ?_)
    refine lv_goto (tgt := 46) hx hb dX6_take_92 (by decide) ?_
    exact Ks46_1  g_F g_R (upd g_C ((2 : Int32)).toNatClampNeg (((x3 / (3 : Int64)) - (x3 / (3 : Int64)) / (3 : Int64) * (3 : Int64)).toInt32)) (upd g_L ((2 : Int32)).toNatClampNeg ((x3 - x3 / (3 : Int64) * (3 : Int64)).toInt32)) m_rl m_lf m_ov ((x3 / (3 : Int64)) / (3 : Int64)) H locs ls hP hD hS (lv_sub hl [2, 1, 0] rfl) hR
  have Ks46_3 : ∀  (g_F : Nat → Int32) (g_R : Nat → Int32) (g_C : Nat → Int32) (g_L : Nat → Int32) (m_rl : Int32) (m_lf : Int32) (m_ov : Int32) (x3 : Int64) (H : Heap) (locs : List Loc) (ls : Array Slot), va_P (dC, dI) kcl (mo_W q6 qA qB qF qR qC qL qS qO qY qH qW qM cyI cyJ cyZ m_th m_o m_f m_r m_b m_a u_F u_R g_F g_R g_C g_L m_rl m_lf m_ov m_pl g_S g_O g_Y g_H m_st g_W m_rm m_fs g_M) H → va_D A (mo_W q6 qA qB qF qR qC qL qS qO qY qH qW qM cyI cyJ cyZ m_th m_o m_f m_r m_b m_a u_F u_R g_F g_R g_C g_L m_rl m_lf m_ov m_pl g_S g_O g_Y g_H m_st g_W m_rm m_fs g_M) → va_S A s.heap H locs → lv_has ls 6 [(0, .ref q6), (3, .long x3), (5, .int (3 : Int32))] → cf_X6_take_s46_3  g_F g_R g_C g_L m_rl m_lf m_ov x3 = R → W p l e (headSpec wsX6_take ({ frames := 0, cells := 0, slots := 0, locals := 0 })).room s m ([.ref q6, .long a0] : List Value).toArray below meth c H locs 0 0 (MQ below (mu_Q none (dC, dI) kcl (mo_W q6 qA qB qF qR qC qL qS qO qY qH qW qM cyI cyJ cyZ m_th m_o m_f m_r m_b m_a u_F u_R R.1 R.2.1 R.2.2.1 R.2.2.2.1 R.2.2.2.2.1 R.2.2.2.2.2.1 R.2.2.2.2.2.2 m_pl g_S g_O g_Y g_H m_st g_W m_rm m_fs g_M) A) ([.ref q6, .long a0] : List Value).toArray s 0 0 A) (F0 m 46 ls []) := by
    intro  g_F g_R g_C g_L m_rl m_lf m_ov x3 H locs ls hP hD hS hl hR
    unfold cf_X6_take_s46_3 at hR
    refine lv_iload hx hb dX6_take_46 (lv_at hl 2 rfl) ?_
    refine lv_if_lt (tgt := 95) hx hb dX6_take_48 (by decide) (fun c_0 => absurd c_0 (by decide +kernel)) (fun _ => ?_)
    refine lv_aload_n hx hb dX6_take_51 rfl (lv_at hl 0 rfl) ?_
    refine va_get (D := (dC, dI)) (ci := 4) (v := .ref qL) (C := RX6) (T := TX6) (N := 25) hx hb hts h1_ hown hK hP 0 rfl rfl 11 (by decide) h3_ (fun _ h9 => h9) rfl dX6_take_52 ?_
    refine lv_iload hx hb dX6_take_55 (lv_at hl 2 rfl) ?_
    refine lv_lload_n hx hb dX6_take_57 rfl (lv_at hl 1 rfl) ?_
    refine lv_ldc2 (v := (3 : Int64)) hx hb hown h4_ dX6_take_58 ?_
    refine lv_lrem hx hb dX6_take_61 (by decide +kernel) ?_
    refine lv_l2i (v := ((x3 - x3 / (3 : Int64) * (3 : Int64)).toInt32)) hx hb dX6_take_62 rfl ?_
    refine va_iast hx hb hK hP hD hS 6 0 rfl rfl (by unfold vp_in; decide +kernel) dX6_take_63 (fun H locs hP hD hS => ?_)
    have hP : va_P (dC, dI) kcl (mo_W q6 qA qB qF qR qC qL qS qO qY qH qW qM cyI cyJ cyZ m_th m_o m_f m_r m_b m_a u_F u_R g_F g_R g_C (upd g_L ((3 : Int32)).toNatClampNeg ((x3 - x3 / (3 : Int64) * (3 : Int64)).toInt32)) m_rl m_lf m_ov m_pl g_S g_O g_Y g_H m_st g_W m_rm m_fs g_M) H := hP
    have hD : va_D A (mo_W q6 qA qB qF qR qC qL qS qO qY qH qW qM cyI cyJ cyZ m_th m_o m_f m_r m_b m_a u_F u_R g_F g_R g_C (upd g_L ((3 : Int32)).toNatClampNeg ((x3 - x3 / (3 : Int64) * (3 : Int64)).toInt32)) m_rl m_lf m_ov m_pl g_S g_O g_Y g_H m_st g_W m_rm m_fs g_M) := hD
    refine lv_lload_n hx hb dX6_take_64 rfl (lv_at hl 1 rfl) ?_
    refine lv_ldc2 (v := (3 : Int64)) hx hb hown h4_ dX6_take_65 ?_
    refine lv_ldiv hx hb dX6_take_68 (by decide +kernel) ?_
    refine lv_lstore_n (lv' := [(3, .long (x3 / (3 : Int64))), (0, .ref q6), (5, .int (3 : Int32))]) hx hb dX6_take_69 rfl hl (by decide) rfl (fun ls hl => ?_)
    refine lv_aload_n hx hb dX6_take_70 rfl (lv_at hl 1 rfl) ?_
    refine va_get (D := (dC, dI)) (ci := 4) (v := .ref qC) (C := RX6) (T := TX6) (N := 25) hx hb hts h1_ hown hK hP 0 rfl rfl 10 (by decide) h5_ (fun _ h9 => h9) rfl dX6_take_71 ?_
    refine lv_iload hx hb dX6_take_74 (lv_at hl 2 rfl) ?_
    refine lv_lload_n hx hb dX6_take_76 rfl (lv_at hl 0 rfl) ?_
    refine lv_ldc2 (v := (3 : Int64)) hx hb hown h4_ dX6_take_77 ?_
    refine lv_lrem hx hb dX6_take_80 (by decide +kernel) ?_
    refine lv_l2i (v := (((x3 / (3 : Int64)) - (x3 / (3 : Int64)) / (3 : Int64) * (3 : Int64)).toInt32)) hx hb dX6_take_81 rfl ?_
    refine va_iast hx hb hK hP hD hS 5 0 rfl rfl (by unfold vp_in; decide +kernel) dX6_take_82 (fun H locs hP hD hS => ?_)
    have hP : va_P (dC, dI) kcl (mo_W q6 qA qB qF qR qC qL qS qO qY qH qW qM cyI cyJ cyZ m_th m_o m_f m_r m_b m_a u_F u_R g_F g_R (upd g_C ((3 : Int32)).toNatClampNeg (((x3 / (3 : Int64)) - (x3 / (3 : Int64)) / (3 : Int64) * (3 : Int64)).toInt32)) (upd g_L ((3 : Int32)).toNatClampNeg ((x3 - x3 / (3 : Int64) * (3 : Int64)).toInt32)) m_rl m_lf m_ov m_pl g_S g_O g_Y g_H m_st g_W m_rm m_fs g_M) H := hP
    have hD : va_D A (mo_W q6 qA qB qF qR qC qL qS qO qY qH qW qM cyI cyJ cyZ m_th m_o m_f m_r m_b m_a u_F u_R g_F g_R (upd g_C ((3 : Int32)).toNatClampNeg (((x3 / (3 : Int64)) - (x3 / (3 : Int64)) / (3 : Int64) * (3 : Int64)).toInt32)) (upd g_L ((3 : Int32)).toNatClampNeg ((x3 - x3 / (3 : Int64) * (3 : Int64)).toInt32)) m_rl m_lf m_ov m_pl g_S g_O g_Y g_H m_st g_W m_rm m_fs g_M) := hD
    refine lv_lload_n hx hb dX6_take_83 rfl (lv_at hl 0 rfl) ?_
    refine lv_ldc2 (v := (3 : Int64)) hx hb hown h4_ dX6_take_84 ?_
    refine lv_ldiv hx hb dX6_take_87 (by decide +kernel) ?_
    refine lv_lstore_n (lv' := [(3, .long ((x3 / (3 : Int64)) / (3 : Int64))), (0, .ref q6), (5, .int (3 : Int32))]) hx hb dX6_take_88 rfl hl (by decide) rfl (fun ls hl => ?_)
    refine lv_iinc (v := (2 : Int32)) (lv' := [(5, .int (2 : Int32)), (3, .long ((x3 / (3 : Int64)) / (3 : Int64))), (0, .ref q6)]) hx hb dX6_take_89 hl (k := 2) rfl (by decide +kernel) (by decide) rfl (fun ls hl => ?_)
    refine lv_goto (tgt := 46) hx hb dX6_take_92 (by decide) ?_
    exact Ks46_2  g_F g_R (upd g_C ((3 : Int32)).toNatClampNeg (((x3 / (3 : Int64)) - (x3 / (3 : Int64)) / (3 : Int64) * (3 : Int64)).toInt32)) (upd g_L ((3 : Int32)).toNatClampNeg ((x3 - x3 / (3 : Int64) * (3 : Int64)).toInt32)) m_rl m_lf m_ov ((x3 / (3 : Int64)) / (3 : Int64)) H locs ls hP hD hS (lv_sub hl [2, 1, 0] rfl) hR
  have Ks11_m1 : ∀  (g_F : Nat → Int32) (g_R : Nat → Int32) (g_C : Nat → Int32) (g_L : Nat → Int32) (m_rl : Int32) (m_lf : Int32) (m_ov : Int32) (x3 : Int64) (H : Heap) (locs : List Loc) (ls : Array Slot), va_P (dC, dI) kcl (mo_W q6 qA qB qF qR qC qL qS qO qY qH qW qM cyI cyJ cyZ m_th m_o m_f m_r m_b m_a u_F u_R g_F g_R g_C g_L m_rl m_lf m_ov m_pl g_S g_O g_Y g_H m_st g_W m_rm m_fs g_M) H → va_D A (mo_W q6 qA qB qF qR qC qL qS qO qY qH qW qM cyI cyJ cyZ m_th m_o m_f m_r m_b m_a u_F u_R g_F g_R g_C g_L m_rl m_lf m_ov m_pl g_S g_O g_Y g_H m_st g_W m_rm m_fs g_M) → va_S A s.heap H locs → lv_has ls 6 [(0, .ref q6), (3, .long x3), (5, .int (-1 : Int32))] → cf_X6_take_s11_m1  g_F g_R g_C g_L m_rl m_lf m_ov x3 = R → W p l e (headSpec wsX6_take ({ frames := 0, cells := 0, slots := 0, locals := 0 })).room s m ([.ref q6, .long a0] : List Value).toArray below meth c H locs 0 0 (MQ below (mu_Q none (dC, dI) kcl (mo_W q6 qA qB qF qR qC qL qS qO qY qH qW qM cyI cyJ cyZ m_th m_o m_f m_r m_b m_a u_F u_R R.1 R.2.1 R.2.2.1 R.2.2.2.1 R.2.2.2.2.1 R.2.2.2.2.2.1 R.2.2.2.2.2.2 m_pl g_S g_O g_Y g_H m_st g_W m_rm m_fs g_M) A) ([.ref q6, .long a0] : List Value).toArray s 0 0 A) (F0 m 11 ls []) := by
    intro  g_F g_R g_C g_L m_rl m_lf m_ov x3 H locs ls hP hD hS hl hR
    unfold cf_X6_take_s11_m1 at hR
    refine lv_iload hx hb dX6_take_11 (lv_at hl 2 rfl) ?_
    refine lv_if_lt (tgt := 43) hx hb dX6_take_13 (by decide) (fun _ => ?_) (fun c_0 => absurd c_0 (by decide +kernel))
    refine lv_iconst (v := (3 : Int32)) hx hb dX6_take_43 (by decide +kernel) ?_
    refine lv_istore (lv' := [(5, .int (3 : Int32)), (0, .ref q6), (3, .long x3)]) hx hb dX6_take_44 hl (by decide) rfl (fun ls hl => ?_)
    exact Ks46_3  g_F g_R g_C g_L m_rl m_lf m_ov x3 H locs ls hP hD hS (lv_sub hl [1, 2, 0] rfl) hR
  have Ks11_0 : ∀  (g_F : Nat → Int32) (g_R : Nat → Int32) (g_C : Nat → Int32) (g_L : Nat → Int32) (m_rl : Int32) (m_lf : Int32) (m_ov : Int32) (x3 : Int64) (H : Heap) (locs : List Loc) (ls : Array Slot), va_P (dC, dI) kcl (mo_W q6 qA qB qF qR qC qL qS qO qY qH qW qM cyI cyJ cyZ m_th m_o m_f m_r m_b m_a u_F u_R g_F g_R g_C g_L m_rl m_lf m_ov m_pl g_S g_O g_Y g_H m_st g_W m_rm m_fs g_M) H → va_D A (mo_W q6 qA qB qF qR qC qL qS qO qY qH qW qM cyI cyJ cyZ m_th m_o m_f m_r m_b m_a u_F u_R g_F g_R g_C g_L m_rl m_lf m_ov m_pl g_S g_O g_Y g_H m_st g_W m_rm m_fs g_M) → va_S A s.heap H locs → lv_has ls 6 [(0, .ref q6), (3, .long x3), (5, .int (0 : Int32))] → cf_X6_take_s11_0  g_F g_R g_C g_L m_rl m_lf m_ov x3 = R → W p l e (headSpec wsX6_take ({ frames := 0, cells := 0, slots := 0, locals := 0 })).room s m ([.ref q6, .long a0] : List Value).toArray below meth c H locs 0 0 (MQ below (mu_Q none (dC, dI) kcl (mo_W q6 qA qB qF qR qC qL qS qO qY qH qW qM cyI cyJ cyZ m_th m_o m_f m_r m_b m_a u_F u_R R.1 R.2.1 R.2.2.1 R.2.2.2.1 R.2.2.2.2.1 R.2.2.2.2.2.1 R.2.2.2.2.2.2 m_pl g_S g_O g_Y g_H m_st g_W m_rm m_fs g_M) A) ([.ref q6, .long a0] : List Value).toArray s 0 0 A) (F0 m 11 ls []) := by
    intro  g_F g_R g_C g_L m_rl m_lf m_ov x3 H locs ls hP hD hS hl hR
    unfold cf_X6_take_s11_0 at hR
    refine lv_iload hx hb dX6_take_11 (lv_at hl 2 rfl) ?_
    refine lv_if_lt (tgt := 43) hx hb dX6_take_13 (by decide) (fun c_0 => absurd c_0 (by decide +kernel)) (fun _ => ?_)
    refine lv_aload_n hx hb dX6_take_16 rfl (lv_at hl 0 rfl) ?_
    refine va_get (D := (dC, dI)) (ci := 4) (v := .ref qF) (C := RX6) (T := TX6) (N := 25) hx hb hts h1_ hown hK hP 0 rfl rfl 8 (by decide) h0_ (fun _ h9 => h9) rfl dX6_take_17 ?_
    refine lv_iload hx hb dX6_take_20 (lv_at hl 2 rfl) ?_
    refine lv_lload_n hx hb dX6_take_22 rfl (lv_at hl 1 rfl) ?_
    refine lv_ldc2 (v := (5 : Int64)) hx hb hown h2_ dX6_take_23 ?_
    refine lv_lrem hx hb dX6_take_26 (by decide +kernel) ?_
    refine lv_l2i (v := ((x3 - x3 / (5 : Int64) * (5 : Int64)).toInt32)) hx hb dX6_take_27 rfl ?_
    refine lv_iconst (v := (1 : Int32)) hx hb dX6_take_28 (by decide +kernel) ?_
    refine lv_isub hx hb dX6_take_29 ?_
    refine va_iast hx hb hK hP hD hS 3 0 rfl rfl (by unfold vp_in; decide +kernel) dX6_take_30 (fun H locs hP hD hS => ?_)
    have hP : va_P (dC, dI) kcl (mo_W q6 qA qB qF qR qC qL qS qO qY qH qW qM cyI cyJ cyZ m_th m_o m_f m_r m_b m_a u_F u_R (upd g_F ((0 : Int32)).toNatClampNeg (((x3 - x3 / (5 : Int64) * (5 : Int64)).toInt32) - (1 : Int32))) g_R g_C g_L m_rl m_lf m_ov m_pl g_S g_O g_Y g_H m_st g_W m_rm m_fs g_M) H := hP
    have hD : va_D A (mo_W q6 qA qB qF qR qC qL qS qO qY qH qW qM cyI cyJ cyZ m_th m_o m_f m_r m_b m_a u_F u_R (upd g_F ((0 : Int32)).toNatClampNeg (((x3 - x3 / (5 : Int64) * (5 : Int64)).toInt32) - (1 : Int32))) g_R g_C g_L m_rl m_lf m_ov m_pl g_S g_O g_Y g_H m_st g_W m_rm m_fs g_M) := hD
    refine lv_lload_n hx hb dX6_take_31 rfl (lv_at hl 1 rfl) ?_
    refine lv_ldc2 (v := (5 : Int64)) hx hb hown h2_ dX6_take_32 ?_
    refine lv_ldiv hx hb dX6_take_35 (by decide +kernel) ?_
    refine lv_lstore_n (lv' := [(3, .long (x3 / (5 : Int64))), (0, .ref q6), (5, .int (0 : Int32))]) hx hb dX6_take_36 rfl hl (by decide) rfl (fun ls hl => ?_)
    refine lv_iinc (v := (-1 : Int32)) (lv' := [(5, .int (-1 : Int32)), (3, .long (x3 / (5 : Int64))), (0, .ref q6)]) hx hb dX6_take_37 hl (k := 2) rfl (by decide +kernel) (by decide) rfl (fun ls hl => ?_)
    refine lv_goto (tgt := 11) hx hb dX6_take_40 (by decide) ?_
    exact Ks11_m1  (upd g_F ((0 : Int32)).toNatClampNeg (((x3 - x3 / (5 : Int64) * (5 : Int64)).toInt32) - (1 : Int32))) g_R g_C g_L m_rl m_lf m_ov (x3 / (5 : Int64)) H locs ls hP hD hS (lv_sub hl [2, 1, 0] rfl) hR
  have Ks11_1 : ∀  (g_F : Nat → Int32) (g_R : Nat → Int32) (g_C : Nat → Int32) (g_L : Nat → Int32) (m_rl : Int32) (m_lf : Int32) (m_ov : Int32) (x3 : Int64) (H : Heap) (locs : List Loc) (ls : Array Slot), va_P (dC, dI) kcl (mo_W q6 qA qB qF qR qC qL qS qO qY qH qW qM cyI cyJ cyZ m_th m_o m_f m_r m_b m_a u_F u_R g_F g_R g_C g_L m_rl m_lf m_ov m_pl g_S g_O g_Y g_H m_st g_W m_rm m_fs g_M) H → va_D A (mo_W q6 qA qB qF qR qC qL qS qO qY qH qW qM cyI cyJ cyZ m_th m_o m_f m_r m_b m_a u_F u_R g_F g_R g_C g_L m_rl m_lf m_ov m_pl g_S g_O g_Y g_H m_st g_W m_rm m_fs g_M) → va_S A s.heap H locs → lv_has ls 6 [(0, .ref q6), (3, .long x3), (5, .int (1 : Int32))] → cf_X6_take_s11_1  g_F g_R g_C g_L m_rl m_lf m_ov x3 = R → W p l e (headSpec wsX6_take ({ frames := 0, cells := 0, slots := 0, locals := 0 })).room s m ([.ref q6, .long a0] : List Value).toArray below meth c H locs 0 0 (MQ below (mu_Q none (dC, dI) kcl (mo_W q6 qA qB qF qR qC qL qS qO qY qH qW qM cyI cyJ cyZ m_th m_o m_f m_r m_b m_a u_F u_R R.1 R.2.1 R.2.2.1 R.2.2.2.1 R.2.2.2.2.1 R.2.2.2.2.2.1 R.2.2.2.2.2.2 m_pl g_S g_O g_Y g_H m_st g_W m_rm m_fs g_M) A) ([.ref q6, .long a0] : List Value).toArray s 0 0 A) (F0 m 11 ls []) := by
    intro  g_F g_R g_C g_L m_rl m_lf m_ov x3 H locs ls hP hD hS hl hR
    unfold cf_X6_take_s11_1 at hR
    refine lv_iload hx hb dX6_take_11 (lv_at hl 2 rfl) ?_
    refine lv_if_lt (tgt := 43) hx hb dX6_take_13 (by decide) (fun c_0 => absurd c_0 (by decide +kernel)) (fun _ => ?_)
    refine lv_aload_n hx hb dX6_take_16 rfl (lv_at hl 0 rfl) ?_
    refine va_get (D := (dC, dI)) (ci := 4) (v := .ref qF) (C := RX6) (T := TX6) (N := 25) hx hb hts h1_ hown hK hP 0 rfl rfl 8 (by decide) h0_ (fun _ h9 => h9) rfl dX6_take_17 ?_
    refine lv_iload hx hb dX6_take_20 (lv_at hl 2 rfl) ?_
    refine lv_lload_n hx hb dX6_take_22 rfl (lv_at hl 1 rfl) ?_
    refine lv_ldc2 (v := (5 : Int64)) hx hb hown h2_ dX6_take_23 ?_
    refine lv_lrem hx hb dX6_take_26 (by decide +kernel) ?_
    refine lv_l2i (v := ((x3 - x3 / (5 : Int64) * (5 : Int64)).toInt32)) hx hb dX6_take_27 rfl ?_
    refine lv_iconst (v := (1 : Int32)) hx hb dX6_take_28 (by decide +kernel) ?_
    refine lv_isub hx hb dX6_take_29 ?_
    refine va_iast hx hb hK hP hD hS 3 0 rfl rfl (by unfold vp_in; decide +kernel) dX6_take_30 (fun H locs hP hD hS => ?_)
    have hP : va_P (dC, dI) kcl (mo_W q6 qA qB qF qR qC qL qS qO qY qH qW qM cyI cyJ cyZ m_th m_o m_f m_r m_b m_a u_F u_R (upd g_F ((1 : Int32)).toNatClampNeg (((x3 - x3 / (5 : Int64) * (5 : Int64)).toInt32) - (1 : Int32))) g_R g_C g_L m_rl m_lf m_ov m_pl g_S g_O g_Y g_H m_st g_W m_rm m_fs g_M) H := hP
    have hD : va_D A (mo_W q6 qA qB qF qR qC qL qS qO qY qH qW qM cyI cyJ cyZ m_th m_o m_f m_r m_b m_a u_F u_R (upd g_F ((1 : Int32)).toNatClampNeg (((x3 - x3 / (5 : Int64) * (5 : Int64)).toInt32) - (1 : Int32))) g_R g_C g_L m_rl m_lf m_ov m_pl g_S g_O g_Y g_H m_st g_W m_rm m_fs g_M) := hD
    refine lv_lload_n hx hb dX6_take_31 rfl (lv_at hl 1 rfl) ?_
    refine lv_ldc2 (v := (5 : Int64)) hx hb hown h2_ dX6_take_32 ?_
    refine lv_ldiv hx hb dX6_take_35 (by decide +kernel) ?_
    refine lv_lstore_n (lv' := [(3, .long (x3 / (5 : Int64))), (0, .ref q6), (5, .int (1 : Int32))]) hx hb dX6_take_36 rfl hl (by decide) rfl (fun ls hl => ?_)
    refine lv_iinc (v := (0 : Int32)) (lv' := [(5, .int (0 : Int32)), (3, .long (x3 / (5 : Int64))), (0, .ref q6)]) hx hb dX6_take_37 hl (k := 2) rfl (by decide +kernel) (by decide) rfl (fun ls hl => ?_)
    refine lv_goto (tgt := 11) hx hb dX6_take_40 (by decide) ?_
    exact Ks11_0  (upd g_F ((1 : Int32)).toNatClampNeg (((x3 - x3 / (5 : Int64) * (5 : Int64)).toInt32) - (1 : Int32))) g_R g_C g_L m_rl m_lf m_ov (x3 / (5 : Int64)) H locs ls hP hD hS (lv_sub hl [2, 1, 0] rfl) hR
  have Ks11_2 : ∀  (g_F : Nat → Int32) (g_R : Nat → Int32) (g_C : Nat → Int32) (g_L : Nat → Int32) (m_rl : Int32) (m_lf : Int32) (m_ov : Int32) (x3 : Int64) (H : Heap) (locs : List Loc) (ls : Array Slot), va_P (dC, dI) kcl (mo_W q6 qA qB qF qR qC qL qS qO qY qH qW qM cyI cyJ cyZ m_th m_o m_f m_r m_b m_a u_F u_R g_F g_R g_C g_L m_rl m_lf m_ov m_pl g_S g_O g_Y g_H m_st g_W m_rm m_fs g_M) H → va_D A (mo_W q6 qA qB qF qR qC qL qS qO qY qH qW qM cyI cyJ cyZ m_th m_o m_f m_r m_b m_a u_F u_R g_F g_R g_C g_L m_rl m_lf m_ov m_pl g_S g_O g_Y g_H m_st g_W m_rm m_fs g_M) → va_S A s.heap H locs → lv_has ls 6 [(0, .ref q6), (3, .long x3), (5, .int (2 : Int32))] → cf_X6_take_s11_2  g_F g_R g_C g_L m_rl m_lf m_ov x3 = R → W p l e (headSpec wsX6_take ({ frames := 0, cells := 0, slots := 0, locals := 0 })).room s m ([.ref q6, .long a0] : List Value).toArray below meth c H locs 0 0 (MQ below (mu_Q none (dC, dI) kcl (mo_W q6 qA qB qF qR qC qL qS qO qY qH qW qM cyI cyJ cyZ m_th m_o m_f m_r m_b m_a u_F u_R R.1 R.2.1 R.2.2.1 R.2.2.2.1 R.2.2.2.2.1 R.2.2.2.2.2.1 R.2.2.2.2.2.2 m_pl g_S g_O g_Y g_H m_st g_W m_rm m_fs g_M) A) ([.ref q6, .long a0] : List Value).toArray s 0 0 A) (F0 m 11 ls []) := by
    intro  g_F g_R g_C g_L m_rl m_lf m_ov x3 H locs ls hP hD hS hl hR
    unfold cf_X6_take_s11_2 at hR
    refine lv_iload hx hb dX6_take_11 (lv_at hl 2 rfl) ?_
    refine lv_if_lt (tgt := 43) hx hb dX6_take_13 (by decide) (fun c_0 => absurd c_0 (by decide +kernel)) (fun _ => ?_)
    refine lv_aload_n hx hb dX6_take_16 rfl (lv_at hl 0 rfl) ?_
    refine va_get (D := (dC, dI)) (ci := 4) (v := .ref qF) (C := RX6) (T := TX6) (N := 25) hx hb hts h1_ hown hK hP 0 rfl rfl 8 (by decide) h0_ (fun _ h9 => h9) rfl dX6_take_17 ?_
    refine lv_iload hx hb dX6_take_20 (lv_at hl 2 rfl) ?_
    refine lv_lload_n hx hb dX6_take_22 rfl (lv_at hl 1 rfl) ?_
    refine lv_ldc2 (v := (5 : Int64)) hx hb hown h2_ dX6_take_23 ?_
    refine lv_lrem hx hb dX6_take_26 (by decide +kernel) ?_
    refine lv_l2i (v := ((x3 - x3 / (5 : Int64) * (5 : Int64)).toInt32)) hx hb dX6_take_27 rfl ?_
    refine lv_iconst (v := (1 : Int32)) hx hb dX6_take_28 (by decide +kernel) ?_
    refine lv_isub hx hb dX6_take_29 ?_
    refine va_iast hx hb hK hP hD hS 3 0 rfl rfl (by unfold vp_in; decide +kernel) dX6_take_30 (fun H locs hP hD hS => ?_)
    have hP : va_P (dC, dI) kcl (mo_W q6 qA qB qF qR qC qL qS qO qY qH qW qM cyI cyJ cyZ m_th m_o m_f m_r m_b m_a u_F u_R (upd g_F ((2 : Int32)).toNatClampNeg (((x3 - x3 / (5 : Int64) * (5 : Int64)).toInt32) - (1 : Int32))) g_R g_C g_L m_rl m_lf m_ov m_pl g_S g_O g_Y g_H m_st g_W m_rm m_fs g_M) H := hP
    have hD : va_D A (mo_W q6 qA qB qF qR qC qL qS qO qY qH qW qM cyI cyJ cyZ m_th m_o m_f m_r m_b m_a u_F u_R (upd g_F ((2 : Int32)).toNatClampNeg (((x3 - x3 / (5 : Int64) * (5 : Int64)).toInt32) - (1 : Int32))) g_R g_C g_L m_rl m_lf m_ov m_pl g_S g_O g_Y g_H m_st g_W m_rm m_fs g_M) := hD
    refine lv_lload_n hx hb dX6_take_31 rfl (lv_at hl 1 rfl) ?_
    refine lv_ldc2 (v := (5 : Int64)) hx hb hown h2_ dX6_take_32 ?_
    refine lv_ldiv hx hb dX6_take_35 (by decide +kernel) ?_
    refine lv_lstore_n (lv' := [(3, .long (x3 / (5 : Int64))), (0, .ref q6), (5, .int (2 : Int32))]) hx hb dX6_take_36 rfl hl (by decide) rfl (fun ls hl => ?_)
    refine lv_iinc (v := (1 : Int32)) (lv' := [(5, .int (1 : Int32)), (3, .long (x3 / (5 : Int64))), (0, .ref q6)]) hx hb dX6_take_37 hl (k := 2) rfl (by decide +kernel) (by decide) rfl (fun ls hl => ?_)
    refine lv_goto (tgt := 11) hx hb dX6_take_40 (by decide) ?_
    exact Ks11_1  (upd g_F ((2 : Int32)).toNatClampNeg (((x3 - x3 / (5 : Int64) * (5 : Int64)).toInt32) - (1 : Int32))) g_R g_C g_L m_rl m_lf m_ov (x3 / (5 : Int64)) H locs ls hP hD hS (lv_sub hl [2, 1, 0] rfl) hR
  have Ks11_3 : ∀  (g_F : Nat → Int32) (g_R : Nat → Int32) (g_C : Nat → Int32) (g_L : Nat → Int32) (m_rl : Int32) (m_lf : Int32) (m_ov : Int32) (x3 : Int64) (H : Heap) (locs : List Loc) (ls : Array Slot), va_P (dC, dI) kcl (mo_W q6 qA qB qF qR qC qL qS qO qY qH qW qM cyI cyJ cyZ m_th m_o m_f m_r m_b m_a u_F u_R g_F g_R g_C g_L m_rl m_lf m_ov m_pl g_S g_O g_Y g_H m_st g_W m_rm m_fs g_M) H → va_D A (mo_W q6 qA qB qF qR qC qL qS qO qY qH qW qM cyI cyJ cyZ m_th m_o m_f m_r m_b m_a u_F u_R g_F g_R g_C g_L m_rl m_lf m_ov m_pl g_S g_O g_Y g_H m_st g_W m_rm m_fs g_M) → va_S A s.heap H locs → lv_has ls 6 [(0, .ref q6), (3, .long x3), (5, .int (3 : Int32))] → cf_X6_take_s11_3  g_F g_R g_C g_L m_rl m_lf m_ov x3 = R → W p l e (headSpec wsX6_take ({ frames := 0, cells := 0, slots := 0, locals := 0 })).room s m ([.ref q6, .long a0] : List Value).toArray below meth c H locs 0 0 (MQ below (mu_Q none (dC, dI) kcl (mo_W q6 qA qB qF qR qC qL qS qO qY qH qW qM cyI cyJ cyZ m_th m_o m_f m_r m_b m_a u_F u_R R.1 R.2.1 R.2.2.1 R.2.2.2.1 R.2.2.2.2.1 R.2.2.2.2.2.1 R.2.2.2.2.2.2 m_pl g_S g_O g_Y g_H m_st g_W m_rm m_fs g_M) A) ([.ref q6, .long a0] : List Value).toArray s 0 0 A) (F0 m 11 ls []) := by
    intro  g_F g_R g_C g_L m_rl m_lf m_ov x3 H locs ls hP hD hS hl hR
    unfold cf_X6_take_s11_3 at hR
    refine lv_iload hx hb dX6_take_11 (lv_at hl 2 rfl) ?_
    refine lv_if_lt (tgt := 43) hx hb dX6_take_13 (by decide) (fun c_0 => absurd c_0 (by decide +kernel)) (fun _ => ?_)
    refine lv_aload_n hx hb dX6_take_16 rfl (lv_at hl 0 rfl) ?_
    refine va_get (D := (dC, dI)) (ci := 4) (v := .ref qF) (C := RX6) (T := TX6) (N := 25) hx hb hts h1_ hown hK hP 0 rfl rfl 8 (by decide) h0_ (fun _ h9 => h9) rfl dX6_take_17 ?_
    refine lv_iload hx hb dX6_take_20 (lv_at hl 2 rfl) ?_
    refine lv_lload_n hx hb dX6_take_22 rfl (lv_at hl 1 rfl) ?_
    refine lv_ldc2 (v := (5 : Int64)) hx hb hown h2_ dX6_take_23 ?_
    refine lv_lrem hx hb dX6_take_26 (by decide +kernel) ?_
    refine lv_l2i (v := ((x3 - x3 / (5 : Int64) * (5 : Int64)).toInt32)) hx hb dX6_take_27 rfl ?_
    refine lv_iconst (v := (1 : Int32)) hx hb dX6_take_28 (by decide +kernel) ?_
    refine lv_isub hx hb dX6_take_29 ?_
    refine va_iast hx hb hK hP hD hS 3 0 rfl rfl (by unfold vp_in; decide +kernel) dX6_take_30 (fun H locs hP hD hS => ?_)
    have hP : va_P (dC, dI) kcl (mo_W q6 qA qB qF qR qC qL qS qO qY qH qW qM cyI cyJ cyZ m_th m_o m_f m_r m_b m_a u_F u_R (upd g_F ((3 : Int32)).toNatClampNeg (((x3 - x3 / (5 : Int64) * (5 : Int64)).toInt32) - (1 : Int32))) g_R g_C g_L m_rl m_lf m_ov m_pl g_S g_O g_Y g_H m_st g_W m_rm m_fs g_M) H := hP
    have hD : va_D A (mo_W q6 qA qB qF qR qC qL qS qO qY qH qW qM cyI cyJ cyZ m_th m_o m_f m_r m_b m_a u_F u_R (upd g_F ((3 : Int32)).toNatClampNeg (((x3 - x3 / (5 : Int64) * (5 : Int64)).toInt32) - (1 : Int32))) g_R g_C g_L m_rl m_lf m_ov m_pl g_S g_O g_Y g_H m_st g_W m_rm m_fs g_M) := hD
    refine lv_lload_n hx hb dX6_take_31 rfl (lv_at hl 1 rfl) ?_
    refine lv_ldc2 (v := (5 : Int64)) hx hb hown h2_ dX6_take_32 ?_
    refine lv_ldiv hx hb dX6_take_35 (by decide +kernel) ?_
    refine lv_lstore_n (lv' := [(3, .long (x3 / (5 : Int64))), (0, .ref q6), (5, .int (3 : Int32))]) hx hb dX6_take_36 rfl hl (by decide) rfl (fun ls hl => ?_)
    refine lv_iinc (v := (2 : Int32)) (lv' := [(5, .int (2 : Int32)), (3, .long (x3 / (5 : Int64))), (0, .ref q6)]) hx hb dX6_take_37 hl (k := 2) rfl (by decide +kernel) (by decide) rfl (fun ls hl => ?_)
    refine lv_goto (tgt := 11) hx hb dX6_take_40 (by decide) ?_
    exact Ks11_2  (upd g_F ((3 : Int32)).toNatClampNeg (((x3 - x3 / (5 : Int64) * (5 : Int64)).toInt32) - (1 : Int32))) g_R g_C g_L m_rl m_lf m_ov (x3 / (5 : Int64)) H locs ls hP hD hS (lv_sub hl [2, 1, 0] rfl) hR
  have Ks11_4 : ∀  (g_F : Nat → Int32) (g_R : Nat → Int32) (g_C : Nat → Int32) (g_L : Nat → Int32) (m_rl : Int32) (m_lf : Int32) (m_ov : Int32) (x3 : Int64) (H : Heap) (locs : List Loc) (ls : Array Slot), va_P (dC, dI) kcl (mo_W q6 qA qB qF qR qC qL qS qO qY qH qW qM cyI cyJ cyZ m_th m_o m_f m_r m_b m_a u_F u_R g_F g_R g_C g_L m_rl m_lf m_ov m_pl g_S g_O g_Y g_H m_st g_W m_rm m_fs g_M) H → va_D A (mo_W q6 qA qB qF qR qC qL qS qO qY qH qW qM cyI cyJ cyZ m_th m_o m_f m_r m_b m_a u_F u_R g_F g_R g_C g_L m_rl m_lf m_ov m_pl g_S g_O g_Y g_H m_st g_W m_rm m_fs g_M) → va_S A s.heap H locs → lv_has ls 6 [(0, .ref q6), (3, .long x3), (5, .int (4 : Int32))] → cf_X6_take_s11_4  g_F g_R g_C g_L m_rl m_lf m_ov x3 = R → W p l e (headSpec wsX6_take ({ frames := 0, cells := 0, slots := 0, locals := 0 })).room s m ([.ref q6, .long a0] : List Value).toArray below meth c H locs 0 0 (MQ below (mu_Q none (dC, dI) kcl (mo_W q6 qA qB qF qR qC qL qS qO qY qH qW qM cyI cyJ cyZ m_th m_o m_f m_r m_b m_a u_F u_R R.1 R.2.1 R.2.2.1 R.2.2.2.1 R.2.2.2.2.1 R.2.2.2.2.2.1 R.2.2.2.2.2.2 m_pl g_S g_O g_Y g_H m_st g_W m_rm m_fs g_M) A) ([.ref q6, .long a0] : List Value).toArray s 0 0 A) (F0 m 11 ls []) := by
    intro  g_F g_R g_C g_L m_rl m_lf m_ov x3 H locs ls hP hD hS hl hR
    unfold cf_X6_take_s11_4 at hR
    refine lv_iload hx hb dX6_take_11 (lv_at hl 2 rfl) ?_
    refine lv_if_lt (tgt := 43) hx hb dX6_take_13 (by decide) (fun c_0 => absurd c_0 (by decide +kernel)) (fun _ => ?_)
    refine lv_aload_n hx hb dX6_take_16 rfl (lv_at hl 0 rfl) ?_
    refine va_get (D := (dC, dI)) (ci := 4) (v := .ref qF) (C := RX6) (T := TX6) (N := 25) hx hb hts h1_ hown hK hP 0 rfl rfl 8 (by decide) h0_ (fun _ h9 => h9) rfl dX6_take_17 ?_
    refine lv_iload hx hb dX6_take_20 (lv_at hl 2 rfl) ?_
    refine lv_lload_n hx hb dX6_take_22 rfl (lv_at hl 1 rfl) ?_
    refine lv_ldc2 (v := (5 : Int64)) hx hb hown h2_ dX6_take_23 ?_
    refine lv_lrem hx hb dX6_take_26 (by decide +kernel) ?_
    refine lv_l2i (v := ((x3 - x3 / (5 : Int64) * (5 : Int64)).toInt32)) hx hb dX6_take_27 rfl ?_
    refine lv_iconst (v := (1 : Int32)) hx hb dX6_take_28 (by decide +kernel) ?_
    refine lv_isub hx hb dX6_take_29 ?_
    refine va_iast hx hb hK hP hD hS 3 0 rfl rfl (by unfold vp_in; decide +kernel) dX6_take_30 (fun H locs hP hD hS => ?_)
    have hP : va_P (dC, dI) kcl (mo_W q6 qA qB qF qR qC qL qS qO qY qH qW qM cyI cyJ cyZ m_th m_o m_f m_r m_b m_a u_F u_R (upd g_F ((4 : Int32)).toNatClampNeg (((x3 - x3 / (5 : Int64) * (5 : Int64)).toInt32) - (1 : Int32))) g_R g_C g_L m_rl m_lf m_ov m_pl g_S g_O g_Y g_H m_st g_W m_rm m_fs g_M) H := hP
    have hD : va_D A (mo_W q6 qA qB qF qR qC qL qS qO qY qH qW qM cyI cyJ cyZ m_th m_o m_f m_r m_b m_a u_F u_R (upd g_F ((4 : Int32)).toNatClampNeg (((x3 - x3 / (5 : Int64) * (5 : Int64)).toInt32) - (1 : Int32))) g_R g_C g_L m_rl m_lf m_ov m_pl g_S g_O g_Y g_H m_st g_W m_rm m_fs g_M) := hD
    refine lv_lload_n hx hb dX6_take_31 rfl (lv_at hl 1 rfl) ?_
    refine lv_ldc2 (v := (5 : Int64)) hx hb hown h2_ dX6_take_32 ?_
    refine lv_ldiv hx hb dX6_take_35 (by decide +kernel) ?_
    refine lv_lstore_n (lv' := [(3, .long (x3 / (5 : Int64))), (0, .ref q6), (5, .int (4 : Int32))]) hx hb dX6_take_36 rfl hl (by decide) rfl (fun ls hl => ?_)
    refine lv_iinc (v := (3 : Int32)) (lv' := [(5, .int (3 : Int32)), (3, .long (x3 / (5 : Int64))), (0, .ref q6)]) hx hb dX6_take_37 hl (k := 2) rfl (by decide +kernel) (by decide) rfl (fun ls hl => ?_)
    refine lv_goto (tgt := 11) hx hb dX6_take_40 (by decide) ?_
    exact Ks11_3  (upd g_F ((4 : Int32)).toNatClampNeg (((x3 - x3 / (5 : Int64) * (5 : Int64)).toInt32) - (1 : Int32))) g_R g_C g_L m_rl m_lf m_ov (x3 / (5 : Int64)) H locs ls hP hD hS (lv_sub hl [2, 1, 0] rfl) hR
  have Ks11_5 : ∀  (g_F : Nat → Int32) (g_R : Nat → Int32) (g_C : Nat → Int32) (g_L : Nat → Int32) (m_rl : Int32) (m_lf : Int32) (m_ov : Int32) (x3 : Int64) (H : Heap) (locs : List Loc) (ls : Array Slot), va_P (dC, dI) kcl (mo_W q6 qA qB qF qR qC qL qS qO qY qH qW qM cyI cyJ cyZ m_th m_o m_f m_r m_b m_a u_F u_R g_F g_R g_C g_L m_rl m_lf m_ov m_pl g_S g_O g_Y g_H m_st g_W m_rm m_fs g_M) H → va_D A (mo_W q6 qA qB qF qR qC qL qS qO qY qH qW qM cyI cyJ cyZ m_th m_o m_f m_r m_b m_a u_F u_R g_F g_R g_C g_L m_rl m_lf m_ov m_pl g_S g_O g_Y g_H m_st g_W m_rm m_fs g_M) → va_S A s.heap H locs → lv_has ls 6 [(0, .ref q6), (3, .long x3), (5, .int (5 : Int32))] → cf_X6_take_s11_5  g_F g_R g_C g_L m_rl m_lf m_ov x3 = R → W p l e (headSpec wsX6_take ({ frames := 0, cells := 0, slots := 0, locals := 0 })).room s m ([.ref q6, .long a0] : List Value).toArray below meth c H locs 0 0 (MQ below (mu_Q none (dC, dI) kcl (mo_W q6 qA qB qF qR qC qL qS qO qY qH qW qM cyI cyJ cyZ m_th m_o m_f m_r m_b m_a u_F u_R R.1 R.2.1 R.2.2.1 R.2.2.2.1 R.2.2.2.2.1 R.2.2.2.2.2.1 R.2.2.2.2.2.2 m_pl g_S g_O g_Y g_H m_st g_W m_rm m_fs g_M) A) ([.ref q6, .long a0] : List Value).toArray s 0 0 A) (F0 m 11 ls []) := by
    intro  g_F g_R g_C g_L m_rl m_lf m_ov x3 H locs ls hP hD hS hl hR
    unfold cf_X6_take_s11_5 at hR
    refine lv_iload hx hb dX6_take_11 (lv_at hl 2 rfl) ?_
    refine lv_if_lt (tgt := 43) hx hb dX6_take_13 (by decide) (fun c_0 => absurd c_0 (by decide +kernel)) (fun _ => ?_)
    refine lv_aload_n hx hb dX6_take_16 rfl (lv_at hl 0 rfl) ?_
    refine va_get (D := (dC, dI)) (ci := 4) (v := .ref qF) (C := RX6) (T := TX6) (N := 25) hx hb hts h1_ hown hK hP 0 rfl rfl 8 (by decide) h0_ (fun _ h9 => h9) rfl dX6_take_17 ?_
    refine lv_iload hx hb dX6_take_20 (lv_at hl 2 rfl) ?_
    refine lv_lload_n hx hb dX6_take_22 rfl (lv_at hl 1 rfl) ?_
    refine lv_ldc2 (v := (5 : Int64)) hx hb hown h2_ dX6_take_23 ?_
    refine lv_lrem hx hb dX6_take_26 (by decide +kernel) ?_
    refine lv_l2i (v := ((x3 - x3 / (5 : Int64) * (5 : Int64)).toInt32)) hx hb dX6_take_27 rfl ?_
    refine lv_iconst (v := (1 : Int32)) hx hb dX6_take_28 (by decide +kernel) ?_
    refine lv_isub hx hb dX6_take_29 ?_
    refine va_iast hx hb hK hP hD hS 3 0 rfl rfl (by unfold vp_in; decide +kernel) dX6_take_30 (fun H locs hP hD hS => ?_)
    have hP : va_P (dC, dI) kcl (mo_W q6 qA qB qF qR qC qL qS qO qY qH qW qM cyI cyJ cyZ m_th m_o m_f m_r m_b m_a u_F u_R (upd g_F ((5 : Int32)).toNatClampNeg (((x3 - x3 / (5 : Int64) * (5 : Int64)).toInt32) - (1 : Int32))) g_R g_C g_L m_rl m_lf m_ov m_pl g_S g_O g_Y g_H m_st g_W m_rm m_fs g_M) H := hP
    have hD : va_D A (mo_W q6 qA qB qF qR qC qL qS qO qY qH qW qM cyI cyJ cyZ m_th m_o m_f m_r m_b m_a u_F u_R (upd g_F ((5 : Int32)).toNatClampNeg (((x3 - x3 / (5 : Int64) * (5 : Int64)).toInt32) - (1 : Int32))) g_R g_C g_L m_rl m_lf m_ov m_pl g_S g_O g_Y g_H m_st g_W m_rm m_fs g_M) := hD
    refine lv_lload_n hx hb dX6_take_31 rfl (lv_at hl 1 rfl) ?_
    refine lv_ldc2 (v := (5 : Int64)) hx hb hown h2_ dX6_take_32 ?_
    refine lv_ldiv hx hb dX6_take_35 (by decide +kernel) ?_
    refine lv_lstore_n (lv' := [(3, .long (x3 / (5 : Int64))), (0, .ref q6), (5, .int (5 : Int32))]) hx hb dX6_take_36 rfl hl (by decide) rfl (fun ls hl => ?_)
    refine lv_iinc (v := (4 : Int32)) (lv' := [(5, .int (4 : Int32)), (3, .long (x3 / (5 : Int64))), (0, .ref q6)]) hx hb dX6_take_37 hl (k := 2) rfl (by decide +kernel) (by decide) rfl (fun ls hl => ?_)
    refine lv_goto (tgt := 11) hx hb dX6_take_40 (by decide) ?_
    exact Ks11_4  (upd g_F ((5 : Int32)).toNatClampNeg (((x3 - x3 / (5 : Int64) * (5 : Int64)).toInt32) - (1 : Int32))) g_R g_C g_L m_rl m_lf m_ov (x3 / (5 : Int64)) H locs ls hP hD hS (lv_sub hl [2, 1, 0] rfl) hR
  have Ks11_6 : ∀  (g_F : Nat → Int32) (g_R : Nat → Int32) (g_C : Nat → Int32) (g_L : Nat → Int32) (m_rl : Int32) (m_lf : Int32) (m_ov : Int32) (x3 : Int64) (H : Heap) (locs : List Loc) (ls : Array Slot), va_P (dC, dI) kcl (mo_W q6 qA qB qF qR qC qL qS qO qY qH qW qM cyI cyJ cyZ m_th m_o m_f m_r m_b m_a u_F u_R g_F g_R g_C g_L m_rl m_lf m_ov m_pl g_S g_O g_Y g_H m_st g_W m_rm m_fs g_M) H → va_D A (mo_W q6 qA qB qF qR qC qL qS qO qY qH qW qM cyI cyJ cyZ m_th m_o m_f m_r m_b m_a u_F u_R g_F g_R g_C g_L m_rl m_lf m_ov m_pl g_S g_O g_Y g_H m_st g_W m_rm m_fs g_M) → va_S A s.heap H locs → lv_has ls 6 [(0, .ref q6), (3, .long x3), (5, .int (6 : Int32))] → cf_X6_take_s11_6  g_F g_R g_C g_L m_rl m_lf m_ov x3 = R → W p l e (headSpec wsX6_take ({ frames := 0, cells := 0, slots := 0, locals := 0 })).room s m ([.ref q6, .long a0] : List Value).toArray below meth c H locs 0 0 (MQ below (mu_Q none (dC, dI) kcl (mo_W q6 qA qB qF qR qC qL qS qO qY qH qW qM cyI cyJ cyZ m_th m_o m_f m_r m_b m_a u_F u_R R.1 R.2.1 R.2.2.1 R.2.2.2.1 R.2.2.2.2.1 R.2.2.2.2.2.1 R.2.2.2.2.2.2 m_pl g_S g_O g_Y g_H m_st g_W m_rm m_fs g_M) A) ([.ref q6, .long a0] : List Value).toArray s 0 0 A) (F0 m 11 ls []) := by
    intro  g_F g_R g_C g_L m_rl m_lf m_ov x3 H locs ls hP hD hS hl hR
    unfold cf_X6_take_s11_6 at hR
    refine lv_iload hx hb dX6_take_11 (lv_at hl 2 rfl) ?_
    refine lv_if_lt (tgt := 43) hx hb dX6_take_13 (by decide) (fun c_0 => absurd c_0 (by decide +kernel)) (fun _ => ?_)
    refine lv_aload_n hx hb dX6_take_16 rfl (lv_at hl 0 rfl) ?_
    refine va_get (D := (dC, dI)) (ci := 4) (v := .ref qF) (C := RX6) (T := TX6) (N := 25) hx hb hts h1_ hown hK hP 0 rfl rfl 8 (by decide) h0_ (fun _ h9 => h9) rfl dX6_take_17 ?_
    refine lv_iload hx hb dX6_take_20 (lv_at hl 2 rfl) ?_
    refine lv_lload_n hx hb dX6_take_22 rfl (lv_at hl 1 rfl) ?_
    refine lv_ldc2 (v := (5 : Int64)) hx hb hown h2_ dX6_take_23 ?_
    refine lv_lrem hx hb dX6_take_26 (by decide +kernel) ?_
    refine lv_l2i (v := ((x3 - x3 / (5 : Int64) * (5 : Int64)).toInt32)) hx hb dX6_take_27 rfl ?_
    refine lv_iconst (v := (1 : Int32)) hx hb dX6_take_28 (by decide +kernel) ?_
    refine lv_isub hx hb dX6_take_29 ?_
    refine va_iast hx hb hK hP hD hS 3 0 rfl rfl (by unfold vp_in; decide +kernel) dX6_take_30 (fun H locs hP hD hS => ?_)
    have hP : va_P (dC, dI) kcl (mo_W q6 qA qB qF qR qC qL qS qO qY qH qW qM cyI cyJ cyZ m_th m_o m_f m_r m_b m_a u_F u_R (upd g_F ((6 : Int32)).toNatClampNeg (((x3 - x3 / (5 : Int64) * (5 : Int64)).toInt32) - (1 : Int32))) g_R g_C g_L m_rl m_lf m_ov m_pl g_S g_O g_Y g_H m_st g_W m_rm m_fs g_M) H := hP
    have hD : va_D A (mo_W q6 qA qB qF qR qC qL qS qO qY qH qW qM cyI cyJ cyZ m_th m_o m_f m_r m_b m_a u_F u_R (upd g_F ((6 : Int32)).toNatClampNeg (((x3 - x3 / (5 : Int64) * (5 : Int64)).toInt32) - (1 : Int32))) g_R g_C g_L m_rl m_lf m_ov m_pl g_S g_O g_Y g_H m_st g_W m_rm m_fs g_M) := hD
    refine lv_lload_n hx hb dX6_take_31 rfl (lv_at hl 1 rfl) ?_
    refine lv_ldc2 (v := (5 : Int64)) hx hb hown h2_ dX6_take_32 ?_
    refine lv_ldiv hx hb dX6_take_35 (by decide +kernel) ?_
    refine lv_lstore_n (lv' := [(3, .long (x3 / (5 : Int64))), (0, .ref q6), (5, .int (6 : Int32))]) hx hb dX6_take_36 rfl hl (by decide) rfl (fun ls hl => ?_)
    refine lv_iinc (v := (5 : Int32)) (lv' := [(5, .int (5 : Int32)), (3, .long (x3 / (5 : Int64))), (0, .ref q6)]) hx hb dX6_take_37 hl (k := 2) rfl (by decide +kernel) (by decide) rfl (fun ls hl => ?_)
    refine lv_goto (tgt := 11) hx hb dX6_take_40 (by decide) ?_
    exact Ks11_5  (upd g_F ((6 : Int32)).toNatClampNeg (((x3 - x3 / (5 : Int64) * (5 : Int64)).toInt32) - (1 : Int32))) g_R g_C g_L m_rl m_lf m_ov (x3 / (5 : Int64)) H locs ls hP hD hS (lv_sub hl [2, 1, 0] rfl) hR
  have Ks11_7 : ∀  (g_F : Nat → Int32) (g_R : Nat → Int32) (g_C : Nat → Int32) (g_L : Nat → Int32) (m_rl : Int32) (m_lf : Int32) (m_ov : Int32) (x3 : Int64) (H : Heap) (locs : List Loc) (ls : Array Slot), va_P (dC, dI) kcl (mo_W q6 qA qB qF qR qC qL qS qO qY qH qW qM cyI cyJ cyZ m_th m_o m_f m_r m_b m_a u_F u_R g_F g_R g_C g_L m_rl m_lf m_ov m_pl g_S g_O g_Y g_H m_st g_W m_rm m_fs g_M) H → va_D A (mo_W q6 qA qB qF qR qC qL qS qO qY qH qW qM cyI cyJ cyZ m_th m_o m_f m_r m_b m_a u_F u_R g_F g_R g_C g_L m_rl m_lf m_ov m_pl g_S g_O g_Y g_H m_st g_W m_rm m_fs g_M) → va_S A s.heap H locs → lv_has ls 6 [(0, .ref q6), (3, .long x3), (5, .int (7 : Int32))] → cf_X6_take_s11_7  g_F g_R g_C g_L m_rl m_lf m_ov x3 = R → W p l e (headSpec wsX6_take ({ frames := 0, cells := 0, slots := 0, locals := 0 })).room s m ([.ref q6, .long a0] : List Value).toArray below meth c H locs 0 0 (MQ below (mu_Q none (dC, dI) kcl (mo_W q6 qA qB qF qR qC qL qS qO qY qH qW qM cyI cyJ cyZ m_th m_o m_f m_r m_b m_a u_F u_R R.1 R.2.1 R.2.2.1 R.2.2.2.1 R.2.2.2.2.1 R.2.2.2.2.2.1 R.2.2.2.2.2.2 m_pl g_S g_O g_Y g_H m_st g_W m_rm m_fs g_M) A) ([.ref q6, .long a0] : List Value).toArray s 0 0 A) (F0 m 11 ls []) := by
    intro  g_F g_R g_C g_L m_rl m_lf m_ov x3 H locs ls hP hD hS hl hR
    unfold cf_X6_take_s11_7 at hR
    refine lv_iload hx hb dX6_take_11 (lv_at hl 2 rfl) ?_
    refine lv_if_lt (tgt := 43) hx hb dX6_take_13 (by decide) (fun c_0 => absurd c_0 (by decide +kernel)) (fun _ => ?_)
    refine lv_aload_n hx hb dX6_take_16 rfl (lv_at hl 0 rfl) ?_
    refine va_get (D := (dC, dI)) (ci := 4) (v := .ref qF) (C := RX6) (T := TX6) (N := 25) hx hb hts h1_ hown hK hP 0 rfl rfl 8 (by decide) h0_ (fun _ h9 => h9) rfl dX6_take_17 ?_
    refine lv_iload hx hb dX6_take_20 (lv_at hl 2 rfl) ?_
    refine lv_lload_n hx hb dX6_take_22 rfl (lv_at hl 1 rfl) ?_
    refine lv_ldc2 (v := (5 : Int64)) hx hb hown h2_ dX6_take_23 ?_
    refine lv_lrem hx hb dX6_take_26 (by decide +kernel) ?_
    refine lv_l2i (v := ((x3 - x3 / (5 : Int64) * (5 : Int64)).toInt32)) hx hb dX6_take_27 rfl ?_
    refine lv_iconst (v := (1 : Int32)) hx hb dX6_take_28 (by decide +kernel) ?_
    refine lv_isub hx hb dX6_take_29 ?_
    refine va_iast hx hb hK hP hD hS 3 0 rfl rfl (by unfold vp_in; decide +kernel) dX6_take_30 (fun H locs hP hD hS => ?_)
    have hP : va_P (dC, dI) kcl (mo_W q6 qA qB qF qR qC qL qS qO qY qH qW qM cyI cyJ cyZ m_th m_o m_f m_r m_b m_a u_F u_R (upd g_F ((7 : Int32)).toNatClampNeg (((x3 - x3 / (5 : Int64) * (5 : Int64)).toInt32) - (1 : Int32))) g_R g_C g_L m_rl m_lf m_ov m_pl g_S g_O g_Y g_H m_st g_W m_rm m_fs g_M) H := hP
    have hD : va_D A (mo_W q6 qA qB qF qR qC qL qS qO qY qH qW qM cyI cyJ cyZ m_th m_o m_f m_r m_b m_a u_F u_R (upd g_F ((7 : Int32)).toNatClampNeg (((x3 - x3 / (5 : Int64) * (5 : Int64)).toInt32) - (1 : Int32))) g_R g_C g_L m_rl m_lf m_ov m_pl g_S g_O g_Y g_H m_st g_W m_rm m_fs g_M) := hD
    refine lv_lload_n hx hb dX6_take_31 rfl (lv_at hl 1 rfl) ?_
    refine lv_ldc2 (v := (5 : Int64)) hx hb hown h2_ dX6_take_32 ?_
    refine lv_ldiv hx hb dX6_take_35 (by decide +kernel) ?_
    refine lv_lstore_n (lv' := [(3, .long (x3 / (5 : Int64))), (0, .ref q6), (5, .int (7 : Int32))]) hx hb dX6_take_36 rfl hl (by decide) rfl (fun ls hl => ?_)
    refine lv_iinc (v := (6 : Int32)) (lv' := [(5, .int (6 : Int32)), (3, .long (x3 / (5 : Int64))), (0, .ref q6)]) hx hb dX6_take_37 hl (k := 2) rfl (by decide +kernel) (by decide) rfl (fun ls hl => ?_)
    refine lv_goto (tgt := 11) hx hb dX6_take_40 (by decide) ?_
    exact Ks11_6  (upd g_F ((7 : Int32)).toNatClampNeg (((x3 - x3 / (5 : Int64) * (5 : Int64)).toInt32) - (1 : Int32))) g_R g_C g_L m_rl m_lf m_ov (x3 / (5 : Int64)) H locs ls hP hD hS (lv_sub hl [2, 1, 0] rfl) hR
  have hl := lv_entry ([.ref q6, .long a0]) (n := 6) (Nat.le_of_ble_eq_true rfl)
  rw [lg_entry_eq]
  generalize (lg_sl ([.ref q6, .long a0]) ++ List.replicate (6 - (lg_sl ([.ref q6, .long a0])).length) Slot.unset).toArray = ls at hl ⊢
  have hl : lv_has ls 6 [(0, .ref q6), (1, .long a0)] := hl
  unfold cf_X6_take at hR
  refine mu_start (A := A) (fun H locs hP hS => ?_) hP
  refine lv_lload_n hx hb dX6_take_0 rfl (lv_at hl 1 rfl) ?_
  refine lv_lstore_n (lv' := [(3, .long a0), (0, .ref q6), (1, .long a0)]) hx hb dX6_take_1 rfl hl (by decide) rfl (fun ls hl => ?_)
  refine lv_aload_n hx hb dX6_take_2 rfl (lv_at hl 1 rfl) ?_
  refine va_get (D := (dC, dI)) (ci := 4) (v := .ref qF) (C := RX6) (T := TX6) (N := 25) hx hb hts h1_ hown hK hP 0 rfl rfl 8 (by decide) h0_ (fun _ h9 => h9) rfl dX6_take_3 ?_
  refine va_alen hx hb hK hP 3 0 rfl rfl (v := (8 : Int32)) rfl dX6_take_6 ?_
  refine lv_iconst (v := (1 : Int32)) hx hb dX6_take_7 (by decide +kernel) ?_
  refine lv_isub hx hb dX6_take_8 ?_
  refine ek_v (P := fun z => W p l e (headSpec wsX6_take ({ frames := 0, cells := 0, slots := 0, locals := 0 })).room s m ([.ref q6, .long a0] : List Value).toArray below meth c H locs 0 0 _ (F0 m 9 ls (.int z :: []))) (b := (7 : Int32)) (by decide +kernel) ?_
  refine lv_istore (lv' := [(5, .int (7 : Int32)), (3, .long a0), (0, .ref q6), (1, .long a0)]) hx hb dX6_take_9 hl (by decide) rfl (fun ls hl => ?_)
  exact Ks11_7  g_F g_R g_C g_L m_rl m_lf m_ov a0 H locs ls hP hD hS (lv_sub hl [2, 1, 0] rfl) hR

def cf_X6_number_s109_8  (g_F : Nat → Int32) (g_R : Nat → Int32) (g_C : Nat → Int32) (g_L : Nat → Int32) (m_rl : Int32) (m_lf : Int32) (m_ov : Int32) (x1 : Int64) : Int64 :=
  x1
def cf_X6_number_s109_7  (g_F : Nat → Int32) (g_R : Nat → Int32) (g_C : Nat → Int32) (g_L : Nat → Int32) (m_rl : Int32) (m_lf : Int32) (m_ov : Int32) (x1 : Int64) : Int64 :=
  cf_X6_number_s109_8  g_F g_R g_C g_L m_rl m_lf m_ov ((((5 : Int64) * x1) + ((g_F ((7 : Int32)).toNatClampNeg).toInt64)) + (1 : Int64))
def cf_X6_number_s109_6  (g_F : Nat → Int32) (g_R : Nat → Int32) (g_C : Nat → Int32) (g_L : Nat → Int32) (m_rl : Int32) (m_lf : Int32) (m_ov : Int32) (x1 : Int64) : Int64 :=
  cf_X6_number_s109_7  g_F g_R g_C g_L m_rl m_lf m_ov ((((5 : Int64) * x1) + ((g_F ((6 : Int32)).toNatClampNeg).toInt64)) + (1 : Int64))
def cf_X6_number_s109_5  (g_F : Nat → Int32) (g_R : Nat → Int32) (g_C : Nat → Int32) (g_L : Nat → Int32) (m_rl : Int32) (m_lf : Int32) (m_ov : Int32) (x1 : Int64) : Int64 :=
  cf_X6_number_s109_6  g_F g_R g_C g_L m_rl m_lf m_ov ((((5 : Int64) * x1) + ((g_F ((5 : Int32)).toNatClampNeg).toInt64)) + (1 : Int64))
def cf_X6_number_s109_4  (g_F : Nat → Int32) (g_R : Nat → Int32) (g_C : Nat → Int32) (g_L : Nat → Int32) (m_rl : Int32) (m_lf : Int32) (m_ov : Int32) (x1 : Int64) : Int64 :=
  cf_X6_number_s109_5  g_F g_R g_C g_L m_rl m_lf m_ov ((((5 : Int64) * x1) + ((g_F ((4 : Int32)).toNatClampNeg).toInt64)) + (1 : Int64))
def cf_X6_number_s109_3  (g_F : Nat → Int32) (g_R : Nat → Int32) (g_C : Nat → Int32) (g_L : Nat → Int32) (m_rl : Int32) (m_lf : Int32) (m_ov : Int32) (x1 : Int64) : Int64 :=
  cf_X6_number_s109_4  g_F g_R g_C g_L m_rl m_lf m_ov ((((5 : Int64) * x1) + ((g_F ((3 : Int32)).toNatClampNeg).toInt64)) + (1 : Int64))
def cf_X6_number_s109_2  (g_F : Nat → Int32) (g_R : Nat → Int32) (g_C : Nat → Int32) (g_L : Nat → Int32) (m_rl : Int32) (m_lf : Int32) (m_ov : Int32) (x1 : Int64) : Int64 :=
  cf_X6_number_s109_3  g_F g_R g_C g_L m_rl m_lf m_ov ((((5 : Int64) * x1) + ((g_F ((2 : Int32)).toNatClampNeg).toInt64)) + (1 : Int64))
def cf_X6_number_s109_1  (g_F : Nat → Int32) (g_R : Nat → Int32) (g_C : Nat → Int32) (g_L : Nat → Int32) (m_rl : Int32) (m_lf : Int32) (m_ov : Int32) (x1 : Int64) : Int64 :=
  cf_X6_number_s109_2  g_F g_R g_C g_L m_rl m_lf m_ov ((((5 : Int64) * x1) + ((g_F ((1 : Int32)).toNatClampNeg).toInt64)) + (1 : Int64))
def cf_X6_number_s109_0  (g_F : Nat → Int32) (g_R : Nat → Int32) (g_C : Nat → Int32) (g_L : Nat → Int32) (m_rl : Int32) (m_lf : Int32) (m_ov : Int32) (x1 : Int64) : Int64 :=
  cf_X6_number_s109_1  g_F g_R g_C g_L m_rl m_lf m_ov ((((5 : Int64) * x1) + ((g_F ((0 : Int32)).toNatClampNeg).toInt64)) + (1 : Int64))
def cf_X6_number_s68_4  (g_F : Nat → Int32) (g_R : Nat → Int32) (g_C : Nat → Int32) (g_L : Nat → Int32) (m_rl : Int32) (m_lf : Int32) (m_ov : Int32) (x1 : Int64) : Int64 :=
  cf_X6_number_s109_0  g_F g_R g_C g_L m_rl m_lf m_ov x1
def cf_X6_number_s68_3  (g_F : Nat → Int32) (g_R : Nat → Int32) (g_C : Nat → Int32) (g_L : Nat → Int32) (m_rl : Int32) (m_lf : Int32) (m_ov : Int32) (x1 : Int64) : Int64 :=
  cf_X6_number_s68_4  g_F g_R g_C g_L m_rl m_lf m_ov (((3 : Int64) * (((3 : Int64) * x1) + ((g_C ((3 : Int32)).toNatClampNeg).toInt64))) + ((g_L ((3 : Int32)).toNatClampNeg).toInt64))
def cf_X6_number_s68_2  (g_F : Nat → Int32) (g_R : Nat → Int32) (g_C : Nat → Int32) (g_L : Nat → Int32) (m_rl : Int32) (m_lf : Int32) (m_ov : Int32) (x1 : Int64) : Int64 :=
  cf_X6_number_s68_3  g_F g_R g_C g_L m_rl m_lf m_ov (((3 : Int64) * (((3 : Int64) * x1) + ((g_C ((2 : Int32)).toNatClampNeg).toInt64))) + ((g_L ((2 : Int32)).toNatClampNeg).toInt64))
def cf_X6_number_s68_1  (g_F : Nat → Int32) (g_R : Nat → Int32) (g_C : Nat → Int32) (g_L : Nat → Int32) (m_rl : Int32) (m_lf : Int32) (m_ov : Int32) (x1 : Int64) : Int64 :=
  cf_X6_number_s68_2  g_F g_R g_C g_L m_rl m_lf m_ov (((3 : Int64) * (((3 : Int64) * x1) + ((g_C ((1 : Int32)).toNatClampNeg).toInt64))) + ((g_L ((1 : Int32)).toNatClampNeg).toInt64))
def cf_X6_number_s68_0  (g_F : Nat → Int32) (g_R : Nat → Int32) (g_C : Nat → Int32) (g_L : Nat → Int32) (m_rl : Int32) (m_lf : Int32) (m_ov : Int32) (x1 : Int64) : Int64 :=
  cf_X6_number_s68_1  g_F g_R g_C g_L m_rl m_lf m_ov (((3 : Int64) * (((3 : Int64) * x1) + ((g_C ((0 : Int32)).toNatClampNeg).toInt64))) + ((g_L ((0 : Int32)).toNatClampNeg).toInt64))
def cf_X6_number_s39_3  (g_F : Nat → Int32) (g_R : Nat → Int32) (g_C : Nat → Int32) (g_L : Nat → Int32) (m_rl : Int32) (m_lf : Int32) (m_ov : Int32) (x1 : Int64) : Int64 :=
  cf_X6_number_s68_0  g_F g_R g_C g_L m_rl m_lf m_ov x1
def cf_X6_number_s39_2  (g_F : Nat → Int32) (g_R : Nat → Int32) (g_C : Nat → Int32) (g_L : Nat → Int32) (m_rl : Int32) (m_lf : Int32) (m_ov : Int32) (x1 : Int64) : Int64 :=
  cf_X6_number_s39_3  g_F g_R g_C g_L m_rl m_lf m_ov ((((5 : Int64) * x1) + ((g_R ((2 : Int32)).toNatClampNeg).toInt64)) + (1 : Int64))
def cf_X6_number_s39_1  (g_F : Nat → Int32) (g_R : Nat → Int32) (g_C : Nat → Int32) (g_L : Nat → Int32) (m_rl : Int32) (m_lf : Int32) (m_ov : Int32) (x1 : Int64) : Int64 :=
  cf_X6_number_s39_2  g_F g_R g_C g_L m_rl m_lf m_ov ((((5 : Int64) * x1) + ((g_R ((1 : Int32)).toNatClampNeg).toInt64)) + (1 : Int64))
def cf_X6_number_s39_0  (g_F : Nat → Int32) (g_R : Nat → Int32) (g_C : Nat → Int32) (g_L : Nat → Int32) (m_rl : Int32) (m_lf : Int32) (m_ov : Int32) (x1 : Int64) : Int64 :=
  cf_X6_number_s39_1  g_F g_R g_C g_L m_rl m_lf m_ov ((((5 : Int64) * x1) + ((g_R ((0 : Int32)).toNatClampNeg).toInt64)) + (1 : Int64))
def cf_X6_number_s12  (g_F : Nat → Int32) (g_R : Nat → Int32) (g_C : Nat → Int32) (g_L : Nat → Int32) (m_rl : Int32) (m_lf : Int32) (m_ov : Int32) (y0 : Int64) : Int64 :=
  cf_X6_number_s39_0  g_F g_R g_C g_L m_rl m_lf m_ov (((4 : Int64) * (((9 : Int64) * y0) + (m_lf.toInt64))) + (m_rl.toInt64))
def cf_X6_number (g_F : Nat → Int32) (g_R : Nat → Int32) (g_C : Nat → Int32) (g_L : Nat → Int32) (m_rl : Int32) (m_lf : Int32) (m_ov : Int32)  : Int64 :=
  (if m_ov = 0 then cf_X6_number_s12  g_F g_R g_C g_L m_rl m_lf m_ov (0 : Int64) else cf_X6_number_s12  g_F g_R g_C g_L m_rl m_lf m_ov (1 : Int64))
set_option maxHeartbeats 4000000 in
set_option maxRecDepth 100000 in
theorem c_X6_number (l : Launch) (dC : Nat → ClassId) (dI : Nat → Nat → Nat) (q6 qA qB qF qR qC qL qS qO qY qH qW qM : Nat) (cyI cyJ cyZ : ClassId) (m_th : Int32) (m_o : Int32) (m_f : Int32) (m_r : Int32) (m_b : Int32) (m_a : Int32) (u_F : Nat → Int32) (u_R : Nat → Int32) (g_F : Nat → Int32) (g_R : Nat → Int32) (g_C : Nat → Int32) (g_L : Nat → Int32) (m_rl : Int32) (m_lf : Int32) (m_ov : Int32) (m_pl : Int64) (g_S : Nat → Int64) (g_O : Nat → Int32) (g_Y : Nat → Int32) (g_H : Nat → Int32) (m_st : Int32) (g_W : Nat → Int32) (m_rm : Int32) (m_fs : Int32) (g_M : Nat → Int32)    : Met l yX6_number wsX6_number ({ frames := 0, cells := 0, slots := 0, locals := 0 }) (rd_P [.ref q6] (dC, dI) kcl (mo_W q6 qA qB qF qR qC qL qS qO qY qH qW qM cyI cyJ cyZ m_th m_o m_f m_r m_b m_a u_F u_R g_F g_R g_C g_L m_rl m_lf m_ov m_pl g_S g_O g_Y g_H m_st g_W m_rm m_fs g_M) [(cyI, .int), (cyJ, .long), (cyZ, .boolean)]) (rd_Q (some (.long (cf_X6_number g_F g_R g_C g_L m_rl m_lf m_ov )))) 0 0 (fun _ => False) := by
  refine Met.ofW (cc := cX6_number) (maxL := 4) (ret := (some .long)) (by decide) rfl ?_
  intro p e s m args below meth c s₁ B hml hv
  obtain ⟨rfl, hP, hK⟩ := hv
  have hx := B.exec
  have hb := B.bytes
  have hr := B.returns
  have hts := atoms_spec (ws := wsX6_number) B.pre
  have hown : s.vm.findClass RX6 = some m.cls := findClass_of_methodNamed B.named
  have hlocks := B.notSynchronized
  have hP : va_P (dC, dI) kcl (mo_W q6 qA qB qF qR qC qL qS qO qY qH qW qM cyI cyJ cyZ m_th m_o m_f m_r m_b m_a u_F u_R g_F g_R g_C g_L m_rl m_lf m_ov m_pl g_S g_O g_Y g_H m_st g_W m_rm m_fs g_M) s.heap := hP
  have h0_ : (Cond.fieldLink RX6 79 "ColourTrierModel" "isOver" "Z").before _ s = true := hts _ (by decide +kernel)
  have h1_ : ∀ w ∈ u_ws RX6 TX6 25, w ∈ wsX6_number := fun w h => List.mem_cons_of_mem _ (List.mem_append_right _ h)
  have h2_ : (Cond.constantLong RX6 86 (9)).before _ s = true := hts _ (by decide +kernel)
  have h3_ : (Cond.fieldLink RX6 76 "ColourTrierModel" "left" "I").before _ s = true := hts _ (by decide +kernel)
  have h4_ : (Cond.constantLong RX6 88 (4)).before _ s = true := hts _ (by decide +kernel)
  have h5_ : (Cond.fieldLink RX6 70 "ColourTrierModel" "rootsLooked" "I").before _ s = true := hts _ (by decide +kernel)
  have h6_ : (Cond.constantLong RX6 90 (5)).before _ s = true := hts _ (by decide +kernel)
  have h7_ : (Cond.fieldLink RX6 32 "ColourTrierModel" "root" "[I").before _ s = true := hts _ (by decide +kernel)
  have h8_ : (Cond.constantLong RX6 92 (3)).before _ s = true := hts _ (by decide +kernel)
  have h9_ : (Cond.fieldLink RX6 35 "ColourTrierModel" "colour" "[I").before _ s = true := hts _ (by decide +kernel)
  have h10_ : (Cond.fieldLink RX6 38 "ColourTrierModel" "looked" "[I").before _ s = true := hts _ (by decide +kernel)
  have h11_ : (Cond.fieldLink RX6 29 "ColourTrierModel" "field" "[I").before _ s = true := hts _ (by decide +kernel)
  generalize hR : (cf_X6_number g_F g_R g_C g_L m_rl m_lf m_ov ) = R
  have Ks109_8 : ∀  (x1 : Int64) (ls : Array Slot), lv_has ls 4 [(0, .ref q6), (1, .long x1), (3, .int (8 : Int32))] → cf_X6_number_s109_8  g_F g_R g_C g_L m_rl m_lf m_ov x1 = R → W p l e (headSpec wsX6_number ({ frames := 0, cells := 0, slots := 0, locals := 0 })).room s m ([.ref q6] : List Value).toArray below meth c s.heap [] 0 0 (MQ below (rd_Q (some (.long R))) ([.ref q6] : List Value).toArray s 0 0 (fun _ => False)) (F0 m 109 ls []) := by
    intro  x1 ls hl hR
    unfold cf_X6_number_s109_8 at hR
    refine lv_iload_n hx hb dX6_number_109 rfl (lv_at hl 2 rfl) ?_
    refine lv_aload_n hx hb dX6_number_110 rfl (lv_at hl 0 rfl) ?_
    refine va_get (D := (dC, dI)) (ci := 4) (v := .ref qF) (C := RX6) (T := TX6) (N := 25) hx hb hts h1_ hown hK hP 0 rfl rfl 8 (by decide) h11_ (fun _ h9 => h9) rfl dX6_number_111 ?_
    refine va_alen hx hb hK hP 3 0 rfl rfl (v := (8 : Int32)) rfl dX6_number_114 ?_
    refine lv_icmp_ge (tgt := 140) hx hb dX6_number_115 (by decide) (fun _ => ?_) (fun c_0 => absurd c_0 (by decide +kernel))
    refine lv_lload_n hx hb dX6_number_140 rfl (lv_at hl 1 rfl) ?_
    exact W.lret (v := x1) hx hb hr (fun t ht _ => ⟨congrArg (fun z => Outcome.returned (some (Value.long z))) hR, ht⟩) t_nil dX6_number_141
  have Ks109_7 : ∀  (x1 : Int64) (ls : Array Slot), lv_has ls 4 [(0, .ref q6), (1, .long x1), (3, .int (7 : Int32))] → cf_X6_number_s109_7  g_F g_R g_C g_L m_rl m_lf m_ov x1 = R → W p l e (headSpec wsX6_number ({ frames := 0, cells := 0, slots := 0, locals := 0 })).room s m ([.ref q6] : List Value).toArray below meth c s.heap [] 0 0 (MQ below (rd_Q (some (.long R))) ([.ref q6] : List Value).toArray s 0 0 (fun _ => False)) (F0 m 109 ls []) := by
    intro  x1 ls hl hR
    unfold cf_X6_number_s109_7 at hR
    refine lv_iload_n hx hb dX6_number_109 rfl (lv_at hl 2 rfl) ?_
    refine lv_aload_n hx hb dX6_number_110 rfl (lv_at hl 0 rfl) ?_
    refine va_get (D := (dC, dI)) (ci := 4) (v := .ref qF) (C := RX6) (T := TX6) (N := 25) hx hb hts h1_ hown hK hP 0 rfl rfl 8 (by decide) h11_ (fun _ h9 => h9) rfl dX6_number_111 ?_
    refine va_alen hx hb hK hP 3 0 rfl rfl (v := (8 : Int32)) rfl dX6_number_114 ?_
    refine lv_icmp_ge (tgt := 140) hx hb dX6_number_115 (by decide) (fun c_0 => absurd c_0 (by decide +kernel)) (fun _ => ?_)
    refine lv_ldc2 (v := (5 : Int64)) hx hb hown h6_ dX6_number_118 ?_
    refine lv_lload_n hx hb dX6_number_121 rfl (lv_at hl 1 rfl) ?_
    refine lv_lmul hx hb dX6_number_122 ?_
    refine lv_aload_n hx hb dX6_number_123 rfl (lv_at hl 0 rfl) ?_
    refine va_get (D := (dC, dI)) (ci := 4) (v := .ref qF) (C := RX6) (T := TX6) (N := 25) hx hb hts h1_ hown hK hP 0 rfl rfl 8 (by decide) h11_ (fun _ h9 => h9) rfl dX6_number_124 ?_
    refine lv_iload_n hx hb dX6_number_127 rfl (lv_at hl 2 rfl) ?_
    refine va_iald hx hb hK hP 3 0 rfl rfl (by unfold vp_in; decide +kernel) dX6_number_128 ?_
    refine lv_i2l (v := ((g_F ((7 : Int32)).toNatClampNeg).toInt64)) hx hb dX6_number_129 rfl ?_
    refine lv_ladd hx hb dX6_number_130 ?_
    refine lv_lconst (v := (1 : Int64)) hx hb dX6_number_131 (by decide +kernel) ?_
    refine lv_ladd hx hb dX6_number_132 ?_
    refine lv_lstore_n (lv' := [(1, .long ((((5 : Int64) * x1) + ((g_F ((7 : Int32)).toNatClampNeg).toInt64)) + (1 : Int64))), (0, .ref q6), (3, .int (7 : Int32))]) hx hb dX6_number_133 rfl hl (by decide) rfl (fun ls hl => ?_)
    refine lv_iinc (v := (8 : Int32)) (lv' := [(3, .int (8 : Int32)), (1, .long ((((5 : Int64) * x1) + ((g_F ((7 : Int32)).toNatClampNeg).toInt64)) + (1 : Int64))), (0, .ref q6)]) hx hb dX6_number_134 hl (k := 2) rfl (by decide +kernel) (by decide) rfl (fun ls hl => ?_)
    refine lv_goto (tgt := 109) hx hb dX6_number_137 (by decide) ?_
    exact Ks109_8  ((((5 : Int64) * x1) + ((g_F ((7 : Int32)).toNatClampNeg).toInt64)) + (1 : Int64)) ls (lv_sub hl [2, 1, 0] rfl) hR
  have Ks109_6 : ∀  (x1 : Int64) (ls : Array Slot), lv_has ls 4 [(0, .ref q6), (1, .long x1), (3, .int (6 : Int32))] → cf_X6_number_s109_6  g_F g_R g_C g_L m_rl m_lf m_ov x1 = R → W p l e (headSpec wsX6_number ({ frames := 0, cells := 0, slots := 0, locals := 0 })).room s m ([.ref q6] : List Value).toArray below meth c s.heap [] 0 0 (MQ below (rd_Q (some (.long R))) ([.ref q6] : List Value).toArray s 0 0 (fun _ => False)) (F0 m 109 ls []) := by
    intro  x1 ls hl hR
    unfold cf_X6_number_s109_6 at hR
    refine lv_iload_n hx hb dX6_number_109 rfl (lv_at hl 2 rfl) ?_
    refine lv_aload_n hx hb dX6_number_110 rfl (lv_at hl 0 rfl) ?_
    refine va_get (D := (dC, dI)) (ci := 4) (v := .ref qF) (C := RX6) (T := TX6) (N := 25) hx hb hts h1_ hown hK hP 0 rfl rfl 8 (by decide) h11_ (fun _ h9 => h9) rfl dX6_number_111 ?_
    refine va_alen hx hb hK hP 3 0 rfl rfl (v := (8 : Int32)) rfl dX6_number_114 ?_
    refine lv_icmp_ge (tgt := 140) hx hb dX6_number_115 (by decide) (fun c_0 => absurd c_0 (by decide +kernel)) (fun _ => ?_)
    refine lv_ldc2 (v := (5 : Int64)) hx hb hown h6_ dX6_number_118 ?_
    refine lv_lload_n hx hb dX6_number_121 rfl (lv_at hl 1 rfl) ?_
    refine lv_lmul hx hb dX6_number_122 ?_
    refine lv_aload_n hx hb dX6_number_123 rfl (lv_at hl 0 rfl) ?_
    refine va_get (D := (dC, dI)) (ci := 4) (v := .ref qF) (C := RX6) (T := TX6) (N := 25) hx hb hts h1_ hown hK hP 0 rfl rfl 8 (by decide) h11_ (fun _ h9 => h9) rfl dX6_number_124 ?_
    refine lv_iload_n hx hb dX6_number_127 rfl (lv_at hl 2 rfl) ?_
    refine va_iald hx hb hK hP 3 0 rfl rfl (by unfold vp_in; decide +kernel) dX6_number_128 ?_
    refine lv_i2l (v := ((g_F ((6 : Int32)).toNatClampNeg).toInt64)) hx hb dX6_number_129 rfl ?_
    refine lv_ladd hx hb dX6_number_130 ?_
    refine lv_lconst (v := (1 : Int64)) hx hb dX6_number_131 (by decide +kernel) ?_
    refine lv_ladd hx hb dX6_number_132 ?_
    refine lv_lstore_n (lv' := [(1, .long ((((5 : Int64) * x1) + ((g_F ((6 : Int32)).toNatClampNeg).toInt64)) + (1 : Int64))), (0, .ref q6), (3, .int (6 : Int32))]) hx hb dX6_number_133 rfl hl (by decide) rfl (fun ls hl => ?_)
    refine lv_iinc (v := (7 : Int32)) (lv' := [(3, .int (7 : Int32)), (1, .long ((((5 : Int64) * x1) + ((g_F ((6 : Int32)).toNatClampNeg).toInt64)) + (1 : Int64))), (0, .ref q6)]) hx hb dX6_number_134 hl (k := 2) rfl (by decide +kernel) (by decide) rfl (fun ls hl => ?_)
    refine lv_goto (tgt := 109) hx hb dX6_number_137 (by decide) ?_
    exact Ks109_7  ((((5 : Int64) * x1) + ((g_F ((6 : Int32)).toNatClampNeg).toInt64)) + (1 : Int64)) ls (lv_sub hl [2, 1, 0] rfl) hR
  have Ks109_5 : ∀  (x1 : Int64) (ls : Array Slot), lv_has ls 4 [(0, .ref q6), (1, .long x1), (3, .int (5 : Int32))] → cf_X6_number_s109_5  g_F g_R g_C g_L m_rl m_lf m_ov x1 = R → W p l e (headSpec wsX6_number ({ frames := 0, cells := 0, slots := 0, locals := 0 })).room s m ([.ref q6] : List Value).toArray below meth c s.heap [] 0 0 (MQ below (rd_Q (some (.long R))) ([.ref q6] : List Value).toArray s 0 0 (fun _ => False)) (F0 m 109 ls []) := by
    intro  x1 ls hl hR
    unfold cf_X6_number_s109_5 at hR
    refine lv_iload_n hx hb dX6_number_109 rfl (lv_at hl 2 rfl) ?_
    refine lv_aload_n hx hb dX6_number_110 rfl (lv_at hl 0 rfl) ?_
    refine va_get (D := (dC, dI)) (ci := 4) (v := .ref qF) (C := RX6) (T := TX6) (N := 25) hx hb hts h1_ hown hK hP 0 rfl rfl 8 (by decide) h11_ (fun _ h9 => h9) rfl dX6_number_111 ?_
    refine va_alen hx hb hK hP 3 0 rfl rfl (v := (8 : Int32)) rfl dX6_number_114 ?_
    refine lv_icmp_ge (tgt := 140) hx hb dX6_number_115 (by decide) (fun c_0 => absurd c_0 (by decide +kernel)) (fun _ => ?_)
    refine lv_ldc2 (v := (5 : Int64)) hx hb hown h6_ dX6_number_118 ?_
    refine lv_lload_n hx hb dX6_number_121 rfl (lv_at hl 1 rfl) ?_
    refine lv_lmul hx hb dX6_number_122 ?_
    refine lv_aload_n hx hb dX6_number_123 rfl (lv_at hl 0 rfl) ?_
    refine va_get (D := (dC, dI)) (ci := 4) (v := .ref qF) (C := RX6) (T := TX6) (N := 25) hx hb hts h1_ hown hK hP 0 rfl rfl 8 (by decide) h11_ (fun _ h9 => h9) rfl dX6_number_124 ?_
    refine lv_iload_n hx hb dX6_number_127 rfl (lv_at hl 2 rfl) ?_
    refine va_iald hx hb hK hP 3 0 rfl rfl (by unfold vp_in; decide +kernel) dX6_number_128 ?_
    refine lv_i2l (v := ((g_F ((5 : Int32)).toNatClampNeg).toInt64)) hx hb dX6_number_129 rfl ?_
    refine lv_ladd hx hb dX6_number_130 ?_
    refine lv_lconst (v := (1 : Int64)) hx hb dX6_number_131 (by decide +kernel) ?_
    refine lv_ladd hx hb dX6_number_132 ?_
    refine lv_lstore_n (lv' := [(1, .long ((((5 : Int64) * x1) + ((g_F ((5 : Int32)).toNatClampNeg).toInt64)) + (1 : Int64))), (0, .ref q6), (3, .int (5 : Int32))]) hx hb dX6_number_133 rfl hl (by decide) rfl (fun ls hl => ?_)
    refine lv_iinc (v := (6 : Int32)) (lv' := [(3, .int (6 : Int32)), (1, .long ((((5 : Int64) * x1) + ((g_F ((5 : Int32)).toNatClampNeg).toInt64)) + (1 : Int64))), (0, .ref q6)]) hx hb dX6_number_134 hl (k := 2) rfl (by decide +kernel) (by decide) rfl (fun ls hl => ?_)
    refine lv_goto (tgt := 109) hx hb dX6_number_137 (by decide) ?_
    exact Ks109_6  ((((5 : Int64) * x1) + ((g_F ((5 : Int32)).toNatClampNeg).toInt64)) + (1 : Int64)) ls (lv_sub hl [2, 1, 0] rfl) hR
  have Ks109_4 : ∀  (x1 : Int64) (ls : Array Slot), lv_has ls 4 [(0, .ref q6), (1, .long x1), (3, .int (4 : Int32))] → cf_X6_number_s109_4  g_F g_R g_C g_L m_rl m_lf m_ov x1 = R → W p l e (headSpec wsX6_number ({ frames := 0, cells := 0, slots := 0, locals := 0 })).room s m ([.ref q6] : List Value).toArray below meth c s.heap [] 0 0 (MQ below (rd_Q (some (.long R))) ([.ref q6] : List Value).toArray s 0 0 (fun _ => False)) (F0 m 109 ls []) := by
    intro  x1 ls hl hR
    unfold cf_X6_number_s109_4 at hR
    refine lv_iload_n hx hb dX6_number_109 rfl (lv_at hl 2 rfl) ?_
    refine lv_aload_n hx hb dX6_number_110 rfl (lv_at hl 0 rfl) ?_
    refine va_get (D := (dC, dI)) (ci := 4) (v := .ref qF) (C := RX6) (T := TX6) (N := 25) hx hb hts h1_ hown hK hP 0 rfl rfl 8 (by decide) h11_ (fun _ h9 => h9) rfl dX6_number_111 ?_
    refine va_alen hx hb hK hP 3 0 rfl rfl (v := (8 : Int32)) rfl dX6_number_114 ?_
    refine lv_icmp_ge (tgt := 140) hx hb dX6_number_115 (by decide) (fun c_0 => absurd c_0 (by decide +kernel)) (fun _ => ?_)
    refine lv_ldc2 (v := (5 : Int64)) hx hb hown h6_ dX6_number_118 ?_
    refine lv_lload_n hx hb dX6_number_121 rfl (lv_at hl 1 rfl) ?_
    refine lv_lmul hx hb dX6_number_122 ?_
    refine lv_aload_n hx hb dX6_number_123 rfl (lv_at hl 0 rfl) ?_
    refine va_get (D := (dC, dI)) (ci := 4) (v := .ref qF) (C := RX6) (T := TX6) (N := 25) hx hb hts h1_ hown hK hP 0 rfl rfl 8 (by decide) h11_ (fun _ h9 => h9) rfl dX6_number_124 ?_
    refine lv_iload_n hx hb dX6_number_127 rfl (lv_at hl 2 rfl) ?_
    refine va_iald hx hb hK hP 3 0 rfl rfl (by unfold vp_in; decide +kernel) dX6_number_128 ?_
    refine lv_i2l (v := ((g_F ((4 : Int32)).toNatClampNeg).toInt64)) hx hb dX6_number_129 rfl ?_
    refine lv_ladd hx hb dX6_number_130 ?_
    refine lv_lconst (v := (1 : Int64)) hx hb dX6_number_131 (by decide +kernel) ?_
    refine lv_ladd hx hb dX6_number_132 ?_
    refine lv_lstore_n (lv' := [(1, .long ((((5 : Int64) * x1) + ((g_F ((4 : Int32)).toNatClampNeg).toInt64)) + (1 : Int64))), (0, .ref q6), (3, .int (4 : Int32))]) hx hb dX6_number_133 rfl hl (by decide) rfl (fun ls hl => ?_)
    refine lv_iinc (v := (5 : Int32)) (lv' := [(3, .int (5 : Int32)), (1, .long ((((5 : Int64) * x1) + ((g_F ((4 : Int32)).toNatClampNeg).toInt64)) + (1 : Int64))), (0, .ref q6)]) hx hb dX6_number_134 hl (k := 2) rfl (by decide +kernel) (by decide) rfl (fun ls hl => ?_)
    refine lv_goto (tgt := 109) hx hb dX6_number_137 (by decide) ?_
    exact Ks109_5  ((((5 : Int64) * x1) + ((g_F ((4 : Int32)).toNatClampNeg).toInt64)) + (1 : Int64)) ls (lv_sub hl [2, 1, 0] rfl) hR
  have Ks109_3 : ∀  (x1 : Int64) (ls : Array Slot), lv_has ls 4 [(0, .ref q6), (1, .long x1), (3, .int (3 : Int32))] → cf_X6_number_s109_3  g_F g_R g_C g_L m_rl m_lf m_ov x1 = R → W p l e (headSpec wsX6_number ({ frames := 0, cells := 0, slots := 0, locals := 0 })).room s m ([.ref q6] : List Value).toArray below meth c s.heap [] 0 0 (MQ below (rd_Q (some (.long R))) ([.ref q6] : List Value).toArray s 0 0 (fun _ => False)) (F0 m 109 ls []) := by
    intro  x1 ls hl hR
    unfold cf_X6_number_s109_3 at hR
    refine lv_iload_n hx hb dX6_number_109 rfl (lv_at hl 2 rfl) ?_
    refine lv_aload_n hx hb dX6_number_110 rfl (lv_at hl 0 rfl) ?_
    refine va_get (D := (dC, dI)) (ci := 4) (v := .ref qF) (C := RX6) (T := TX6) (N := 25) hx hb hts h1_ hown hK hP 0 rfl rfl 8 (by decide) h11_ (fun _ h9 => h9) rfl dX6_number_111 ?_
    refine va_alen hx hb hK hP 3 0 rfl rfl (v := (8 : Int32)) rfl dX6_number_114 ?_
    refine lv_icmp_ge (tgt := 140) hx hb dX6_number_115 (by decide) (fun c_0 => absurd c_0 (by decide +kernel)) (fun _ => ?_)
    refine lv_ldc2 (v := (5 : Int64)) hx hb hown h6_ dX6_number_118 ?_
    refine lv_lload_n hx hb dX6_number_121 rfl (lv_at hl 1 rfl) ?_
    refine lv_lmul hx hb dX6_number_122 ?_
    refine lv_aload_n hx hb dX6_number_123 rfl (lv_at hl 0 rfl) ?_
    refine va_get (D := (dC, dI)) (ci := 4) (v := .ref qF) (C := RX6) (T := TX6) (N := 25) hx hb hts h1_ hown hK hP 0 rfl rfl 8 (by decide) h11_ (fun _ h9 => h9) rfl dX6_number_124 ?_
    refine lv_iload_n hx hb dX6_number_127 rfl (lv_at hl 2 rfl) ?_
    refine va_iald hx hb hK hP 3 0 rfl rfl (by unfold vp_in; decide +kernel) dX6_number_128 ?_
    refine lv_i2l (v := ((g_F ((3 : Int32)).toNatClampNeg).toInt64)) hx hb dX6_number_129 rfl ?_
    refine lv_ladd hx hb dX6_number_130 ?_
    refine lv_lconst (v := (1 : Int64)) hx hb dX6_number_131 (by decide +kernel) ?_
    refine lv_ladd hx hb dX6_number_132 ?_
    refine lv_lstore_n (lv' := [(1, .long ((((5 : Int64) * x1) + ((g_F ((3 : Int32)).toNatClampNeg).toInt64)) + (1 : Int64))), (0, .ref q6), (3, .int (3 : Int32))]) hx hb dX6_number_133 rfl hl (by decide) rfl (fun ls hl => ?_)
    refine lv_iinc (v := (4 : Int32)) (lv' := [(3, .int (4 : Int32)), (1, .long ((((5 : Int64) * x1) + ((g_F ((3 : Int32)).toNatClampNeg).toInt64)) + (1 : Int64))), (0, .ref q6)]) hx hb dX6_number_134 hl (k := 2) rfl (by decide +kernel) (by decide) rfl (fun ls hl => ?_)
    refine lv_goto (tgt := 109) hx hb dX6_number_137 (by decide) ?_
    exact Ks109_4  ((((5 : Int64) * x1) + ((g_F ((3 : Int32)).toNatClampNeg).toInt64)) + (1 : Int64)) ls (lv_sub hl [2, 1, 0] rfl) hR
  have Ks109_2 : ∀  (x1 : Int64) (ls : Array Slot), lv_has ls 4 [(0, .ref q6), (1, .long x1), (3, .int (2 : Int32))] → cf_X6_number_s109_2  g_F g_R g_C g_L m_rl m_lf m_ov x1 = R → W p l e (headSpec wsX6_number ({ frames := 0, cells := 0, slots := 0, locals := 0 })).room s m ([.ref q6] : List Value).toArray below meth c s.heap [] 0 0 (MQ below (rd_Q (some (.long R))) ([.ref q6] : List Value).toArray s 0 0 (fun _ => False)) (F0 m 109 ls []) := by
    intro  x1 ls hl hR
    unfold cf_X6_number_s109_2 at hR
    refine lv_iload_n hx hb dX6_number_109 rfl (lv_at hl 2 rfl) ?_
    refine lv_aload_n hx hb dX6_number_110 rfl (lv_at hl 0 rfl) ?_
    refine va_get (D := (dC, dI)) (ci := 4) (v := .ref qF) (C := RX6) (T := TX6) (N := 25) hx hb hts h1_ hown hK hP 0 rfl rfl 8 (by decide) h11_ (fun _ h9 => h9) rfl dX6_number_111 ?_
    refine va_alen hx hb hK hP 3 0 rfl rfl (v := (8 : Int32)) rfl dX6_number_114 ?_
    refine lv_icmp_ge (tgt := 140) hx hb dX6_number_115 (by decide) (fun c_0 => absurd c_0 (by decide +kernel)) (fun _ => ?_)
    refine lv_ldc2 (v := (5 : Int64)) hx hb hown h6_ dX6_number_118 ?_
    refine lv_lload_n hx hb dX6_number_121 rfl (lv_at hl 1 rfl) ?_
    refine lv_lmul hx hb dX6_number_122 ?_
    refine lv_aload_n hx hb dX6_number_123 rfl (lv_at hl 0 rfl) ?_
    refine va_get (D := (dC, dI)) (ci := 4) (v := .ref qF) (C := RX6) (T := TX6) (N := 25) hx hb hts h1_ hown hK hP 0 rfl rfl 8 (by decide) h11_ (fun _ h9 => h9) rfl dX6_number_124 ?_
    refine lv_iload_n hx hb dX6_number_127 rfl (lv_at hl 2 rfl) ?_
    refine va_iald hx hb hK hP 3 0 rfl rfl (by unfold vp_in; decide +kernel) dX6_number_128 ?_
    refine lv_i2l (v := ((g_F ((2 : Int32)).toNatClampNeg).toInt64)) hx hb dX6_number_129 rfl ?_
    refine lv_ladd hx hb dX6_number_130 ?_
    refine lv_lconst (v := (1 : Int64)) hx hb dX6_number_131 (by decide +kernel) ?_
    refine lv_ladd hx hb dX6_number_132 ?_
    refine lv_lstore_n (lv' := [(1, .long ((((5 : Int64) * x1) + ((g_F ((2 : Int32)).toNatClampNeg).toInt64)) + (1 : Int64))), (0, .ref q6), (3, .int (2 : Int32))]) hx hb dX6_number_133 rfl hl (by decide) rfl (fun ls hl => ?_)
    refine lv_iinc (v := (3 : Int32)) (lv' := [(3, .int (3 : Int32)), (1, .long ((((5 : Int64) * x1) + ((g_F ((2 : Int32)).toNatClampNeg).toInt64)) + (1 : Int64))), (0, .ref q6)]) hx hb dX6_number_134 hl (k := 2) rfl (by decide +kernel) (by decide) rfl (fun ls hl => ?_)
    refine lv_goto (tgt := 109) hx hb dX6_number_137 (by decide) ?_
    exact Ks109_3  ((((5 : Int64) * x1) + ((g_F ((2 : Int32)).toNatClampNeg).toInt64)) + (1 : Int64)) ls (lv_sub hl [2, 1, 0] rfl) hR
  have Ks109_1 : ∀  (x1 : Int64) (ls : Array Slot), lv_has ls 4 [(0, .ref q6), (1, .long x1), (3, .int (1 : Int32))] → cf_X6_number_s109_1  g_F g_R g_C g_L m_rl m_lf m_ov x1 = R → W p l e (headSpec wsX6_number ({ frames := 0, cells := 0, slots := 0, locals := 0 })).room s m ([.ref q6] : List Value).toArray below meth c s.heap [] 0 0 (MQ below (rd_Q (some (.long R))) ([.ref q6] : List Value).toArray s 0 0 (fun _ => False)) (F0 m 109 ls []) := by
    intro  x1 ls hl hR
    unfold cf_X6_number_s109_1 at hR
    refine lv_iload_n hx hb dX6_number_109 rfl (lv_at hl 2 rfl) ?_
    refine lv_aload_n hx hb dX6_number_110 rfl (lv_at hl 0 rfl) ?_
    refine va_get (D := (dC, dI)) (ci := 4) (v := .ref qF) (C := RX6) (T := TX6) (N := 25) hx hb hts h1_ hown hK hP 0 rfl rfl 8 (by decide) h11_ (fun _ h9 => h9) rfl dX6_number_111 ?_
    refine va_alen hx hb hK hP 3 0 rfl rfl (v := (8 : Int32)) rfl dX6_number_114 ?_
    refine lv_icmp_ge (tgt := 140) hx hb dX6_number_115 (by decide) (fun c_0 => absurd c_0 (by decide +kernel)) (fun _ => ?_)
    refine lv_ldc2 (v := (5 : Int64)) hx hb hown h6_ dX6_number_118 ?_
    refine lv_lload_n hx hb dX6_number_121 rfl (lv_at hl 1 rfl) ?_
    refine lv_lmul hx hb dX6_number_122 ?_
    refine lv_aload_n hx hb dX6_number_123 rfl (lv_at hl 0 rfl) ?_
    refine va_get (D := (dC, dI)) (ci := 4) (v := .ref qF) (C := RX6) (T := TX6) (N := 25) hx hb hts h1_ hown hK hP 0 rfl rfl 8 (by decide) h11_ (fun _ h9 => h9) rfl dX6_number_124 ?_
    refine lv_iload_n hx hb dX6_number_127 rfl (lv_at hl 2 rfl) ?_
    refine va_iald hx hb hK hP 3 0 rfl rfl (by unfold vp_in; decide +kernel) dX6_number_128 ?_
    refine lv_i2l (v := ((g_F ((1 : Int32)).toNatClampNeg).toInt64)) hx hb dX6_number_129 rfl ?_
    refine lv_ladd hx hb dX6_number_130 ?_
    refine lv_lconst (v := (1 : Int64)) hx hb dX6_number_131 (by decide +kernel) ?_
    refine lv_ladd hx hb dX6_number_132 ?_
    refine lv_lstore_n (lv' := [(1, .long ((((5 : Int64) * x1) + ((g_F ((1 : Int32)).toNatClampNeg).toInt64)) + (1 : Int64))), (0, .ref q6), (3, .int (1 : Int32))]) hx hb dX6_number_133 rfl hl (by decide) rfl (fun ls hl => ?_)
    refine lv_iinc (v := (2 : Int32)) (lv' := [(3, .int (2 : Int32)), (1, .long ((((5 : Int64) * x1) + ((g_F ((1 : Int32)).toNatClampNeg).toInt64)) + (1 : Int64))), (0, .ref q6)]) hx hb dX6_number_134 hl (k := 2) rfl (by decide +kernel) (by decide) rfl (fun ls hl => ?_)
    refine lv_goto (tgt := 109) hx hb dX6_number_137 (by decide) ?_
    exact Ks109_2  ((((5 : Int64) * x1) + ((g_F ((1 : Int32)).toNatClampNeg).toInt64)) + (1 : Int64)) ls (lv_sub hl [2, 1, 0] rfl) hR
  have Ks109_0 : ∀  (x1 : Int64) (ls : Array Slot), lv_has ls 4 [(0, .ref q6), (1, .long x1), (3, .int (0 : Int32))] → cf_X6_number_s109_0  g_F g_R g_C g_L m_rl m_lf m_ov x1 = R → W p l e (headSpec wsX6_number ({ frames := 0, cells := 0, slots := 0, locals := 0 })).room s m ([.ref q6] : List Value).toArray below meth c s.heap [] 0 0 (MQ below (rd_Q (some (.long R))) ([.ref q6] : List Value).toArray s 0 0 (fun _ => False)) (F0 m 109 ls []) := by
    intro  x1 ls hl hR
    unfold cf_X6_number_s109_0 at hR
    refine lv_iload_n hx hb dX6_number_109 rfl (lv_at hl 2 rfl) ?_
    refine lv_aload_n hx hb dX6_number_110 rfl (lv_at hl 0 rfl) ?_
    refine va_get (D := (dC, dI)) (ci := 4) (v := .ref qF) (C := RX6) (T := TX6) (N := 25) hx hb hts h1_ hown hK hP 0 rfl rfl 8 (by decide) h11_ (fun _ h9 => h9) rfl dX6_number_111 ?_
    refine va_alen hx hb hK hP 3 0 rfl rfl (v := (8 : Int32)) rfl dX6_number_114 ?_
    refine lv_icmp_ge (tgt := 140) hx hb dX6_number_115 (by decide) (fun c_0 => absurd c_0 (by decide +kernel)) (fun _ => ?_)
    refine lv_ldc2 (v := (5 : Int64)) hx hb hown h6_ dX6_number_118 ?_
    refine lv_lload_n hx hb dX6_number_121 rfl (lv_at hl 1 rfl) ?_
    refine lv_lmul hx hb dX6_number_122 ?_
    refine lv_aload_n hx hb dX6_number_123 rfl (lv_at hl 0 rfl) ?_
    refine va_get (D := (dC, dI)) (ci := 4) (v := .ref qF) (C := RX6) (T := TX6) (N := 25) hx hb hts h1_ hown hK hP 0 rfl rfl 8 (by decide) h11_ (fun _ h9 => h9) rfl dX6_number_124 ?_
    refine lv_iload_n hx hb dX6_number_127 rfl (lv_at hl 2 rfl) ?_
    refine va_iald hx hb hK hP 3 0 rfl rfl (by unfold vp_in; decide +kernel) dX6_number_128 ?_
    refine lv_i2l (v := ((g_F ((0 : Int32)).toNatClampNeg).toInt64)) hx hb dX6_number_129 rfl ?_
    refine lv_ladd hx hb dX6_number_130 ?_
    refine lv_lconst (v := (1 : Int64)) hx hb dX6_number_131 (by decide +kernel) ?_
    refine lv_ladd hx hb dX6_number_132 ?_
    refine lv_lstore_n (lv' := [(1, .long ((((5 : Int64) * x1) + ((g_F ((0 : Int32)).toNatClampNeg).toInt64)) + (1 : Int64))), (0, .ref q6), (3, .int (0 : Int32))]) hx hb dX6_number_133 rfl hl (by decide) rfl (fun ls hl => ?_)
    refine lv_iinc (v := (1 : Int32)) (lv' := [(3, .int (1 : Int32)), (1, .long ((((5 : Int64) * x1) + ((g_F ((0 : Int32)).toNatClampNeg).toInt64)) + (1 : Int64))), (0, .ref q6)]) hx hb dX6_number_134 hl (k := 2) rfl (by decide +kernel) (by decide) rfl (fun ls hl => ?_)
    refine lv_goto (tgt := 109) hx hb dX6_number_137 (by decide) ?_
    exact Ks109_1  ((((5 : Int64) * x1) + ((g_F ((0 : Int32)).toNatClampNeg).toInt64)) + (1 : Int64)) ls (lv_sub hl [2, 1, 0] rfl) hR
  have Ks68_4 : ∀  (x1 : Int64) (ls : Array Slot), lv_has ls 4 [(0, .ref q6), (1, .long x1), (3, .int (4 : Int32))] → cf_X6_number_s68_4  g_F g_R g_C g_L m_rl m_lf m_ov x1 = R → W p l e (headSpec wsX6_number ({ frames := 0, cells := 0, slots := 0, locals := 0 })).room s m ([.ref q6] : List Value).toArray below meth c s.heap [] 0 0 (MQ below (rd_Q (some (.long R))) ([.ref q6] : List Value).toArray s 0 0 (fun _ => False)) (F0 m 68 ls []) := by
    intro  x1 ls hl hR
    unfold cf_X6_number_s68_4 at hR
    refine lv_iload_n hx hb dX6_number_68 rfl (lv_at hl 2 rfl) ?_
    refine lv_iconst (v := (4 : Int32)) hx hb dX6_number_69 (by decide +kernel) ?_
    refine lv_icmp_ge (tgt := 107) hx hb dX6_number_70 (by decide) (fun _ => ?_) (fun c_0 => absurd c_0 (by decide +kernel))
    refine lv_iconst (v := (0 : Int32)) hx hb dX6_number_107 (by decide +kernel) ?_
    refine lv_istore_n (lv' := [(3, .int (0 : Int32)), (0, .ref q6), (1, .long x1)]) hx hb dX6_number_108 rfl hl (by decide) rfl (fun ls hl => ?_)
    exact Ks109_0  x1 ls (lv_sub hl [1, 2, 0] rfl) hR
  have Ks68_3 : ∀  (x1 : Int64) (ls : Array Slot), lv_has ls 4 [(0, .ref q6), (1, .long x1), (3, .int (3 : Int32))] → cf_X6_number_s68_3  g_F g_R g_C g_L m_rl m_lf m_ov x1 = R → W p l e (headSpec wsX6_number ({ frames := 0, cells := 0, slots := 0, locals := 0 })).room s m ([.ref q6] : List Value).toArray below meth c s.heap [] 0 0 (MQ below (rd_Q (some (.long R))) ([.ref q6] : List Value).toArray s 0 0 (fun _ => False)) (F0 m 68 ls []) := by
    intro  x1 ls hl hR
    unfold cf_X6_number_s68_3 at hR
    refine lv_iload_n hx hb dX6_number_68 rfl (lv_at hl 2 rfl) ?_
    refine lv_iconst (v := (4 : Int32)) hx hb dX6_number_69 (by decide +kernel) ?_
    refine lv_icmp_ge (tgt := 107) hx hb dX6_number_70 (by decide) (fun c_0 => absurd c_0 (by decide +kernel)) (fun _ => ?_)
    refine lv_ldc2 (v := (3 : Int64)) hx hb hown h8_ dX6_number_73 ?_
    refine lv_lload_n hx hb dX6_number_76 rfl (lv_at hl 1 rfl) ?_
    refine lv_lmul hx hb dX6_number_77 ?_
    refine lv_aload_n hx hb dX6_number_78 rfl (lv_at hl 0 rfl) ?_
    refine va_get (D := (dC, dI)) (ci := 4) (v := .ref qC) (C := RX6) (T := TX6) (N := 25) hx hb hts h1_ hown hK hP 0 rfl rfl 10 (by decide) h9_ (fun _ h9 => h9) rfl dX6_number_79 ?_
    refine lv_iload_n hx hb dX6_number_82 rfl (lv_at hl 2 rfl) ?_
    refine va_iald hx hb hK hP 5 0 rfl rfl (by unfold vp_in; decide +kernel) dX6_number_83 ?_
    refine lv_i2l (v := ((g_C ((3 : Int32)).toNatClampNeg).toInt64)) hx hb dX6_number_84 rfl ?_
    refine lv_ladd hx hb dX6_number_85 ?_
    refine lv_lstore_n (lv' := [(1, .long (((3 : Int64) * x1) + ((g_C ((3 : Int32)).toNatClampNeg).toInt64))), (0, .ref q6), (3, .int (3 : Int32))]) hx hb dX6_number_86 rfl hl (by decide) rfl (fun ls hl => ?_)
    refine lv_ldc2 (v := (3 : Int64)) hx hb hown h8_ dX6_number_87 ?_
    refine lv_lload_n hx hb dX6_number_90 rfl (lv_at hl 0 rfl) ?_
    refine lv_lmul hx hb dX6_number_91 ?_
    refine lv_aload_n hx hb dX6_number_92 rfl (lv_at hl 1 rfl) ?_
    refine va_get (D := (dC, dI)) (ci := 4) (v := .ref qL) (C := RX6) (T := TX6) (N := 25) hx hb hts h1_ hown hK hP 0 rfl rfl 11 (by decide) h10_ (fun _ h9 => h9) rfl dX6_number_93 ?_
    refine lv_iload_n hx hb dX6_number_96 rfl (lv_at hl 2 rfl) ?_
    refine va_iald hx hb hK hP 6 0 rfl rfl (by unfold vp_in; decide +kernel) dX6_number_97 ?_
    refine lv_i2l (v := ((g_L ((3 : Int32)).toNatClampNeg).toInt64)) hx hb dX6_number_98 rfl ?_
    refine lv_ladd hx hb dX6_number_99 ?_
    refine lv_lstore_n (lv' := [(1, .long (((3 : Int64) * (((3 : Int64) * x1) + ((g_C ((3 : Int32)).toNatClampNeg).toInt64))) + ((g_L ((3 : Int32)).toNatClampNeg).toInt64))), (0, .ref q6), (3, .int (3 : Int32))]) hx hb dX6_number_100 rfl hl (by decide) rfl (fun ls hl => ?_)
    refine lv_iinc (v := (4 : Int32)) (lv' := [(3, .int (4 : Int32)), (1, .long (((3 : Int64) * (((3 : Int64) * x1) + ((g_C ((3 : Int32)).toNatClampNeg).toInt64))) + ((g_L ((3 : Int32)).toNatClampNeg).toInt64))), (0, .ref q6)]) hx hb dX6_number_101 hl (k := 2) rfl (by decide +kernel) (by decide) rfl (fun ls hl => ?_)
    refine lv_goto (tgt := 68) hx hb dX6_number_104 (by decide) ?_
    exact Ks68_4  (((3 : Int64) * (((3 : Int64) * x1) + ((g_C ((3 : Int32)).toNatClampNeg).toInt64))) + ((g_L ((3 : Int32)).toNatClampNeg).toInt64)) ls (lv_sub hl [2, 1, 0] rfl) hR
  have Ks68_2 : ∀  (x1 : Int64) (ls : Array Slot), lv_has ls 4 [(0, .ref q6), (1, .long x1), (3, .int (2 : Int32))] → cf_X6_number_s68_2  g_F g_R g_C g_L m_rl m_lf m_ov x1 = R → W p l e (headSpec wsX6_number ({ frames := 0, cells := 0, slots := 0, locals := 0 })).room s m ([.ref q6] : List Value).toArray below meth c s.heap [] 0 0 (MQ below (rd_Q (some (.long R))) ([.ref q6] : List Value).toArray s 0 0 (fun _ => False)) (F0 m 68 ls []) := by
    intro  x1 ls hl hR
    unfold cf_X6_number_s68_2 at hR
    refine lv_iload_n hx hb dX6_number_68 rfl (lv_at hl 2 rfl) ?_
    refine lv_iconst (v := (4 : Int32)) hx hb dX6_number_69 (by decide +kernel) ?_
    refine lv_icmp_ge (tgt := 107) hx hb dX6_number_70 (by decide) (fun c_0 => absurd c_0 (by decide +kernel)) (fun _ => ?_)
    refine lv_ldc2 (v := (3 : Int64)) hx hb hown h8_ dX6_number_73 ?_
    refine lv_lload_n hx hb dX6_number_76 rfl (lv_at hl 1 rfl) ?_
    refine lv_lmul hx hb dX6_number_77 ?_
    refine lv_aload_n hx hb dX6_number_78 rfl (lv_at hl 0 rfl) ?_
    refine va_get (D := (dC, dI)) (ci := 4) (v := .ref qC) (C := RX6) (T := TX6) (N := 25) hx hb hts h1_ hown hK hP 0 rfl rfl 10 (by decide) h9_ (fun _ h9 => h9) rfl dX6_number_79 ?_
    refine lv_iload_n hx hb dX6_number_82 rfl (lv_at hl 2 rfl) ?_
    refine va_iald hx hb hK hP 5 0 rfl rfl (by unfold vp_in; decide +kernel) dX6_number_83 ?_
    refine lv_i2l (v := ((g_C ((2 : Int32)).toNatClampNeg).toInt64)) hx hb dX6_number_84 rfl ?_
    refine lv_ladd hx hb dX6_number_85 ?_
    refine lv_lstore_n (lv' := [(1, .long (((3 : Int64) * x1) + ((g_C ((2 : Int32)).toNatClampNeg).toInt64))), (0, .ref q6), (3, .int (2 : Int32))]) hx hb dX6_number_86 rfl hl (by decide) rfl (fun ls hl => ?_)
    refine lv_ldc2 (v := (3 : Int64)) hx hb hown h8_ dX6_number_87 ?_
    refine lv_lload_n hx hb dX6_number_90 rfl (lv_at hl 0 rfl) ?_
    refine lv_lmul hx hb dX6_number_91 ?_
    refine lv_aload_n hx hb dX6_number_92 rfl (lv_at hl 1 rfl) ?_
    refine va_get (D := (dC, dI)) (ci := 4) (v := .ref qL) (C := RX6) (T := TX6) (N := 25) hx hb hts h1_ hown hK hP 0 rfl rfl 11 (by decide) h10_ (fun _ h9 => h9) rfl dX6_number_93 ?_
    refine lv_iload_n hx hb dX6_number_96 rfl (lv_at hl 2 rfl) ?_
    refine va_iald hx hb hK hP 6 0 rfl rfl (by unfold vp_in; decide +kernel) dX6_number_97 ?_
    refine lv_i2l (v := ((g_L ((2 : Int32)).toNatClampNeg).toInt64)) hx hb dX6_number_98 rfl ?_
    refine lv_ladd hx hb dX6_number_99 ?_
    refine lv_lstore_n (lv' := [(1, .long (((3 : Int64) * (((3 : Int64) * x1) + ((g_C ((2 : Int32)).toNatClampNeg).toInt64))) + ((g_L ((2 : Int32)).toNatClampNeg).toInt64))), (0, .ref q6), (3, .int (2 : Int32))]) hx hb dX6_number_100 rfl hl (by decide) rfl (fun ls hl => ?_)
    refine lv_iinc (v := (3 : Int32)) (lv' := [(3, .int (3 : Int32)), (1, .long (((3 : Int64) * (((3 : Int64) * x1) + ((g_C ((2 : Int32)).toNatClampNeg).toInt64))) + ((g_L ((2 : Int32)).toNatClampNeg).toInt64))), (0, .ref q6)]) hx hb dX6_number_101 hl (k := 2) rfl (by decide +kernel) (by decide) rfl (fun ls hl => ?_)
    refine lv_goto (tgt := 68) hx hb dX6_number_104 (by decide) ?_
    exact Ks68_3  (((3 : Int64) * (((3 : Int64) * x1) + ((g_C ((2 : Int32)).toNatClampNeg).toInt64))) + ((g_L ((2 : Int32)).toNatClampNeg).toInt64)) ls (lv_sub hl [2, 1, 0] rfl) hR
  have Ks68_1 : ∀  (x1 : Int64) (ls : Array Slot), lv_has ls 4 [(0, .ref q6), (1, .long x1), (3, .int (1 : Int32))] → cf_X6_number_s68_1  g_F g_R g_C g_L m_rl m_lf m_ov x1 = R → W p l e (headSpec wsX6_number ({ frames := 0, cells := 0, slots := 0, locals := 0 })).room s m ([.ref q6] : List Value).toArray below meth c s.heap [] 0 0 (MQ below (rd_Q (some (.long R))) ([.ref q6] : List Value).toArray s 0 0 (fun _ => False)) (F0 m 68 ls []) := by
    intro  x1 ls hl hR
    unfold cf_X6_number_s68_1 at hR
    refine lv_iload_n hx hb dX6_number_68 rfl (lv_at hl 2 rfl) ?_
    refine lv_iconst (v := (4 : Int32)) hx hb dX6_number_69 (by decide +kernel) ?_
    refine lv_icmp_ge (tgt := 107) hx hb dX6_number_70 (by decide) (fun c_0 => absurd c_0 (by decide +kernel)) (fun _ => ?_)
    refine lv_ldc2 (v := (3 : Int64)) hx hb hown h8_ dX6_number_73 ?_
    refine lv_lload_n hx hb dX6_number_76 rfl (lv_at hl 1 rfl) ?_
    refine lv_lmul hx hb dX6_number_77 ?_
    refine lv_aload_n hx hb dX6_number_78 rfl (lv_at hl 0 rfl) ?_
    refine va_get (D := (dC, dI)) (ci := 4) (v := .ref qC) (C := RX6) (T := TX6) (N := 25) hx hb hts h1_ hown hK hP 0 rfl rfl 10 (by decide) h9_ (fun _ h9 => h9) rfl dX6_number_79 ?_
    refine lv_iload_n hx hb dX6_number_82 rfl (lv_at hl 2 rfl) ?_
    refine va_iald hx hb hK hP 5 0 rfl rfl (by unfold vp_in; decide +kernel) dX6_number_83 ?_
    refine lv_i2l (v := ((g_C ((1 : Int32)).toNatClampNeg).toInt64)) hx hb dX6_number_84 rfl ?_
    refine lv_ladd hx hb dX6_number_85 ?_
    refine lv_lstore_n (lv' := [(1, .long (((3 : Int64) * x1) + ((g_C ((1 : Int32)).toNatClampNeg).toInt64))), (0, .ref q6), (3, .int (1 : Int32))]) hx hb dX6_number_86 rfl hl (by decide) rfl (fun ls hl => ?_)
    refine lv_ldc2 (v := (3 : Int64)) hx hb hown h8_ dX6_number_87 ?_
    refine lv_lload_n hx hb dX6_number_90 rfl (lv_at hl 0 rfl) ?_
    refine lv_lmul hx hb dX6_number_91 ?_
    refine lv_aload_n hx hb dX6_number_92 rfl (lv_at hl 1 rfl) ?_
    refine va_get (D := (dC, dI)) (ci := 4) (v := .ref qL) (C := RX6) (T := TX6) (N := 25) hx hb hts h1_ hown hK hP 0 rfl rfl 11 (by decide) h10_ (fun _ h9 => h9) rfl dX6_number_93 ?_
    refine lv_iload_n hx hb dX6_number_96 rfl (lv_at hl 2 rfl) ?_
    refine va_iald hx hb hK hP 6 0 rfl rfl (by unfold vp_in; decide +kernel) dX6_number_97 ?_
    refine lv_i2l (v := ((g_L ((1 : Int32)).toNatClampNeg).toInt64)) hx hb dX6_number_98 rfl ?_
    refine lv_ladd hx hb dX6_number_99 ?_
    refine lv_lstore_n (lv' := [(1, .long (((3 : Int64) * (((3 : Int64) * x1) + ((g_C ((1 : Int32)).toNatClampNeg).toInt64))) + ((g_L ((1 : Int32)).toNatClampNeg).toInt64))), (0, .ref q6), (3, .int (1 : Int32))]) hx hb dX6_number_100 rfl hl (by decide) rfl (fun ls hl => ?_)
    refine lv_iinc (v := (2 : Int32)) (lv' := [(3, .int (2 : Int32)), (1, .long (((3 : Int64) * (((3 : Int64) * x1) + ((g_C ((1 : Int32)).toNatClampNeg).toInt64))) + ((g_L ((1 : Int32)).toNatClampNeg).toInt64))), (0, .ref q6)]) hx hb dX6_number_101 hl (k := 2) rfl (by decide +kernel) (by decide) rfl (fun ls hl => ?_)
    refine lv_goto (tgt := 68) hx hb dX6_number_104 (by decide) ?_
    exact Ks68_2  (((3 : Int64) * (((3 : Int64) * x1) + ((g_C ((1 : Int32)).toNatClampNeg).toInt64))) + ((g_L ((1 : Int32)).toNatClampNeg).toInt64)) ls (lv_sub hl [2, 1, 0] rfl) hR
  have Ks68_0 : ∀  (x1 : Int64) (ls : Array Slot), lv_has ls 4 [(0, .ref q6), (1, .long x1), (3, .int (0 : Int32))] → cf_X6_number_s68_0  g_F g_R g_C g_L m_rl m_lf m_ov x1 = R → W p l e (headSpec wsX6_number ({ frames := 0, cells := 0, slots := 0, locals := 0 })).room s m ([.ref q6] : List Value).toArray below meth c s.heap [] 0 0 (MQ below (rd_Q (some (.long R))) ([.ref q6] : List Value).toArray s 0 0 (fun _ => False)) (F0 m 68 ls []) := by
    intro  x1 ls hl hR
    unfold cf_X6_number_s68_0 at hR
    refine lv_iload_n hx hb dX6_number_68 rfl (lv_at hl 2 rfl) ?_
    refine lv_iconst (v := (4 : Int32)) hx hb dX6_number_69 (by decide +kernel) ?_
    refine lv_icmp_ge (tgt := 107) hx hb dX6_number_70 (by decide) (fun c_0 => absurd c_0 (by decide +kernel)) (fun _ => ?_)
    refine lv_ldc2 (v := (3 : Int64)) hx hb hown h8_ dX6_number_73 ?_
    refine lv_lload_n hx hb dX6_number_76 rfl (lv_at hl 1 rfl) ?_
    refine lv_lmul hx hb dX6_number_77 ?_
    refine lv_aload_n hx hb dX6_number_78 rfl (lv_at hl 0 rfl) ?_
    refine va_get (D := (dC, dI)) (ci := 4) (v := .ref qC) (C := RX6) (T := TX6) (N := 25) hx hb hts h1_ hown hK hP 0 rfl rfl 10 (by decide) h9_ (fun _ h9 => h9) rfl dX6_number_79 ?_
    refine lv_iload_n hx hb dX6_number_82 rfl (lv_at hl 2 rfl) ?_
    refine va_iald hx hb hK hP 5 0 rfl rfl (by unfold vp_in; decide +kernel) dX6_number_83 ?_
    refine lv_i2l (v := ((g_C ((0 : Int32)).toNatClampNeg).toInt64)) hx hb dX6_number_84 rfl ?_
    refine lv_ladd hx hb dX6_number_85 ?_
    refine lv_lstore_n (lv' := [(1, .long (((3 : Int64) * x1) + ((g_C ((0 : Int32)).toNatClampNeg).toInt64))), (0, .ref q6), (3, .int (0 : Int32))]) hx hb dX6_number_86 rfl hl (by decide) rfl (fun ls hl => ?_)
    refine lv_ldc2 (v := (3 : Int64)) hx hb hown h8_ dX6_number_87 ?_
    refine lv_lload_n hx hb dX6_number_90 rfl (lv_at hl 0 rfl) ?_
    refine lv_lmul hx hb dX6_number_91 ?_
    refine lv_aload_n hx hb dX6_number_92 rfl (lv_at hl 1 rfl) ?_
    refine va_get (D := (dC, dI)) (ci := 4) (v := .ref qL) (C := RX6) (T := TX6) (N := 25) hx hb hts h1_ hown hK hP 0 rfl rfl 11 (by decide) h10_ (fun _ h9 => h9) rfl dX6_number_93 ?_
    refine lv_iload_n hx hb dX6_number_96 rfl (lv_at hl 2 rfl) ?_
    refine va_iald hx hb hK hP 6 0 rfl rfl (by unfold vp_in; decide +kernel) dX6_number_97 ?_
    refine lv_i2l (v := ((g_L ((0 : Int32)).toNatClampNeg).toInt64)) hx hb dX6_number_98 rfl ?_
    refine lv_ladd hx hb dX6_number_99 ?_
    refine lv_lstore_n (lv' := [(1, .long (((3 : Int64) * (((3 : Int64) * x1) + ((g_C ((0 : Int32)).toNatClampNeg).toInt64))) + ((g_L ((0 : Int32)).toNatClampNeg).toInt64))), (0, .ref q6), (3, .int (0 : Int32))]) hx hb dX6_number_100 rfl hl (by decide) rfl (fun ls hl => ?_)
    refine lv_iinc (v := (1 : Int32)) (lv' := [(3, .int (1 : Int32)), (1, .long (((3 : Int64) * (((3 : Int64) * x1) + ((g_C ((0 : Int32)).toNatClampNeg).toInt64))) + ((g_L ((0 : Int32)).toNatClampNeg).toInt64))), (0, .ref q6)]) hx hb dX6_number_101 hl (k := 2) rfl (by decide +kernel) (by decide) rfl (fun ls hl => ?_)
    refine lv_goto (tgt := 68) hx hb dX6_number_104 (by decide) ?_
    exact Ks68_1  (((3 : Int64) * (((3 : Int64) * x1) + ((g_C ((0 : Int32)).toNatClampNeg).toInt64))) + ((g_L ((0 : Int32)).toNatClampNeg).toInt64)) ls (lv_sub hl [2, 1, 0] rfl) hR
  have Ks39_3 : ∀  (x1 : Int64) (ls : Array Slot), lv_has ls 4 [(0, .ref q6), (1, .long x1), (3, .int (3 : Int32))] → cf_X6_number_s39_3  g_F g_R g_C g_L m_rl m_lf m_ov x1 = R → W p l e (headSpec wsX6_number ({ frames := 0, cells := 0, slots := 0, locals := 0 })).room s m ([.ref q6] : List Value).toArray below meth c s.heap [] 0 0 (MQ below (rd_Q (some (.long R))) ([.ref q6] : List Value).toArray s 0 0 (fun _ => False)) (F0 m 39 ls []) := by
    intro  x1 ls hl hR
    unfold cf_X6_number_s39_3 at hR
    refine lv_iload_n hx hb dX6_number_39 rfl (lv_at hl 2 rfl) ?_
    refine lv_iconst (v := (3 : Int32)) hx hb dX6_number_40 (by decide +kernel) ?_
    refine lv_icmp_ge (tgt := 66) hx hb dX6_number_41 (by decide) (fun _ => ?_) (fun c_0 => absurd c_0 (by decide +kernel))
    refine lv_iconst (v := (0 : Int32)) hx hb dX6_number_66 (by decide +kernel) ?_
    refine lv_istore_n (lv' := [(3, .int (0 : Int32)), (0, .ref q6), (1, .long x1)]) hx hb dX6_number_67 rfl hl (by decide) rfl (fun ls hl => ?_)
    exact Ks68_0  x1 ls (lv_sub hl [1, 2, 0] rfl) hR
  have Ks39_2 : ∀  (x1 : Int64) (ls : Array Slot), lv_has ls 4 [(0, .ref q6), (1, .long x1), (3, .int (2 : Int32))] → cf_X6_number_s39_2  g_F g_R g_C g_L m_rl m_lf m_ov x1 = R → W p l e (headSpec wsX6_number ({ frames := 0, cells := 0, slots := 0, locals := 0 })).room s m ([.ref q6] : List Value).toArray below meth c s.heap [] 0 0 (MQ below (rd_Q (some (.long R))) ([.ref q6] : List Value).toArray s 0 0 (fun _ => False)) (F0 m 39 ls []) := by
    intro  x1 ls hl hR
    unfold cf_X6_number_s39_2 at hR
    refine lv_iload_n hx hb dX6_number_39 rfl (lv_at hl 2 rfl) ?_
    refine lv_iconst (v := (3 : Int32)) hx hb dX6_number_40 (by decide +kernel) ?_
    refine lv_icmp_ge (tgt := 66) hx hb dX6_number_41 (by decide) (fun c_0 => absurd c_0 (by decide +kernel)) (fun _ => ?_)
    refine lv_ldc2 (v := (5 : Int64)) hx hb hown h6_ dX6_number_44 ?_
    refine lv_lload_n hx hb dX6_number_47 rfl (lv_at hl 1 rfl) ?_
    refine lv_lmul hx hb dX6_number_48 ?_
    refine lv_aload_n hx hb dX6_number_49 rfl (lv_at hl 0 rfl) ?_
    refine va_get (D := (dC, dI)) (ci := 4) (v := .ref qR) (C := RX6) (T := TX6) (N := 25) hx hb hts h1_ hown hK hP 0 rfl rfl 9 (by decide) h7_ (fun _ h9 => h9) rfl dX6_number_50 ?_
    refine lv_iload_n hx hb dX6_number_53 rfl (lv_at hl 2 rfl) ?_
    refine va_iald hx hb hK hP 4 0 rfl rfl (by unfold vp_in; decide +kernel) dX6_number_54 ?_
    refine lv_i2l (v := ((g_R ((2 : Int32)).toNatClampNeg).toInt64)) hx hb dX6_number_55 rfl ?_
    refine lv_ladd hx hb dX6_number_56 ?_
    refine lv_lconst (v := (1 : Int64)) hx hb dX6_number_57 (by decide +kernel) ?_
    refine lv_ladd hx hb dX6_number_58 ?_
    refine lv_lstore_n (lv' := [(1, .long ((((5 : Int64) * x1) + ((g_R ((2 : Int32)).toNatClampNeg).toInt64)) + (1 : Int64))), (0, .ref q6), (3, .int (2 : Int32))]) hx hb dX6_number_59 rfl hl (by decide) rfl (fun ls hl => ?_)
    refine lv_iinc (v := (3 : Int32)) (lv' := [(3, .int (3 : Int32)), (1, .long ((((5 : Int64) * x1) + ((g_R ((2 : Int32)).toNatClampNeg).toInt64)) + (1 : Int64))), (0, .ref q6)]) hx hb dX6_number_60 hl (k := 2) rfl (by decide +kernel) (by decide) rfl (fun ls hl => ?_)
    refine lv_goto (tgt := 39) hx hb dX6_number_63 (by decide) ?_
    exact Ks39_3  ((((5 : Int64) * x1) + ((g_R ((2 : Int32)).toNatClampNeg).toInt64)) + (1 : Int64)) ls (lv_sub hl [2, 1, 0] rfl) hR
  have Ks39_1 : ∀  (x1 : Int64) (ls : Array Slot), lv_has ls 4 [(0, .ref q6), (1, .long x1), (3, .int (1 : Int32))] → cf_X6_number_s39_1  g_F g_R g_C g_L m_rl m_lf m_ov x1 = R → W p l e (headSpec wsX6_number ({ frames := 0, cells := 0, slots := 0, locals := 0 })).room s m ([.ref q6] : List Value).toArray below meth c s.heap [] 0 0 (MQ below (rd_Q (some (.long R))) ([.ref q6] : List Value).toArray s 0 0 (fun _ => False)) (F0 m 39 ls []) := by
    intro  x1 ls hl hR
    unfold cf_X6_number_s39_1 at hR
    refine lv_iload_n hx hb dX6_number_39 rfl (lv_at hl 2 rfl) ?_
    refine lv_iconst (v := (3 : Int32)) hx hb dX6_number_40 (by decide +kernel) ?_
    refine lv_icmp_ge (tgt := 66) hx hb dX6_number_41 (by decide) (fun c_0 => absurd c_0 (by decide +kernel)) (fun _ => ?_)
    refine lv_ldc2 (v := (5 : Int64)) hx hb hown h6_ dX6_number_44 ?_
    refine lv_lload_n hx hb dX6_number_47 rfl (lv_at hl 1 rfl) ?_
    refine lv_lmul hx hb dX6_number_48 ?_
    refine lv_aload_n hx hb dX6_number_49 rfl (lv_at hl 0 rfl) ?_
    refine va_get (D := (dC, dI)) (ci := 4) (v := .ref qR) (C := RX6) (T := TX6) (N := 25) hx hb hts h1_ hown hK hP 0 rfl rfl 9 (by decide) h7_ (fun _ h9 => h9) rfl dX6_number_50 ?_
    refine lv_iload_n hx hb dX6_number_53 rfl (lv_at hl 2 rfl) ?_
    refine va_iald hx hb hK hP 4 0 rfl rfl (by unfold vp_in; decide +kernel) dX6_number_54 ?_
    refine lv_i2l (v := ((g_R ((1 : Int32)).toNatClampNeg).toInt64)) hx hb dX6_number_55 rfl ?_
    refine lv_ladd hx hb dX6_number_56 ?_
    refine lv_lconst (v := (1 : Int64)) hx hb dX6_number_57 (by decide +kernel) ?_
    refine lv_ladd hx hb dX6_number_58 ?_
    refine lv_lstore_n (lv' := [(1, .long ((((5 : Int64) * x1) + ((g_R ((1 : Int32)).toNatClampNeg).toInt64)) + (1 : Int64))), (0, .ref q6), (3, .int (1 : Int32))]) hx hb dX6_number_59 rfl hl (by decide) rfl (fun ls hl => ?_)
    refine lv_iinc (v := (2 : Int32)) (lv' := [(3, .int (2 : Int32)), (1, .long ((((5 : Int64) * x1) + ((g_R ((1 : Int32)).toNatClampNeg).toInt64)) + (1 : Int64))), (0, .ref q6)]) hx hb dX6_number_60 hl (k := 2) rfl (by decide +kernel) (by decide) rfl (fun ls hl => ?_)
    refine lv_goto (tgt := 39) hx hb dX6_number_63 (by decide) ?_
    exact Ks39_2  ((((5 : Int64) * x1) + ((g_R ((1 : Int32)).toNatClampNeg).toInt64)) + (1 : Int64)) ls (lv_sub hl [2, 1, 0] rfl) hR
  have Ks39_0 : ∀  (x1 : Int64) (ls : Array Slot), lv_has ls 4 [(0, .ref q6), (1, .long x1), (3, .int (0 : Int32))] → cf_X6_number_s39_0  g_F g_R g_C g_L m_rl m_lf m_ov x1 = R → W p l e (headSpec wsX6_number ({ frames := 0, cells := 0, slots := 0, locals := 0 })).room s m ([.ref q6] : List Value).toArray below meth c s.heap [] 0 0 (MQ below (rd_Q (some (.long R))) ([.ref q6] : List Value).toArray s 0 0 (fun _ => False)) (F0 m 39 ls []) := by
    intro  x1 ls hl hR
    unfold cf_X6_number_s39_0 at hR
    refine lv_iload_n hx hb dX6_number_39 rfl (lv_at hl 2 rfl) ?_
    refine lv_iconst (v := (3 : Int32)) hx hb dX6_number_40 (by decide +kernel) ?_
    refine lv_icmp_ge (tgt := 66) hx hb dX6_number_41 (by decide) (fun c_0 => absurd c_0 (by decide +kernel)) (fun _ => ?_)
    refine lv_ldc2 (v := (5 : Int64)) hx hb hown h6_ dX6_number_44 ?_
    refine lv_lload_n hx hb dX6_number_47 rfl (lv_at hl 1 rfl) ?_
    refine lv_lmul hx hb dX6_number_48 ?_
    refine lv_aload_n hx hb dX6_number_49 rfl (lv_at hl 0 rfl) ?_
    refine va_get (D := (dC, dI)) (ci := 4) (v := .ref qR) (C := RX6) (T := TX6) (N := 25) hx hb hts h1_ hown hK hP 0 rfl rfl 9 (by decide) h7_ (fun _ h9 => h9) rfl dX6_number_50 ?_
    refine lv_iload_n hx hb dX6_number_53 rfl (lv_at hl 2 rfl) ?_
    refine va_iald hx hb hK hP 4 0 rfl rfl (by unfold vp_in; decide +kernel) dX6_number_54 ?_
    refine lv_i2l (v := ((g_R ((0 : Int32)).toNatClampNeg).toInt64)) hx hb dX6_number_55 rfl ?_
    refine lv_ladd hx hb dX6_number_56 ?_
    refine lv_lconst (v := (1 : Int64)) hx hb dX6_number_57 (by decide +kernel) ?_
    refine lv_ladd hx hb dX6_number_58 ?_
    refine lv_lstore_n (lv' := [(1, .long ((((5 : Int64) * x1) + ((g_R ((0 : Int32)).toNatClampNeg).toInt64)) + (1 : Int64))), (0, .ref q6), (3, .int (0 : Int32))]) hx hb dX6_number_59 rfl hl (by decide) rfl (fun ls hl => ?_)
    refine lv_iinc (v := (1 : Int32)) (lv' := [(3, .int (1 : Int32)), (1, .long ((((5 : Int64) * x1) + ((g_R ((0 : Int32)).toNatClampNeg).toInt64)) + (1 : Int64))), (0, .ref q6)]) hx hb dX6_number_60 hl (k := 2) rfl (by decide +kernel) (by decide) rfl (fun ls hl => ?_)
    refine lv_goto (tgt := 39) hx hb dX6_number_63 (by decide) ?_
    exact Ks39_1  ((((5 : Int64) * x1) + ((g_R ((0 : Int32)).toNatClampNeg).toInt64)) + (1 : Int64)) ls (lv_sub hl [2, 1, 0] rfl) hR
  have Ks12 : ∀  (y0 : Int64) (ls : Array Slot), lv_has ls 4 [(0, .ref q6)] → cf_X6_number_s12  g_F g_R g_C g_L m_rl m_lf m_ov y0 = R → W p l e (headSpec wsX6_number ({ frames := 0, cells := 0, slots := 0, locals := 0 })).room s m ([.ref q6] : List Value).toArray below meth c s.heap [] 0 0 (MQ below (rd_Q (some (.long R))) ([.ref q6] : List Value).toArray s 0 0 (fun _ => False)) (F0 m 12 ls [.long y0]) := by
    intro  y0 ls hl hR
    unfold cf_X6_number_s12 at hR
    refine lv_lstore_n (lv' := [(1, .long y0), (0, .ref q6)]) hx hb dX6_number_12 rfl hl (by decide) rfl (fun ls hl => ?_)
    refine lv_ldc2 (v := (9 : Int64)) hx hb hown h2_ dX6_number_13 ?_
    refine lv_lload_n hx hb dX6_number_16 rfl (lv_at hl 0 rfl) ?_
    refine lv_lmul hx hb dX6_number_17 ?_
    refine lv_aload_n hx hb dX6_number_18 rfl (lv_at hl 1 rfl) ?_
    refine va_get (D := (dC, dI)) (ci := 4) (v := .int m_lf) (C := RX6) (T := TX6) (N := 25) hx hb hts h1_ hown hK hP 0 rfl rfl 13 (by decide) h3_ (fun _ h9 => h9) rfl dX6_number_19 ?_
    refine lv_i2l (v := (m_lf.toInt64)) hx hb dX6_number_22 rfl ?_
    refine lv_ladd hx hb dX6_number_23 ?_
    refine lv_lstore_n (lv' := [(1, .long (((9 : Int64) * y0) + (m_lf.toInt64))), (0, .ref q6)]) hx hb dX6_number_24 rfl hl (by decide) rfl (fun ls hl => ?_)
    refine lv_ldc2 (v := (4 : Int64)) hx hb hown h4_ dX6_number_25 ?_
    refine lv_lload_n hx hb dX6_number_28 rfl (lv_at hl 0 rfl) ?_
    refine lv_lmul hx hb dX6_number_29 ?_
    refine lv_aload_n hx hb dX6_number_30 rfl (lv_at hl 1 rfl) ?_
    refine va_get (D := (dC, dI)) (ci := 4) (v := .int m_rl) (C := RX6) (T := TX6) (N := 25) hx hb hts h1_ hown hK hP 0 rfl rfl 12 (by decide) h5_ (fun _ h9 => h9) rfl dX6_number_31 ?_
    refine lv_i2l (v := (m_rl.toInt64)) hx hb dX6_number_34 rfl ?_
    refine lv_ladd hx hb dX6_number_35 ?_
    refine lv_lstore_n (lv' := [(1, .long (((4 : Int64) * (((9 : Int64) * y0) + (m_lf.toInt64))) + (m_rl.toInt64))), (0, .ref q6)]) hx hb dX6_number_36 rfl hl (by decide) rfl (fun ls hl => ?_)
    refine lv_iconst (v := (0 : Int32)) hx hb dX6_number_37 (by decide +kernel) ?_
    refine lv_istore_n (lv' := [(3, .int (0 : Int32)), (1, .long (((4 : Int64) * (((9 : Int64) * y0) + (m_lf.toInt64))) + (m_rl.toInt64))), (0, .ref q6)]) hx hb dX6_number_38 rfl hl (by decide) rfl (fun ls hl => ?_)
    exact Ks39_0  (((4 : Int64) * (((9 : Int64) * y0) + (m_lf.toInt64))) + (m_rl.toInt64)) ls (lv_sub hl [2, 1, 0] rfl) hR
  have hl := lv_entry ([.ref q6]) (n := 4) (Nat.le_of_ble_eq_true rfl)
  rw [lg_entry_eq]
  generalize (lg_sl ([.ref q6]) ++ List.replicate (4 - (lg_sl ([.ref q6])).length) Slot.unset).toArray = ls at hl ⊢
  have hl : lv_has ls 4 [(0, .ref q6)] := hl
  unfold cf_X6_number at hR
  refine lv_aload_n hx hb dX6_number_0 rfl (lv_at hl 0 rfl) ?_
  refine va_get (D := (dC, dI)) (ci := 4) (v := .int m_ov) (C := RX6) (T := TX6) (N := 25) hx hb hts h1_ hown hK hP 0 rfl rfl 14 (by decide) h0_ (fun _ h9 => h9) rfl dX6_number_1 ?_
  refine lv_if_eq (tgt := 11) hx hb dX6_number_4 (by decide) (fun c_1 => ?_) (fun c_1 => ?_)
  · rw [if_pos c_1] at hR
    refine lv_lconst (v := (0 : Int64)) hx hb dX6_number_11 (by decide +kernel) ?_
    exact Ks12  (0 : Int64) ls (lv_sub hl [0] rfl) hR
  · rw [if_neg c_1] at hR
    refine lv_lconst (v := (1 : Int64)) hx hb dX6_number_7 (by decide +kernel) ?_
    refine lv_goto (tgt := 12) hx hb dX6_number_8 (by decide) ?_
    exact Ks12  (1 : Int64) ls (lv_sub hl [0] rfl) hR
def cf_X6_first_s56_4  (m_a : Int32) (u_F : Nat → Int32) (u_R : Nat → Int32) (g_F : Nat → Int32) (g_R : Nat → Int32) (g_C : Nat → Int32) (g_L : Nat → Int32) (m_rl : Int32) (m_lf : Int32) (m_ov : Int32)  : (Nat → Int32) × (Nat → Int32) × (Nat → Int32) × (Nat → Int32) × Int32 × Int32 × Int32 × Int64 :=
  (g_F, g_R, g_C, g_L, (0 : Int32), m_a, (0 : Int32), (cf_X6_number g_F g_R g_C g_L (0 : Int32) m_a (0 : Int32) ))
def cf_X6_first_s56_3  (m_a : Int32) (u_F : Nat → Int32) (u_R : Nat → Int32) (g_F : Nat → Int32) (g_R : Nat → Int32) (g_C : Nat → Int32) (g_L : Nat → Int32) (m_rl : Int32) (m_lf : Int32) (m_ov : Int32)  : (Nat → Int32) × (Nat → Int32) × (Nat → Int32) × (Nat → Int32) × Int32 × Int32 × Int32 × Int64 :=
  cf_X6_first_s56_4  m_a u_F u_R g_F g_R (upd g_C ((3 : Int32)).toNatClampNeg (0 : Int32)) (upd g_L ((3 : Int32)).toNatClampNeg (0 : Int32)) m_rl m_lf m_ov 
def cf_X6_first_s56_2  (m_a : Int32) (u_F : Nat → Int32) (u_R : Nat → Int32) (g_F : Nat → Int32) (g_R : Nat → Int32) (g_C : Nat → Int32) (g_L : Nat → Int32) (m_rl : Int32) (m_lf : Int32) (m_ov : Int32)  : (Nat → Int32) × (Nat → Int32) × (Nat → Int32) × (Nat → Int32) × Int32 × Int32 × Int32 × Int64 :=
  cf_X6_first_s56_3  m_a u_F u_R g_F g_R (upd g_C ((2 : Int32)).toNatClampNeg (0 : Int32)) (upd g_L ((2 : Int32)).toNatClampNeg (0 : Int32)) m_rl m_lf m_ov 
def cf_X6_first_s56_1  (m_a : Int32) (u_F : Nat → Int32) (u_R : Nat → Int32) (g_F : Nat → Int32) (g_R : Nat → Int32) (g_C : Nat → Int32) (g_L : Nat → Int32) (m_rl : Int32) (m_lf : Int32) (m_ov : Int32)  : (Nat → Int32) × (Nat → Int32) × (Nat → Int32) × (Nat → Int32) × Int32 × Int32 × Int32 × Int64 :=
  cf_X6_first_s56_2  m_a u_F u_R g_F g_R (upd g_C ((1 : Int32)).toNatClampNeg (0 : Int32)) (upd g_L ((1 : Int32)).toNatClampNeg (0 : Int32)) m_rl m_lf m_ov 
def cf_X6_first_s56_0  (m_a : Int32) (u_F : Nat → Int32) (u_R : Nat → Int32) (g_F : Nat → Int32) (g_R : Nat → Int32) (g_C : Nat → Int32) (g_L : Nat → Int32) (m_rl : Int32) (m_lf : Int32) (m_ov : Int32)  : (Nat → Int32) × (Nat → Int32) × (Nat → Int32) × (Nat → Int32) × Int32 × Int32 × Int32 × Int64 :=
  cf_X6_first_s56_1  m_a u_F u_R g_F g_R (upd g_C ((0 : Int32)).toNatClampNeg (0 : Int32)) (upd g_L ((0 : Int32)).toNatClampNeg (0 : Int32)) m_rl m_lf m_ov 
def cf_X6_first_s31_3  (m_a : Int32) (u_F : Nat → Int32) (u_R : Nat → Int32) (g_F : Nat → Int32) (g_R : Nat → Int32) (g_C : Nat → Int32) (g_L : Nat → Int32) (m_rl : Int32) (m_lf : Int32) (m_ov : Int32)  : (Nat → Int32) × (Nat → Int32) × (Nat → Int32) × (Nat → Int32) × Int32 × Int32 × Int32 × Int64 :=
  cf_X6_first_s56_0  m_a u_F u_R g_F g_R g_C g_L m_rl m_lf m_ov 
def cf_X6_first_s31_2  (m_a : Int32) (u_F : Nat → Int32) (u_R : Nat → Int32) (g_F : Nat → Int32) (g_R : Nat → Int32) (g_C : Nat → Int32) (g_L : Nat → Int32) (m_rl : Int32) (m_lf : Int32) (m_ov : Int32)  : (Nat → Int32) × (Nat → Int32) × (Nat → Int32) × (Nat → Int32) × Int32 × Int32 × Int32 × Int64 :=
  cf_X6_first_s31_3  m_a u_F u_R g_F (upd g_R ((2 : Int32)).toNatClampNeg (u_R ((2 : Int32)).toNatClampNeg)) g_C g_L m_rl m_lf m_ov 
def cf_X6_first_s31_1  (m_a : Int32) (u_F : Nat → Int32) (u_R : Nat → Int32) (g_F : Nat → Int32) (g_R : Nat → Int32) (g_C : Nat → Int32) (g_L : Nat → Int32) (m_rl : Int32) (m_lf : Int32) (m_ov : Int32)  : (Nat → Int32) × (Nat → Int32) × (Nat → Int32) × (Nat → Int32) × Int32 × Int32 × Int32 × Int64 :=
  cf_X6_first_s31_2  m_a u_F u_R g_F (upd g_R ((1 : Int32)).toNatClampNeg (u_R ((1 : Int32)).toNatClampNeg)) g_C g_L m_rl m_lf m_ov 
def cf_X6_first_s31_0  (m_a : Int32) (u_F : Nat → Int32) (u_R : Nat → Int32) (g_F : Nat → Int32) (g_R : Nat → Int32) (g_C : Nat → Int32) (g_L : Nat → Int32) (m_rl : Int32) (m_lf : Int32) (m_ov : Int32)  : (Nat → Int32) × (Nat → Int32) × (Nat → Int32) × (Nat → Int32) × Int32 × Int32 × Int32 × Int64 :=
  cf_X6_first_s31_1  m_a u_F u_R g_F (upd g_R ((0 : Int32)).toNatClampNeg (u_R ((0 : Int32)).toNatClampNeg)) g_C g_L m_rl m_lf m_ov 
def cf_X6_first_s2_8  (m_a : Int32) (u_F : Nat → Int32) (u_R : Nat → Int32) (g_F : Nat → Int32) (g_R : Nat → Int32) (g_C : Nat → Int32) (g_L : Nat → Int32) (m_rl : Int32) (m_lf : Int32) (m_ov : Int32)  : (Nat → Int32) × (Nat → Int32) × (Nat → Int32) × (Nat → Int32) × Int32 × Int32 × Int32 × Int64 :=
  cf_X6_first_s31_0  m_a u_F u_R g_F g_R g_C g_L m_rl m_lf m_ov 
def cf_X6_first_s2_7  (m_a : Int32) (u_F : Nat → Int32) (u_R : Nat → Int32) (g_F : Nat → Int32) (g_R : Nat → Int32) (g_C : Nat → Int32) (g_L : Nat → Int32) (m_rl : Int32) (m_lf : Int32) (m_ov : Int32)  : (Nat → Int32) × (Nat → Int32) × (Nat → Int32) × (Nat → Int32) × Int32 × Int32 × Int32 × Int64 :=
  cf_X6_first_s2_8  m_a u_F u_R (upd g_F ((7 : Int32)).toNatClampNeg (u_F ((7 : Int32)).toNatClampNeg)) g_R g_C g_L m_rl m_lf m_ov 
def cf_X6_first_s2_6  (m_a : Int32) (u_F : Nat → Int32) (u_R : Nat → Int32) (g_F : Nat → Int32) (g_R : Nat → Int32) (g_C : Nat → Int32) (g_L : Nat → Int32) (m_rl : Int32) (m_lf : Int32) (m_ov : Int32)  : (Nat → Int32) × (Nat → Int32) × (Nat → Int32) × (Nat → Int32) × Int32 × Int32 × Int32 × Int64 :=
  cf_X6_first_s2_7  m_a u_F u_R (upd g_F ((6 : Int32)).toNatClampNeg (u_F ((6 : Int32)).toNatClampNeg)) g_R g_C g_L m_rl m_lf m_ov 
def cf_X6_first_s2_5  (m_a : Int32) (u_F : Nat → Int32) (u_R : Nat → Int32) (g_F : Nat → Int32) (g_R : Nat → Int32) (g_C : Nat → Int32) (g_L : Nat → Int32) (m_rl : Int32) (m_lf : Int32) (m_ov : Int32)  : (Nat → Int32) × (Nat → Int32) × (Nat → Int32) × (Nat → Int32) × Int32 × Int32 × Int32 × Int64 :=
  cf_X6_first_s2_6  m_a u_F u_R (upd g_F ((5 : Int32)).toNatClampNeg (u_F ((5 : Int32)).toNatClampNeg)) g_R g_C g_L m_rl m_lf m_ov 
def cf_X6_first_s2_4  (m_a : Int32) (u_F : Nat → Int32) (u_R : Nat → Int32) (g_F : Nat → Int32) (g_R : Nat → Int32) (g_C : Nat → Int32) (g_L : Nat → Int32) (m_rl : Int32) (m_lf : Int32) (m_ov : Int32)  : (Nat → Int32) × (Nat → Int32) × (Nat → Int32) × (Nat → Int32) × Int32 × Int32 × Int32 × Int64 :=
  cf_X6_first_s2_5  m_a u_F u_R (upd g_F ((4 : Int32)).toNatClampNeg (u_F ((4 : Int32)).toNatClampNeg)) g_R g_C g_L m_rl m_lf m_ov 
def cf_X6_first_s2_3  (m_a : Int32) (u_F : Nat → Int32) (u_R : Nat → Int32) (g_F : Nat → Int32) (g_R : Nat → Int32) (g_C : Nat → Int32) (g_L : Nat → Int32) (m_rl : Int32) (m_lf : Int32) (m_ov : Int32)  : (Nat → Int32) × (Nat → Int32) × (Nat → Int32) × (Nat → Int32) × Int32 × Int32 × Int32 × Int64 :=
  cf_X6_first_s2_4  m_a u_F u_R (upd g_F ((3 : Int32)).toNatClampNeg (u_F ((3 : Int32)).toNatClampNeg)) g_R g_C g_L m_rl m_lf m_ov 
def cf_X6_first_s2_2  (m_a : Int32) (u_F : Nat → Int32) (u_R : Nat → Int32) (g_F : Nat → Int32) (g_R : Nat → Int32) (g_C : Nat → Int32) (g_L : Nat → Int32) (m_rl : Int32) (m_lf : Int32) (m_ov : Int32)  : (Nat → Int32) × (Nat → Int32) × (Nat → Int32) × (Nat → Int32) × Int32 × Int32 × Int32 × Int64 :=
  cf_X6_first_s2_3  m_a u_F u_R (upd g_F ((2 : Int32)).toNatClampNeg (u_F ((2 : Int32)).toNatClampNeg)) g_R g_C g_L m_rl m_lf m_ov 
def cf_X6_first_s2_1  (m_a : Int32) (u_F : Nat → Int32) (u_R : Nat → Int32) (g_F : Nat → Int32) (g_R : Nat → Int32) (g_C : Nat → Int32) (g_L : Nat → Int32) (m_rl : Int32) (m_lf : Int32) (m_ov : Int32)  : (Nat → Int32) × (Nat → Int32) × (Nat → Int32) × (Nat → Int32) × Int32 × Int32 × Int32 × Int64 :=
  cf_X6_first_s2_2  m_a u_F u_R (upd g_F ((1 : Int32)).toNatClampNeg (u_F ((1 : Int32)).toNatClampNeg)) g_R g_C g_L m_rl m_lf m_ov 
def cf_X6_first_s2_0  (m_a : Int32) (u_F : Nat → Int32) (u_R : Nat → Int32) (g_F : Nat → Int32) (g_R : Nat → Int32) (g_C : Nat → Int32) (g_L : Nat → Int32) (m_rl : Int32) (m_lf : Int32) (m_ov : Int32)  : (Nat → Int32) × (Nat → Int32) × (Nat → Int32) × (Nat → Int32) × Int32 × Int32 × Int32 × Int64 :=
  cf_X6_first_s2_1  m_a u_F u_R (upd g_F ((0 : Int32)).toNatClampNeg (u_F ((0 : Int32)).toNatClampNeg)) g_R g_C g_L m_rl m_lf m_ov 
def cf_X6_first (m_a : Int32) (u_F : Nat → Int32) (u_R : Nat → Int32) (g_F : Nat → Int32) (g_R : Nat → Int32) (g_C : Nat → Int32) (g_L : Nat → Int32) (m_rl : Int32) (m_lf : Int32) (m_ov : Int32)  : (Nat → Int32) × (Nat → Int32) × (Nat → Int32) × (Nat → Int32) × Int32 × Int32 × Int32 × Int64 :=
  cf_X6_first_s2_0  m_a u_F u_R g_F g_R g_C g_L m_rl m_lf m_ov 
set_option maxHeartbeats 4000000 in
set_option maxRecDepth 100000 in
theorem c_X6_first (l : Launch) (dC : Nat → ClassId) (dI : Nat → Nat → Nat) (q6 qA qB qF qR qC qL qS qO qY qH qW qM : Nat) (cyI cyJ cyZ : ClassId) (m_th : Int32) (m_o : Int32) (m_f : Int32) (m_r : Int32) (m_b : Int32) (m_a : Int32) (u_F : Nat → Int32) (u_R : Nat → Int32) (g_F : Nat → Int32) (g_R : Nat → Int32) (g_C : Nat → Int32) (g_L : Nat → Int32) (m_rl : Int32) (m_lf : Int32) (m_ov : Int32) (m_pl : Int64) (g_S : Nat → Int64) (g_O : Nat → Int32) (g_Y : Nat → Int32) (g_H : Nat → Int32) (m_st : Int32) (g_W : Nat → Int32) (m_rm : Int32) (m_fs : Int32) (g_M : Nat → Int32) (sz : Nat)    : Met l yX6_first wsX6_first ({ frames := 1, cells := 0, slots := 0, locals := 23 }) (mu_P [.ref q6] sz (dC, dI) kcl (mo_W q6 qA qB qF qR qC qL qS qO qY qH qW qM cyI cyJ cyZ m_th m_o m_f m_r m_b m_a u_F u_R g_F g_R g_C g_L m_rl m_lf m_ov m_pl g_S g_O g_Y g_H m_st g_W m_rm m_fs g_M) [(cyI, .int), (cyJ, .long), (cyZ, .boolean)]) (mu_Q (some (.long ((cf_X6_first m_a u_F u_R g_F g_R g_C g_L m_rl m_lf m_ov ).2.2.2.2.2.2.2))) (dC, dI) kcl (mo_W q6 qA qB qF qR qC qL qS qO qY qH qW qM cyI cyJ cyZ m_th m_o m_f m_r m_b m_a u_F u_R ((cf_X6_first m_a u_F u_R g_F g_R g_C g_L m_rl m_lf m_ov ).1) ((cf_X6_first m_a u_F u_R g_F g_R g_C g_L m_rl m_lf m_ov ).2.1) ((cf_X6_first m_a u_F u_R g_F g_R g_C g_L m_rl m_lf m_ov ).2.2.1) ((cf_X6_first m_a u_F u_R g_F g_R g_C g_L m_rl m_lf m_ov ).2.2.2.1) ((cf_X6_first m_a u_F u_R g_F g_R g_C g_L m_rl m_lf m_ov ).2.2.2.2.1) ((cf_X6_first m_a u_F u_R g_F g_R g_C g_L m_rl m_lf m_ov ).2.2.2.2.2.1) ((cf_X6_first m_a u_F u_R g_F g_R g_C g_L m_rl m_lf m_ov ).2.2.2.2.2.2.1) m_pl g_S g_O g_Y g_H m_st g_W m_rm m_fs g_M) (va_A (mo_W q6 qA qB qF qR qC qL qS qO qY qH qW qM cyI cyJ cyZ m_th m_o m_f m_r m_b m_a u_F u_R g_F g_R g_C g_L m_rl m_lf m_ov m_pl g_S g_O g_Y g_H m_st g_W m_rm m_fs g_M) sz)) 0 0 (va_A (mo_W q6 qA qB qF qR qC qL qS qO qY qH qW qM cyI cyJ cyZ m_th m_o m_f m_r m_b m_a u_F u_R g_F g_R g_C g_L m_rl m_lf m_ov m_pl g_S g_O g_Y g_H m_st g_W m_rm m_fs g_M) sz) := by
  refine Met.ofW (cc := cX6_first) (maxL := 2) (ret := (some .long)) (by decide) rfl ?_
  intro p e s m args below meth c s₁ B hml hv
  obtain ⟨rfl, hsz, hP, hK, hD0⟩ := hv
  have hx := B.exec
  have hb := B.bytes
  have hr := B.returns
  have hts := atoms_spec (ws := wsX6_first) B.pre
  have hown : s.vm.findClass RX6 = some m.cls := findClass_of_methodNamed B.named
  have hlocks := B.notSynchronized
  subst hsz
  have hD := hD0.self (sz := s.heap.size)
  generalize hAe : va_A (mo_W q6 qA qB qF qR qC qL qS qO qY qH qW qM cyI cyJ cyZ m_th m_o m_f m_r m_b m_a u_F u_R g_F g_R g_C g_L m_rl m_lf m_ov m_pl g_S g_O g_Y g_H m_st g_W m_rm m_fs g_M) s.heap.size = A at hD ⊢
  have hA : ∀ q : Nat, s.heap.size ≤ q → A q := fun q h => by rw [← hAe]; exact Or.inr h
  have hP : va_P (dC, dI) kcl (mo_W q6 qA qB qF qR qC qL qS qO qY qH qW qM cyI cyJ cyZ m_th m_o m_f m_r m_b m_a u_F u_R g_F g_R g_C g_L m_rl m_lf m_ov m_pl g_S g_O g_Y g_H m_st g_W m_rm m_fs g_M) s.heap := hP
  have h0_ : (Cond.fieldLink RX6 29 "ColourTrierModel" "field" "[I").before _ s = true := hts _ (by decide +kernel)
  have h1_ : ∀ w ∈ u_ws RX6 TX6 25, w ∈ wsX6_first := fun w h => List.mem_cons_of_mem _ (List.mem_append_right _ h)
  have h2_ : (Cond.fieldLink RX6 22 "ColourTrierModel" "firstField" "[I").before _ s = true := hts _ (by decide +kernel)
  have h3_ : (Cond.fieldLink RX6 32 "ColourTrierModel" "root" "[I").before _ s = true := hts _ (by decide +kernel)
  have h4_ : (Cond.fieldLink RX6 26 "ColourTrierModel" "firstRoot" "[I").before _ s = true := hts _ (by decide +kernel)
  have h5_ : (Cond.fieldLink RX6 35 "ColourTrierModel" "colour" "[I").before _ s = true := hts _ (by decide +kernel)
  have h6_ : (Cond.fieldLink RX6 38 "ColourTrierModel" "looked" "[I").before _ s = true := hts _ (by decide +kernel)
  have h7_ : (Cond.fieldLink RX6 70 "ColourTrierModel" "rootsLooked" "I").before _ s = true := hts _ (by decide +kernel)
  have h8_ : (Cond.fieldLink RX6 73 "ColourTrierModel" "acts" "I").before _ s = true := hts _ (by decide +kernel)
  have h9_ : (Cond.fieldLink RX6 76 "ColourTrierModel" "left" "I").before _ s = true := hts _ (by decide +kernel)
  have h10_ : (Cond.fieldLink RX6 79 "ColourTrierModel" "isOver" "Z").before _ s = true := hts _ (by decide +kernel)
  generalize hR : (cf_X6_first m_a u_F u_R g_F g_R g_C g_L m_rl m_lf m_ov ) = R
  have Ks56_4 : ∀  (g_F : Nat → Int32) (g_R : Nat → Int32) (g_C : Nat → Int32) (g_L : Nat → Int32) (m_rl : Int32) (m_lf : Int32) (m_ov : Int32)  (H : Heap) (locs : List Loc) (ls : Array Slot), va_P (dC, dI) kcl (mo_W q6 qA qB qF qR qC qL qS qO qY qH qW qM cyI cyJ cyZ m_th m_o m_f m_r m_b m_a u_F u_R g_F g_R g_C g_L m_rl m_lf m_ov m_pl g_S g_O g_Y g_H m_st g_W m_rm m_fs g_M) H → va_D A (mo_W q6 qA qB qF qR qC qL qS qO qY qH qW qM cyI cyJ cyZ m_th m_o m_f m_r m_b m_a u_F u_R g_F g_R g_C g_L m_rl m_lf m_ov m_pl g_S g_O g_Y g_H m_st g_W m_rm m_fs g_M) → va_S A s.heap H locs → lv_has ls 2 [(0, .ref q6), (1, .int (4 : Int32))] → cf_X6_first_s56_4  m_a u_F u_R g_F g_R g_C g_L m_rl m_lf m_ov  = R → W p l e (headSpec wsX6_first ({ frames := 1, cells := 0, slots := 0, locals := 23 })).room s m ([.ref q6] : List Value).toArray below meth c H locs 0 0 (MQ below (mu_Q (some (.long R.2.2.2.2.2.2.2)) (dC, dI) kcl (mo_W q6 qA qB qF qR qC qL qS qO qY qH qW qM cyI cyJ cyZ m_th m_o m_f m_r m_b m_a u_F u_R R.1 R.2.1 R.2.2.1 R.2.2.2.1 R.2.2.2.2.1 R.2.2.2.2.2.1 R.2.2.2.2.2.2.1 m_pl g_S g_O g_Y g_H m_st g_W m_rm m_fs g_M) A) ([.ref q6] : List Value).toArray s 0 0 A) (F0 m 56 ls []) := by
    intro  g_F g_R g_C g_L m_rl m_lf m_ov  H locs ls hP hD hS hl hR
    unfold cf_X6_first_s56_4 at hR
    refine lv_iload_n hx hb dX6_first_56 rfl (lv_at hl 1 rfl) ?_
    refine lv_iconst (v := (4 : Int32)) hx hb dX6_first_57 (by decide +kernel) ?_
    refine lv_icmp_ge (tgt := 81) hx hb dX6_first_58 (by decide) (fun _ => ?_) (fun c_0 => absurd c_0 (by decide +kernel))
    refine lv_aload_n hx hb dX6_first_81 rfl (lv_at hl 0 rfl) ?_
    refine lv_iconst (v := (0 : Int32)) hx hb dX6_first_82 (by decide +kernel) ?_
    refine va_put (D := (dC, dI)) (ci := 4) (v := .int (0 : Int32)) (ty := .int) (C := RX6) (T := TX6) (N := 25) hx hb hts h1_ tyX6 tyX6_ok nmX6 hown hK hP hD hS 0 rfl rfl 12 (by decide) h7_ (fun _ h9 => h9) rfl (by decide +kernel) rfl rfl (Nat.le_of_ble_eq_true rfl) dX6_first_83 (fun H locs hP hD hS => ?_)
    have hP : va_P (dC, dI) kcl (mo_W q6 qA qB qF qR qC qL qS qO qY qH qW qM cyI cyJ cyZ m_th m_o m_f m_r m_b m_a u_F u_R g_F g_R g_C g_L (0 : Int32) m_lf m_ov m_pl g_S g_O g_Y g_H m_st g_W m_rm m_fs g_M) H := hP
    have hD : va_D A (mo_W q6 qA qB qF qR qC qL qS qO qY qH qW qM cyI cyJ cyZ m_th m_o m_f m_r m_b m_a u_F u_R g_F g_R g_C g_L (0 : Int32) m_lf m_ov m_pl g_S g_O g_Y g_H m_st g_W m_rm m_fs g_M) := hD
    refine lv_aload_n hx hb dX6_first_86 rfl (lv_at hl 0 rfl) ?_
    refine lv_aload_n hx hb dX6_first_87 rfl (lv_at hl 0 rfl) ?_
    refine va_get (D := (dC, dI)) (ci := 4) (v := .int m_a) (C := RX6) (T := TX6) (N := 25) hx hb hts h1_ hown hK hP 0 rfl rfl 5 (by decide) h8_ (fun _ h9 => h9) rfl dX6_first_88 ?_
    refine va_put (D := (dC, dI)) (ci := 4) (v := .int m_a) (ty := .int) (C := RX6) (T := TX6) (N := 25) hx hb hts h1_ tyX6 tyX6_ok nmX6 hown hK hP hD hS 0 rfl rfl 13 (by decide) h9_ (fun _ h9 => h9) rfl (by decide +kernel) rfl rfl (Nat.le_of_ble_eq_true rfl) dX6_first_91 (fun H locs hP hD hS => ?_)
    have hP : va_P (dC, dI) kcl (mo_W q6 qA qB qF qR qC qL qS qO qY qH qW qM cyI cyJ cyZ m_th m_o m_f m_r m_b m_a u_F u_R g_F g_R g_C g_L (0 : Int32) m_a m_ov m_pl g_S g_O g_Y g_H m_st g_W m_rm m_fs g_M) H := hP
    have hD : va_D A (mo_W q6 qA qB qF qR qC qL qS qO qY qH qW qM cyI cyJ cyZ m_th m_o m_f m_r m_b m_a u_F u_R g_F g_R g_C g_L (0 : Int32) m_a m_ov m_pl g_S g_O g_Y g_H m_st g_W m_rm m_fs g_M) := hD
    refine lv_aload_n hx hb dX6_first_94 rfl (lv_at hl 0 rfl) ?_
    refine lv_iconst (v := (0 : Int32)) hx hb dX6_first_95 (by decide +kernel) ?_
    refine va_put (D := (dC, dI)) (ci := 4) (v := .int (0 : Int32)) (ty := .boolean) (C := RX6) (T := TX6) (N := 25) hx hb hts h1_ tyX6 tyX6_ok nmX6 hown hK hP hD hS 0 rfl rfl 14 (by decide) h10_ (fun _ h9 => h9) rfl (by decide +kernel) (by decide +kernel) (by decide +kernel) (Nat.le_of_ble_eq_true rfl) dX6_first_96 (fun H locs hP hD hS => ?_)
    have hP : va_P (dC, dI) kcl (mo_W q6 qA qB qF qR qC qL qS qO qY qH qW qM cyI cyJ cyZ m_th m_o m_f m_r m_b m_a u_F u_R g_F g_R g_C g_L (0 : Int32) m_a (0 : Int32) m_pl g_S g_O g_Y g_H m_st g_W m_rm m_fs g_M) H := hP
    have hD : va_D A (mo_W q6 qA qB qF qR qC qL qS qO qY qH qW qM cyI cyJ cyZ m_th m_o m_f m_r m_b m_a u_F u_R g_F g_R g_C g_L (0 : Int32) m_a (0 : Int32) m_pl g_S g_O g_Y g_H m_st g_W m_rm m_fs g_M) := hD
    refine lv_aload_n hx hb dX6_first_99 rfl (lv_at hl 0 rfl) ?_
    refine rd_calll (va_runV (As := []) (rest := []) ⟨hx, hb, hml, hown, hts⟩ (c_X6_number l dC dI q6 qA qB qF qR qC qL qS qO qY qH qW qM cyI cyJ cyZ m_th m_o m_f m_r m_b m_a u_F u_R g_F g_R g_C g_L (0 : Int32) m_a (0 : Int32) m_pl g_S g_O g_Y g_H m_st g_W m_rm m_fs g_M   ) (cwV 0 hts gX6_first_X6_number rfl rfl rfl (by decide +kernel) ⟨Nat.le_of_ble_eq_true rfl, Nat.le_of_ble_eq_true rfl⟩) ⟨rd_blind, va_recv hK hP (ci := 4) (q0 := 0) rfl rfl, fun U hU hW => ⟨rfl, by rw [hU]; exact hP, va_K.moved hW.alike (hK.sub [0, 1, 2] rfl)⟩⟩ rfl rfl hl.1 rfl (lv_room (Nat.le_of_ble_eq_true rfl)) dX6_first_100 ⟨Nat.le_refl _, Nat.le_refl _⟩) ?_
    rw [← hR]
    exact W.lret (v := (cf_X6_number g_F g_R g_C g_L (0 : Int32) m_a (0 : Int32) )) hx hb hr (fun t ht _ => ⟨rfl, by rw [ht]; exact hP, hS.F ht⟩) hS.2.2 dX6_first_103
  have Ks56_3 : ∀  (g_F : Nat → Int32) (g_R : Nat → Int32) (g_C : Nat → Int32) (g_L : Nat → Int32) (m_rl : Int32) (m_lf : Int32) (m_ov : Int32)  (H : Heap) (locs : List Loc) (ls : Array Slot), va_P (dC, dI) kcl (mo_W q6 qA qB qF qR qC qL qS qO qY qH qW qM cyI cyJ cyZ m_th m_o m_f m_r m_b m_a u_F u_R g_F g_R g_C g_L m_rl m_lf m_ov m_pl g_S g_O g_Y g_H m_st g_W m_rm m_fs g_M) H → va_D A (mo_W q6 qA qB qF qR qC qL qS qO qY qH qW qM cyI cyJ cyZ m_th m_o m_f m_r m_b m_a u_F u_R g_F g_R g_C g_L m_rl m_lf m_ov m_pl g_S g_O g_Y g_H m_st g_W m_rm m_fs g_M) → va_S A s.heap H locs → lv_has ls 2 [(0, .ref q6), (1, .int (3 : Int32))] → cf_X6_first_s56_3  m_a u_F u_R g_F g_R g_C g_L m_rl m_lf m_ov  = R → W p l e (headSpec wsX6_first ({ frames := 1, cells := 0, slots := 0, locals := 23 })).room s m ([.ref q6] : List Value).toArray below meth c H locs 0 0 (MQ below (mu_Q (some (.long R.2.2.2.2.2.2.2)) (dC, dI) kcl (mo_W q6 qA qB qF qR qC qL qS qO qY qH qW qM cyI cyJ cyZ m_th m_o m_f m_r m_b m_a u_F u_R R.1 R.2.1 R.2.2.1 R.2.2.2.1 R.2.2.2.2.1 R.2.2.2.2.2.1 R.2.2.2.2.2.2.1 m_pl g_S g_O g_Y g_H m_st g_W m_rm m_fs g_M) A) ([.ref q6] : List Value).toArray s 0 0 A) (F0 m 56 ls []) := by
    intro  g_F g_R g_C g_L m_rl m_lf m_ov  H locs ls hP hD hS hl hR
    unfold cf_X6_first_s56_3 at hR
    refine lv_iload_n hx hb dX6_first_56 rfl (lv_at hl 1 rfl) ?_
    refine lv_iconst (v := (4 : Int32)) hx hb dX6_first_57 (by decide +kernel) ?_
    refine lv_icmp_ge (tgt := 81) hx hb dX6_first_58 (by decide) (fun c_0 => absurd c_0 (by decide +kernel)) (fun _ => ?_)
    refine lv_aload_n hx hb dX6_first_61 rfl (lv_at hl 0 rfl) ?_
    refine va_get (D := (dC, dI)) (ci := 4) (v := .ref qC) (C := RX6) (T := TX6) (N := 25) hx hb hts h1_ hown hK hP 0 rfl rfl 10 (by decide) h5_ (fun _ h9 => h9) rfl dX6_first_62 ?_
    refine lv_iload_n hx hb dX6_first_65 rfl (lv_at hl 1 rfl) ?_
    refine lv_iconst (v := (0 : Int32)) hx hb dX6_first_66 (by decide +kernel) ?_
    refine va_iast hx hb hK hP hD hS 5 0 rfl rfl (by unfold vp_in; decide +kernel) dX6_first_67 (fun H locs hP hD hS => ?_)
    have hP : va_P (dC, dI) kcl (mo_W q6 qA qB qF qR qC qL qS qO qY qH qW qM cyI cyJ cyZ m_th m_o m_f m_r m_b m_a u_F u_R g_F g_R (upd g_C ((3 : Int32)).toNatClampNeg (0 : Int32)) g_L m_rl m_lf m_ov m_pl g_S g_O g_Y g_H m_st g_W m_rm m_fs g_M) H := hP
    have hD : va_D A (mo_W q6 qA qB qF qR qC qL qS qO qY qH qW qM cyI cyJ cyZ m_th m_o m_f m_r m_b m_a u_F u_R g_F g_R (upd g_C ((3 : Int32)).toNatClampNeg (0 : Int32)) g_L m_rl m_lf m_ov m_pl g_S g_O g_Y g_H m_st g_W m_rm m_fs g_M) := hD
    refine lv_aload_n hx hb dX6_first_68 rfl (lv_at hl 0 rfl) ?_
    refine va_get (D := (dC, dI)) (ci := 4) (v := .ref qL) (C := RX6) (T := TX6) (N := 25) hx hb hts h1_ hown hK hP 0 rfl rfl 11 (by decide) h6_ (fun _ h9 => h9) rfl dX6_first_69 ?_
    refine lv_iload_n hx hb dX6_first_72 rfl (lv_at hl 1 rfl) ?_
    refine lv_iconst (v := (0 : Int32)) hx hb dX6_first_73 (by decide +kernel) ?_
    refine va_iast hx hb hK hP hD hS 6 0 rfl rfl (by unfold vp_in; decide +kernel) dX6_first_74 (fun H locs hP hD hS => ?_)
    have hP : va_P (dC, dI) kcl (mo_W q6 qA qB qF qR qC qL qS qO qY qH qW qM cyI cyJ cyZ m_th m_o m_f m_r m_b m_a u_F u_R g_F g_R (upd g_C ((3 : Int32)).toNatClampNeg (0 : Int32)) (upd g_L ((3 : Int32)).toNatClampNeg (0 : Int32)) m_rl m_lf m_ov m_pl g_S g_O g_Y g_H m_st g_W m_rm m_fs g_M) H := hP
    have hD : va_D A (mo_W q6 qA qB qF qR qC qL qS qO qY qH qW qM cyI cyJ cyZ m_th m_o m_f m_r m_b m_a u_F u_R g_F g_R (upd g_C ((3 : Int32)).toNatClampNeg (0 : Int32)) (upd g_L ((3 : Int32)).toNatClampNeg (0 : Int32)) m_rl m_lf m_ov m_pl g_S g_O g_Y g_H m_st g_W m_rm m_fs g_M) := hD
    refine lv_iinc (v := (4 : Int32)) (lv' := [(1, .int (4 : Int32)), (0, .ref q6)]) hx hb dX6_first_75 hl (k := 1) rfl (by decide +kernel) (by decide) rfl (fun ls hl => ?_)
    refine lv_goto (tgt := 56) hx hb dX6_first_78 (by decide) ?_
    exact Ks56_4  g_F g_R (upd g_C ((3 : Int32)).toNatClampNeg (0 : Int32)) (upd g_L ((3 : Int32)).toNatClampNeg (0 : Int32)) m_rl m_lf m_ov  H locs ls hP hD hS (lv_sub hl [1, 0] rfl) hR
  have Ks56_2 : ∀  (g_F : Nat → Int32) (g_R : Nat → Int32) (g_C : Nat → Int32) (g_L : Nat → Int32) (m_rl : Int32) (m_lf : Int32) (m_ov : Int32)  (H : Heap) (locs : List Loc) (ls : Array Slot), va_P (dC, dI) kcl (mo_W q6 qA qB qF qR qC qL qS qO qY qH qW qM cyI cyJ cyZ m_th m_o m_f m_r m_b m_a u_F u_R g_F g_R g_C g_L m_rl m_lf m_ov m_pl g_S g_O g_Y g_H m_st g_W m_rm m_fs g_M) H → va_D A (mo_W q6 qA qB qF qR qC qL qS qO qY qH qW qM cyI cyJ cyZ m_th m_o m_f m_r m_b m_a u_F u_R g_F g_R g_C g_L m_rl m_lf m_ov m_pl g_S g_O g_Y g_H m_st g_W m_rm m_fs g_M) → va_S A s.heap H locs → lv_has ls 2 [(0, .ref q6), (1, .int (2 : Int32))] → cf_X6_first_s56_2  m_a u_F u_R g_F g_R g_C g_L m_rl m_lf m_ov  = R → W p l e (headSpec wsX6_first ({ frames := 1, cells := 0, slots := 0, locals := 23 })).room s m ([.ref q6] : List Value).toArray below meth c H locs 0 0 (MQ below (mu_Q (some (.long R.2.2.2.2.2.2.2)) (dC, dI) kcl (mo_W q6 qA qB qF qR qC qL qS qO qY qH qW qM cyI cyJ cyZ m_th m_o m_f m_r m_b m_a u_F u_R R.1 R.2.1 R.2.2.1 R.2.2.2.1 R.2.2.2.2.1 R.2.2.2.2.2.1 R.2.2.2.2.2.2.1 m_pl g_S g_O g_Y g_H m_st g_W m_rm m_fs g_M) A) ([.ref q6] : List Value).toArray s 0 0 A) (F0 m 56 ls []) := by
    intro  g_F g_R g_C g_L m_rl m_lf m_ov  H locs ls hP hD hS hl hR
    unfold cf_X6_first_s56_2 at hR
    refine lv_iload_n hx hb dX6_first_56 rfl (lv_at hl 1 rfl) ?_
    refine lv_iconst (v := (4 : Int32)) hx hb dX6_first_57 (by decide +kernel) ?_
    refine lv_icmp_ge (tgt := 81) hx hb dX6_first_58 (by decide) (fun c_0 => absurd c_0 (by decide +kernel)) (fun _ => ?_)
    refine lv_aload_n hx hb dX6_first_61 rfl (lv_at hl 0 rfl) ?_
    refine va_get (D := (dC, dI)) (ci := 4) (v := .ref qC) (C := RX6) (T := TX6) (N := 25) hx hb hts h1_ hown hK hP 0 rfl rfl 10 (by decide) h5_ (fun _ h9 => h9) rfl dX6_first_62 ?_
    refine lv_iload_n hx hb dX6_first_65 rfl (lv_at hl 1 rfl) ?_
    refine lv_iconst (v := (0 : Int32)) hx hb dX6_first_66 (by decide +kernel) ?_
    refine va_iast hx hb hK hP hD hS 5 0 rfl rfl (by unfold vp_in; decide +kernel) dX6_first_67 (fun H locs hP hD hS => ?_)
    have hP : va_P (dC, dI) kcl (mo_W q6 qA qB qF qR qC qL qS qO qY qH qW qM cyI cyJ cyZ m_th m_o m_f m_r m_b m_a u_F u_R g_F g_R (upd g_C ((2 : Int32)).toNatClampNeg (0 : Int32)) g_L m_rl m_lf m_ov m_pl g_S g_O g_Y g_H m_st g_W m_rm m_fs g_M) H := hP
    have hD : va_D A (mo_W q6 qA qB qF qR qC qL qS qO qY qH qW qM cyI cyJ cyZ m_th m_o m_f m_r m_b m_a u_F u_R g_F g_R (upd g_C ((2 : Int32)).toNatClampNeg (0 : Int32)) g_L m_rl m_lf m_ov m_pl g_S g_O g_Y g_H m_st g_W m_rm m_fs g_M) := hD
    refine lv_aload_n hx hb dX6_first_68 rfl (lv_at hl 0 rfl) ?_
    refine va_get (D := (dC, dI)) (ci := 4) (v := .ref qL) (C := RX6) (T := TX6) (N := 25) hx hb hts h1_ hown hK hP 0 rfl rfl 11 (by decide) h6_ (fun _ h9 => h9) rfl dX6_first_69 ?_
    refine lv_iload_n hx hb dX6_first_72 rfl (lv_at hl 1 rfl) ?_
    refine lv_iconst (v := (0 : Int32)) hx hb dX6_first_73 (by decide +kernel) ?_
    refine va_iast hx hb hK hP hD hS 6 0 rfl rfl (by unfold vp_in; decide +kernel) dX6_first_74 (fun H locs hP hD hS => ?_)
    have hP : va_P (dC, dI) kcl (mo_W q6 qA qB qF qR qC qL qS qO qY qH qW qM cyI cyJ cyZ m_th m_o m_f m_r m_b m_a u_F u_R g_F g_R (upd g_C ((2 : Int32)).toNatClampNeg (0 : Int32)) (upd g_L ((2 : Int32)).toNatClampNeg (0 : Int32)) m_rl m_lf m_ov m_pl g_S g_O g_Y g_H m_st g_W m_rm m_fs g_M) H := hP
    have hD : va_D A (mo_W q6 qA qB qF qR qC qL qS qO qY qH qW qM cyI cyJ cyZ m_th m_o m_f m_r m_b m_a u_F u_R g_F g_R (upd g_C ((2 : Int32)).toNatClampNeg (0 : Int32)) (upd g_L ((2 : Int32)).toNatClampNeg (0 : Int32)) m_rl m_lf m_ov m_pl g_S g_O g_Y g_H m_st g_W m_rm m_fs g_M) := hD
    refine lv_iinc (v := (3 : Int32)) (lv' := [(1, .int (3 : Int32)), (0, .ref q6)]) hx hb dX6_first_75 hl (k := 1) rfl (by decide +kernel) (by decide) rfl (fun ls hl => ?_)
    refine lv_goto (tgt := 56) hx hb dX6_first_78 (by decide) ?_
    exact Ks56_3  g_F g_R (upd g_C ((2 : Int32)).toNatClampNeg (0 : Int32)) (upd g_L ((2 : Int32)).toNatClampNeg (0 : Int32)) m_rl m_lf m_ov  H locs ls hP hD hS (lv_sub hl [1, 0] rfl) hR
  have Ks56_1 : ∀  (g_F : Nat → Int32) (g_R : Nat → Int32) (g_C : Nat → Int32) (g_L : Nat → Int32) (m_rl : Int32) (m_lf : Int32) (m_ov : Int32)  (H : Heap) (locs : List Loc) (ls : Array Slot), va_P (dC, dI) kcl (mo_W q6 qA qB qF qR qC qL qS qO qY qH qW qM cyI cyJ cyZ m_th m_o m_f m_r m_b m_a u_F u_R g_F g_R g_C g_L m_rl m_lf m_ov m_pl g_S g_O g_Y g_H m_st g_W m_rm m_fs g_M) H → va_D A (mo_W q6 qA qB qF qR qC qL qS qO qY qH qW qM cyI cyJ cyZ m_th m_o m_f m_r m_b m_a u_F u_R g_F g_R g_C g_L m_rl m_lf m_ov m_pl g_S g_O g_Y g_H m_st g_W m_rm m_fs g_M) → va_S A s.heap H locs → lv_has ls 2 [(0, .ref q6), (1, .int (1 : Int32))] → cf_X6_first_s56_1  m_a u_F u_R g_F g_R g_C g_L m_rl m_lf m_ov  = R → W p l e (headSpec wsX6_first ({ frames := 1, cells := 0, slots := 0, locals := 23 })).room s m ([.ref q6] : List Value).toArray below meth c H locs 0 0 (MQ below (mu_Q (some (.long R.2.2.2.2.2.2.2)) (dC, dI) kcl (mo_W q6 qA qB qF qR qC qL qS qO qY qH qW qM cyI cyJ cyZ m_th m_o m_f m_r m_b m_a u_F u_R R.1 R.2.1 R.2.2.1 R.2.2.2.1 R.2.2.2.2.1 R.2.2.2.2.2.1 R.2.2.2.2.2.2.1 m_pl g_S g_O g_Y g_H m_st g_W m_rm m_fs g_M) A) ([.ref q6] : List Value).toArray s 0 0 A) (F0 m 56 ls []) := by
    intro  g_F g_R g_C g_L m_rl m_lf m_ov  H locs ls hP hD hS hl hR
    unfold cf_X6_first_s56_1 at hR
    refine lv_iload_n hx hb dX6_first_56 rfl (lv_at hl 1 rfl) ?_
    refine lv_iconst (v := (4 : Int32)) hx hb dX6_first_57 (by decide +kernel) ?_
    refine lv_icmp_ge (tgt := 81) hx hb dX6_first_58 (by decide) (fun c_0 => absurd c_0 (by decide +kernel)) (fun _ => ?_)
    refine lv_aload_n hx hb dX6_first_61 rfl (lv_at hl 0 rfl) ?_
    refine va_get (D := (dC, dI)) (ci := 4) (v := .ref qC) (C := RX6) (T := TX6) (N := 25) hx hb hts h1_ hown hK hP 0 rfl rfl 10 (by decide) h5_ (fun _ h9 => h9) rfl dX6_first_62 ?_
    refine lv_iload_n hx hb dX6_first_65 rfl (lv_at hl 1 rfl) ?_
    refine lv_iconst (v := (0 : Int32)) hx hb dX6_first_66 (by decide +kernel) ?_
    refine va_iast hx hb hK hP hD hS 5 0 rfl rfl (by unfold vp_in; decide +kernel) dX6_first_67 (fun H locs hP hD hS => ?_)
    have hP : va_P (dC, dI) kcl (mo_W q6 qA qB qF qR qC qL qS qO qY qH qW qM cyI cyJ cyZ m_th m_o m_f m_r m_b m_a u_F u_R g_F g_R (upd g_C ((1 : Int32)).toNatClampNeg (0 : Int32)) g_L m_rl m_lf m_ov m_pl g_S g_O g_Y g_H m_st g_W m_rm m_fs g_M) H := hP
    have hD : va_D A (mo_W q6 qA qB qF qR qC qL qS qO qY qH qW qM cyI cyJ cyZ m_th m_o m_f m_r m_b m_a u_F u_R g_F g_R (upd g_C ((1 : Int32)).toNatClampNeg (0 : Int32)) g_L m_rl m_lf m_ov m_pl g_S g_O g_Y g_H m_st g_W m_rm m_fs g_M) := hD
    refine lv_aload_n hx hb dX6_first_68 rfl (lv_at hl 0 rfl) ?_
    refine va_get (D := (dC, dI)) (ci := 4) (v := .ref qL) (C := RX6) (T := TX6) (N := 25) hx hb hts h1_ hown hK hP 0 rfl rfl 11 (by decide) h6_ (fun _ h9 => h9) rfl dX6_first_69 ?_
    refine lv_iload_n hx hb dX6_first_72 rfl (lv_at hl 1 rfl) ?_
    refine lv_iconst (v := (0 : Int32)) hx hb dX6_first_73 (by decide +kernel) ?_
    refine va_iast hx hb hK hP hD hS 6 0 rfl rfl (by unfold vp_in; decide +kernel) dX6_first_74 (fun H locs hP hD hS => ?_)
    have hP : va_P (dC, dI) kcl (mo_W q6 qA qB qF qR qC qL qS qO qY qH qW qM cyI cyJ cyZ m_th m_o m_f m_r m_b m_a u_F u_R g_F g_R (upd g_C ((1 : Int32)).toNatClampNeg (0 : Int32)) (upd g_L ((1 : Int32)).toNatClampNeg (0 : Int32)) m_rl m_lf m_ov m_pl g_S g_O g_Y g_H m_st g_W m_rm m_fs g_M) H := hP
    have hD : va_D A (mo_W q6 qA qB qF qR qC qL qS qO qY qH qW qM cyI cyJ cyZ m_th m_o m_f m_r m_b m_a u_F u_R g_F g_R (upd g_C ((1 : Int32)).toNatClampNeg (0 : Int32)) (upd g_L ((1 : Int32)).toNatClampNeg (0 : Int32)) m_rl m_lf m_ov m_pl g_S g_O g_Y g_H m_st g_W m_rm m_fs g_M) := hD
    refine lv_iinc (v := (2 : Int32)) (lv' := [(1, .int (2 : Int32)), (0, .ref q6)]) hx hb dX6_first_75 hl (k := 1) rfl (by decide +kernel) (by decide) rfl (fun ls hl => ?_)
    refine lv_goto (tgt := 56) hx hb dX6_first_78 (by decide) ?_
    exact Ks56_2  g_F g_R (upd g_C ((1 : Int32)).toNatClampNeg (0 : Int32)) (upd g_L ((1 : Int32)).toNatClampNeg (0 : Int32)) m_rl m_lf m_ov  H locs ls hP hD hS (lv_sub hl [1, 0] rfl) hR
  have Ks56_0 : ∀  (g_F : Nat → Int32) (g_R : Nat → Int32) (g_C : Nat → Int32) (g_L : Nat → Int32) (m_rl : Int32) (m_lf : Int32) (m_ov : Int32)  (H : Heap) (locs : List Loc) (ls : Array Slot), va_P (dC, dI) kcl (mo_W q6 qA qB qF qR qC qL qS qO qY qH qW qM cyI cyJ cyZ m_th m_o m_f m_r m_b m_a u_F u_R g_F g_R g_C g_L m_rl m_lf m_ov m_pl g_S g_O g_Y g_H m_st g_W m_rm m_fs g_M) H → va_D A (mo_W q6 qA qB qF qR qC qL qS qO qY qH qW qM cyI cyJ cyZ m_th m_o m_f m_r m_b m_a u_F u_R g_F g_R g_C g_L m_rl m_lf m_ov m_pl g_S g_O g_Y g_H m_st g_W m_rm m_fs g_M) → va_S A s.heap H locs → lv_has ls 2 [(0, .ref q6), (1, .int (0 : Int32))] → cf_X6_first_s56_0  m_a u_F u_R g_F g_R g_C g_L m_rl m_lf m_ov  = R → W p l e (headSpec wsX6_first ({ frames := 1, cells := 0, slots := 0, locals := 23 })).room s m ([.ref q6] : List Value).toArray below meth c H locs 0 0 (MQ below (mu_Q (some (.long R.2.2.2.2.2.2.2)) (dC, dI) kcl (mo_W q6 qA qB qF qR qC qL qS qO qY qH qW qM cyI cyJ cyZ m_th m_o m_f m_r m_b m_a u_F u_R R.1 R.2.1 R.2.2.1 R.2.2.2.1 R.2.2.2.2.1 R.2.2.2.2.2.1 R.2.2.2.2.2.2.1 m_pl g_S g_O g_Y g_H m_st g_W m_rm m_fs g_M) A) ([.ref q6] : List Value).toArray s 0 0 A) (F0 m 56 ls []) := by
    intro  g_F g_R g_C g_L m_rl m_lf m_ov  H locs ls hP hD hS hl hR
    unfold cf_X6_first_s56_0 at hR
    refine lv_iload_n hx hb dX6_first_56 rfl (lv_at hl 1 rfl) ?_
    refine lv_iconst (v := (4 : Int32)) hx hb dX6_first_57 (by decide +kernel) ?_
    refine lv_icmp_ge (tgt := 81) hx hb dX6_first_58 (by decide) (fun c_0 => absurd c_0 (by decide +kernel)) (fun _ => ?_)
    refine lv_aload_n hx hb dX6_first_61 rfl (lv_at hl 0 rfl) ?_
    refine va_get (D := (dC, dI)) (ci := 4) (v := .ref qC) (C := RX6) (T := TX6) (N := 25) hx hb hts h1_ hown hK hP 0 rfl rfl 10 (by decide) h5_ (fun _ h9 => h9) rfl dX6_first_62 ?_
    refine lv_iload_n hx hb dX6_first_65 rfl (lv_at hl 1 rfl) ?_
    refine lv_iconst (v := (0 : Int32)) hx hb dX6_first_66 (by decide +kernel) ?_
    refine va_iast hx hb hK hP hD hS 5 0 rfl rfl (by unfold vp_in; decide +kernel) dX6_first_67 (fun H locs hP hD hS => ?_)
    have hP : va_P (dC, dI) kcl (mo_W q6 qA qB qF qR qC qL qS qO qY qH qW qM cyI cyJ cyZ m_th m_o m_f m_r m_b m_a u_F u_R g_F g_R (upd g_C ((0 : Int32)).toNatClampNeg (0 : Int32)) g_L m_rl m_lf m_ov m_pl g_S g_O g_Y g_H m_st g_W m_rm m_fs g_M) H := hP
    have hD : va_D A (mo_W q6 qA qB qF qR qC qL qS qO qY qH qW qM cyI cyJ cyZ m_th m_o m_f m_r m_b m_a u_F u_R g_F g_R (upd g_C ((0 : Int32)).toNatClampNeg (0 : Int32)) g_L m_rl m_lf m_ov m_pl g_S g_O g_Y g_H m_st g_W m_rm m_fs g_M) := hD
    refine lv_aload_n hx hb dX6_first_68 rfl (lv_at hl 0 rfl) ?_
    refine va_get (D := (dC, dI)) (ci := 4) (v := .ref qL) (C := RX6) (T := TX6) (N := 25) hx hb hts h1_ hown hK hP 0 rfl rfl 11 (by decide) h6_ (fun _ h9 => h9) rfl dX6_first_69 ?_
    refine lv_iload_n hx hb dX6_first_72 rfl (lv_at hl 1 rfl) ?_
    refine lv_iconst (v := (0 : Int32)) hx hb dX6_first_73 (by decide +kernel) ?_
    refine va_iast hx hb hK hP hD hS 6 0 rfl rfl (by unfold vp_in; decide +kernel) dX6_first_74 (fun H locs hP hD hS => ?_)
    have hP : va_P (dC, dI) kcl (mo_W q6 qA qB qF qR qC qL qS qO qY qH qW qM cyI cyJ cyZ m_th m_o m_f m_r m_b m_a u_F u_R g_F g_R (upd g_C ((0 : Int32)).toNatClampNeg (0 : Int32)) (upd g_L ((0 : Int32)).toNatClampNeg (0 : Int32)) m_rl m_lf m_ov m_pl g_S g_O g_Y g_H m_st g_W m_rm m_fs g_M) H := hP
    have hD : va_D A (mo_W q6 qA qB qF qR qC qL qS qO qY qH qW qM cyI cyJ cyZ m_th m_o m_f m_r m_b m_a u_F u_R g_F g_R (upd g_C ((0 : Int32)).toNatClampNeg (0 : Int32)) (upd g_L ((0 : Int32)).toNatClampNeg (0 : Int32)) m_rl m_lf m_ov m_pl g_S g_O g_Y g_H m_st g_W m_rm m_fs g_M) := hD
    refine lv_iinc (v := (1 : Int32)) (lv' := [(1, .int (1 : Int32)), (0, .ref q6)]) hx hb dX6_first_75 hl (k := 1) rfl (by decide +kernel) (by decide) rfl (fun ls hl => ?_)
    refine lv_goto (tgt := 56) hx hb dX6_first_78 (by decide) ?_
    exact Ks56_1  g_F g_R (upd g_C ((0 : Int32)).toNatClampNeg (0 : Int32)) (upd g_L ((0 : Int32)).toNatClampNeg (0 : Int32)) m_rl m_lf m_ov  H locs ls hP hD hS (lv_sub hl [1, 0] rfl) hR
  have Ks31_3 : ∀  (g_F : Nat → Int32) (g_R : Nat → Int32) (g_C : Nat → Int32) (g_L : Nat → Int32) (m_rl : Int32) (m_lf : Int32) (m_ov : Int32)  (H : Heap) (locs : List Loc) (ls : Array Slot), va_P (dC, dI) kcl (mo_W q6 qA qB qF qR qC qL qS qO qY qH qW qM cyI cyJ cyZ m_th m_o m_f m_r m_b m_a u_F u_R g_F g_R g_C g_L m_rl m_lf m_ov m_pl g_S g_O g_Y g_H m_st g_W m_rm m_fs g_M) H → va_D A (mo_W q6 qA qB qF qR qC qL qS qO qY qH qW qM cyI cyJ cyZ m_th m_o m_f m_r m_b m_a u_F u_R g_F g_R g_C g_L m_rl m_lf m_ov m_pl g_S g_O g_Y g_H m_st g_W m_rm m_fs g_M) → va_S A s.heap H locs → lv_has ls 2 [(0, .ref q6), (1, .int (3 : Int32))] → cf_X6_first_s31_3  m_a u_F u_R g_F g_R g_C g_L m_rl m_lf m_ov  = R → W p l e (headSpec wsX6_first ({ frames := 1, cells := 0, slots := 0, locals := 23 })).room s m ([.ref q6] : List Value).toArray below meth c H locs 0 0 (MQ below (mu_Q (some (.long R.2.2.2.2.2.2.2)) (dC, dI) kcl (mo_W q6 qA qB qF qR qC qL qS qO qY qH qW qM cyI cyJ cyZ m_th m_o m_f m_r m_b m_a u_F u_R R.1 R.2.1 R.2.2.1 R.2.2.2.1 R.2.2.2.2.1 R.2.2.2.2.2.1 R.2.2.2.2.2.2.1 m_pl g_S g_O g_Y g_H m_st g_W m_rm m_fs g_M) A) ([.ref q6] : List Value).toArray s 0 0 A) (F0 m 31 ls []) := by
    intro  g_F g_R g_C g_L m_rl m_lf m_ov  H locs ls hP hD hS hl hR
    unfold cf_X6_first_s31_3 at hR
    refine lv_iload_n hx hb dX6_first_31 rfl (lv_at hl 1 rfl) ?_
    refine lv_iconst (v := (3 : Int32)) hx hb dX6_first_32 (by decide +kernel) ?_
    refine lv_icmp_ge (tgt := 54) hx hb dX6_first_33 (by decide) (fun _ => ?_) (fun c_0 => absurd c_0 (by decide +kernel))
    refine lv_iconst (v := (0 : Int32)) hx hb dX6_first_54 (by decide +kernel) ?_
    refine lv_istore_n (lv' := [(1, .int (0 : Int32)), (0, .ref q6)]) hx hb dX6_first_55 rfl hl (by decide) rfl (fun ls hl => ?_)
    exact Ks56_0  g_F g_R g_C g_L m_rl m_lf m_ov  H locs ls hP hD hS (lv_sub hl [1, 0] rfl) hR
  have Ks31_2 : ∀  (g_F : Nat → Int32) (g_R : Nat → Int32) (g_C : Nat → Int32) (g_L : Nat → Int32) (m_rl : Int32) (m_lf : Int32) (m_ov : Int32)  (H : Heap) (locs : List Loc) (ls : Array Slot), va_P (dC, dI) kcl (mo_W q6 qA qB qF qR qC qL qS qO qY qH qW qM cyI cyJ cyZ m_th m_o m_f m_r m_b m_a u_F u_R g_F g_R g_C g_L m_rl m_lf m_ov m_pl g_S g_O g_Y g_H m_st g_W m_rm m_fs g_M) H → va_D A (mo_W q6 qA qB qF qR qC qL qS qO qY qH qW qM cyI cyJ cyZ m_th m_o m_f m_r m_b m_a u_F u_R g_F g_R g_C g_L m_rl m_lf m_ov m_pl g_S g_O g_Y g_H m_st g_W m_rm m_fs g_M) → va_S A s.heap H locs → lv_has ls 2 [(0, .ref q6), (1, .int (2 : Int32))] → cf_X6_first_s31_2  m_a u_F u_R g_F g_R g_C g_L m_rl m_lf m_ov  = R → W p l e (headSpec wsX6_first ({ frames := 1, cells := 0, slots := 0, locals := 23 })).room s m ([.ref q6] : List Value).toArray below meth c H locs 0 0 (MQ below (mu_Q (some (.long R.2.2.2.2.2.2.2)) (dC, dI) kcl (mo_W q6 qA qB qF qR qC qL qS qO qY qH qW qM cyI cyJ cyZ m_th m_o m_f m_r m_b m_a u_F u_R R.1 R.2.1 R.2.2.1 R.2.2.2.1 R.2.2.2.2.1 R.2.2.2.2.2.1 R.2.2.2.2.2.2.1 m_pl g_S g_O g_Y g_H m_st g_W m_rm m_fs g_M) A) ([.ref q6] : List Value).toArray s 0 0 A) (F0 m 31 ls []) := by
    intro  g_F g_R g_C g_L m_rl m_lf m_ov  H locs ls hP hD hS hl hR
    unfold cf_X6_first_s31_2 at hR
    refine lv_iload_n hx hb dX6_first_31 rfl (lv_at hl 1 rfl) ?_
    refine lv_iconst (v := (3 : Int32)) hx hb dX6_first_32 (by decide +kernel) ?_
    refine lv_icmp_ge (tgt := 54) hx hb dX6_first_33 (by decide) (fun c_0 => absurd c_0 (by decide +kernel)) (fun _ => ?_)
    refine lv_aload_n hx hb dX6_first_36 rfl (lv_at hl 0 rfl) ?_
    refine va_get (D := (dC, dI)) (ci := 4) (v := .ref qR) (C := RX6) (T := TX6) (N := 25) hx hb hts h1_ hown hK hP 0 rfl rfl 9 (by decide) h3_ (fun _ h9 => h9) rfl dX6_first_37 ?_
    refine lv_iload_n hx hb dX6_first_40 rfl (lv_at hl 1 rfl) ?_
    refine lv_aload_n hx hb dX6_first_41 rfl (lv_at hl 0 rfl) ?_
    refine va_get (D := (dC, dI)) (ci := 4) (v := .ref qB) (C := RX6) (T := TX6) (N := 25) hx hb hts h1_ hown hK hP 0 rfl rfl 7 (by decide) h4_ (fun _ h9 => h9) rfl dX6_first_42 ?_
    refine lv_iload_n hx hb dX6_first_45 rfl (lv_at hl 1 rfl) ?_
    refine va_iald hx hb hK hP 2 0 rfl rfl (by unfold vp_in; decide +kernel) dX6_first_46 ?_
    refine va_iast hx hb hK hP hD hS 4 0 rfl rfl (by unfold vp_in; decide +kernel) dX6_first_47 (fun H locs hP hD hS => ?_)
    have hP : va_P (dC, dI) kcl (mo_W q6 qA qB qF qR qC qL qS qO qY qH qW qM cyI cyJ cyZ m_th m_o m_f m_r m_b m_a u_F u_R g_F (upd g_R ((2 : Int32)).toNatClampNeg (u_R ((2 : Int32)).toNatClampNeg)) g_C g_L m_rl m_lf m_ov m_pl g_S g_O g_Y g_H m_st g_W m_rm m_fs g_M) H := hP
    have hD : va_D A (mo_W q6 qA qB qF qR qC qL qS qO qY qH qW qM cyI cyJ cyZ m_th m_o m_f m_r m_b m_a u_F u_R g_F (upd g_R ((2 : Int32)).toNatClampNeg (u_R ((2 : Int32)).toNatClampNeg)) g_C g_L m_rl m_lf m_ov m_pl g_S g_O g_Y g_H m_st g_W m_rm m_fs g_M) := hD
    refine lv_iinc (v := (3 : Int32)) (lv' := [(1, .int (3 : Int32)), (0, .ref q6)]) hx hb dX6_first_48 hl (k := 1) rfl (by decide +kernel) (by decide) rfl (fun ls hl => ?_)
    refine lv_goto (tgt := 31) hx hb dX6_first_51 (by decide) ?_
    exact Ks31_3  g_F (upd g_R ((2 : Int32)).toNatClampNeg (u_R ((2 : Int32)).toNatClampNeg)) g_C g_L m_rl m_lf m_ov  H locs ls hP hD hS (lv_sub hl [1, 0] rfl) hR
  have Ks31_1 : ∀  (g_F : Nat → Int32) (g_R : Nat → Int32) (g_C : Nat → Int32) (g_L : Nat → Int32) (m_rl : Int32) (m_lf : Int32) (m_ov : Int32)  (H : Heap) (locs : List Loc) (ls : Array Slot), va_P (dC, dI) kcl (mo_W q6 qA qB qF qR qC qL qS qO qY qH qW qM cyI cyJ cyZ m_th m_o m_f m_r m_b m_a u_F u_R g_F g_R g_C g_L m_rl m_lf m_ov m_pl g_S g_O g_Y g_H m_st g_W m_rm m_fs g_M) H → va_D A (mo_W q6 qA qB qF qR qC qL qS qO qY qH qW qM cyI cyJ cyZ m_th m_o m_f m_r m_b m_a u_F u_R g_F g_R g_C g_L m_rl m_lf m_ov m_pl g_S g_O g_Y g_H m_st g_W m_rm m_fs g_M) → va_S A s.heap H locs → lv_has ls 2 [(0, .ref q6), (1, .int (1 : Int32))] → cf_X6_first_s31_1  m_a u_F u_R g_F g_R g_C g_L m_rl m_lf m_ov  = R → W p l e (headSpec wsX6_first ({ frames := 1, cells := 0, slots := 0, locals := 23 })).room s m ([.ref q6] : List Value).toArray below meth c H locs 0 0 (MQ below (mu_Q (some (.long R.2.2.2.2.2.2.2)) (dC, dI) kcl (mo_W q6 qA qB qF qR qC qL qS qO qY qH qW qM cyI cyJ cyZ m_th m_o m_f m_r m_b m_a u_F u_R R.1 R.2.1 R.2.2.1 R.2.2.2.1 R.2.2.2.2.1 R.2.2.2.2.2.1 R.2.2.2.2.2.2.1 m_pl g_S g_O g_Y g_H m_st g_W m_rm m_fs g_M) A) ([.ref q6] : List Value).toArray s 0 0 A) (F0 m 31 ls []) := by
    intro  g_F g_R g_C g_L m_rl m_lf m_ov  H locs ls hP hD hS hl hR
    unfold cf_X6_first_s31_1 at hR
    refine lv_iload_n hx hb dX6_first_31 rfl (lv_at hl 1 rfl) ?_
    refine lv_iconst (v := (3 : Int32)) hx hb dX6_first_32 (by decide +kernel) ?_
    refine lv_icmp_ge (tgt := 54) hx hb dX6_first_33 (by decide) (fun c_0 => absurd c_0 (by decide +kernel)) (fun _ => ?_)
    refine lv_aload_n hx hb dX6_first_36 rfl (lv_at hl 0 rfl) ?_
    refine va_get (D := (dC, dI)) (ci := 4) (v := .ref qR) (C := RX6) (T := TX6) (N := 25) hx hb hts h1_ hown hK hP 0 rfl rfl 9 (by decide) h3_ (fun _ h9 => h9) rfl dX6_first_37 ?_
    refine lv_iload_n hx hb dX6_first_40 rfl (lv_at hl 1 rfl) ?_
    refine lv_aload_n hx hb dX6_first_41 rfl (lv_at hl 0 rfl) ?_
    refine va_get (D := (dC, dI)) (ci := 4) (v := .ref qB) (C := RX6) (T := TX6) (N := 25) hx hb hts h1_ hown hK hP 0 rfl rfl 7 (by decide) h4_ (fun _ h9 => h9) rfl dX6_first_42 ?_
    refine lv_iload_n hx hb dX6_first_45 rfl (lv_at hl 1 rfl) ?_
    refine va_iald hx hb hK hP 2 0 rfl rfl (by unfold vp_in; decide +kernel) dX6_first_46 ?_
    refine va_iast hx hb hK hP hD hS 4 0 rfl rfl (by unfold vp_in; decide +kernel) dX6_first_47 (fun H locs hP hD hS => ?_)
    have hP : va_P (dC, dI) kcl (mo_W q6 qA qB qF qR qC qL qS qO qY qH qW qM cyI cyJ cyZ m_th m_o m_f m_r m_b m_a u_F u_R g_F (upd g_R ((1 : Int32)).toNatClampNeg (u_R ((1 : Int32)).toNatClampNeg)) g_C g_L m_rl m_lf m_ov m_pl g_S g_O g_Y g_H m_st g_W m_rm m_fs g_M) H := hP
    have hD : va_D A (mo_W q6 qA qB qF qR qC qL qS qO qY qH qW qM cyI cyJ cyZ m_th m_o m_f m_r m_b m_a u_F u_R g_F (upd g_R ((1 : Int32)).toNatClampNeg (u_R ((1 : Int32)).toNatClampNeg)) g_C g_L m_rl m_lf m_ov m_pl g_S g_O g_Y g_H m_st g_W m_rm m_fs g_M) := hD
    refine lv_iinc (v := (2 : Int32)) (lv' := [(1, .int (2 : Int32)), (0, .ref q6)]) hx hb dX6_first_48 hl (k := 1) rfl (by decide +kernel) (by decide) rfl (fun ls hl => ?_)
    refine lv_goto (tgt := 31) hx hb dX6_first_51 (by decide) ?_
    exact Ks31_2  g_F (upd g_R ((1 : Int32)).toNatClampNeg (u_R ((1 : Int32)).toNatClampNeg)) g_C g_L m_rl m_lf m_ov  H locs ls hP hD hS (lv_sub hl [1, 0] rfl) hR
  have Ks31_0 : ∀  (g_F : Nat → Int32) (g_R : Nat → Int32) (g_C : Nat → Int32) (g_L : Nat → Int32) (m_rl : Int32) (m_lf : Int32) (m_ov : Int32)  (H : Heap) (locs : List Loc) (ls : Array Slot), va_P (dC, dI) kcl (mo_W q6 qA qB qF qR qC qL qS qO qY qH qW qM cyI cyJ cyZ m_th m_o m_f m_r m_b m_a u_F u_R g_F g_R g_C g_L m_rl m_lf m_ov m_pl g_S g_O g_Y g_H m_st g_W m_rm m_fs g_M) H → va_D A (mo_W q6 qA qB qF qR qC qL qS qO qY qH qW qM cyI cyJ cyZ m_th m_o m_f m_r m_b m_a u_F u_R g_F g_R g_C g_L m_rl m_lf m_ov m_pl g_S g_O g_Y g_H m_st g_W m_rm m_fs g_M) → va_S A s.heap H locs → lv_has ls 2 [(0, .ref q6), (1, .int (0 : Int32))] → cf_X6_first_s31_0  m_a u_F u_R g_F g_R g_C g_L m_rl m_lf m_ov  = R → W p l e (headSpec wsX6_first ({ frames := 1, cells := 0, slots := 0, locals := 23 })).room s m ([.ref q6] : List Value).toArray below meth c H locs 0 0 (MQ below (mu_Q (some (.long R.2.2.2.2.2.2.2)) (dC, dI) kcl (mo_W q6 qA qB qF qR qC qL qS qO qY qH qW qM cyI cyJ cyZ m_th m_o m_f m_r m_b m_a u_F u_R R.1 R.2.1 R.2.2.1 R.2.2.2.1 R.2.2.2.2.1 R.2.2.2.2.2.1 R.2.2.2.2.2.2.1 m_pl g_S g_O g_Y g_H m_st g_W m_rm m_fs g_M) A) ([.ref q6] : List Value).toArray s 0 0 A) (F0 m 31 ls []) := by
    intro  g_F g_R g_C g_L m_rl m_lf m_ov  H locs ls hP hD hS hl hR
    unfold cf_X6_first_s31_0 at hR
    refine lv_iload_n hx hb dX6_first_31 rfl (lv_at hl 1 rfl) ?_
    refine lv_iconst (v := (3 : Int32)) hx hb dX6_first_32 (by decide +kernel) ?_
    refine lv_icmp_ge (tgt := 54) hx hb dX6_first_33 (by decide) (fun c_0 => absurd c_0 (by decide +kernel)) (fun _ => ?_)
    refine lv_aload_n hx hb dX6_first_36 rfl (lv_at hl 0 rfl) ?_
    refine va_get (D := (dC, dI)) (ci := 4) (v := .ref qR) (C := RX6) (T := TX6) (N := 25) hx hb hts h1_ hown hK hP 0 rfl rfl 9 (by decide) h3_ (fun _ h9 => h9) rfl dX6_first_37 ?_
    refine lv_iload_n hx hb dX6_first_40 rfl (lv_at hl 1 rfl) ?_
    refine lv_aload_n hx hb dX6_first_41 rfl (lv_at hl 0 rfl) ?_
    refine va_get (D := (dC, dI)) (ci := 4) (v := .ref qB) (C := RX6) (T := TX6) (N := 25) hx hb hts h1_ hown hK hP 0 rfl rfl 7 (by decide) h4_ (fun _ h9 => h9) rfl dX6_first_42 ?_
    refine lv_iload_n hx hb dX6_first_45 rfl (lv_at hl 1 rfl) ?_
    refine va_iald hx hb hK hP 2 0 rfl rfl (by unfold vp_in; decide +kernel) dX6_first_46 ?_
    refine va_iast hx hb hK hP hD hS 4 0 rfl rfl (by unfold vp_in; decide +kernel) dX6_first_47 (fun H locs hP hD hS => ?_)
    have hP : va_P (dC, dI) kcl (mo_W q6 qA qB qF qR qC qL qS qO qY qH qW qM cyI cyJ cyZ m_th m_o m_f m_r m_b m_a u_F u_R g_F (upd g_R ((0 : Int32)).toNatClampNeg (u_R ((0 : Int32)).toNatClampNeg)) g_C g_L m_rl m_lf m_ov m_pl g_S g_O g_Y g_H m_st g_W m_rm m_fs g_M) H := hP
    have hD : va_D A (mo_W q6 qA qB qF qR qC qL qS qO qY qH qW qM cyI cyJ cyZ m_th m_o m_f m_r m_b m_a u_F u_R g_F (upd g_R ((0 : Int32)).toNatClampNeg (u_R ((0 : Int32)).toNatClampNeg)) g_C g_L m_rl m_lf m_ov m_pl g_S g_O g_Y g_H m_st g_W m_rm m_fs g_M) := hD
    refine lv_iinc (v := (1 : Int32)) (lv' := [(1, .int (1 : Int32)), (0, .ref q6)]) hx hb dX6_first_48 hl (k := 1) rfl (by decide +kernel) (by decide) rfl (fun ls hl => ?_)
    refine lv_goto (tgt := 31) hx hb dX6_first_51 (by decide) ?_
    exact Ks31_1  g_F (upd g_R ((0 : Int32)).toNatClampNeg (u_R ((0 : Int32)).toNatClampNeg)) g_C g_L m_rl m_lf m_ov  H locs ls hP hD hS (lv_sub hl [1, 0] rfl) hR
  have Ks2_8 : ∀  (g_F : Nat → Int32) (g_R : Nat → Int32) (g_C : Nat → Int32) (g_L : Nat → Int32) (m_rl : Int32) (m_lf : Int32) (m_ov : Int32)  (H : Heap) (locs : List Loc) (ls : Array Slot), va_P (dC, dI) kcl (mo_W q6 qA qB qF qR qC qL qS qO qY qH qW qM cyI cyJ cyZ m_th m_o m_f m_r m_b m_a u_F u_R g_F g_R g_C g_L m_rl m_lf m_ov m_pl g_S g_O g_Y g_H m_st g_W m_rm m_fs g_M) H → va_D A (mo_W q6 qA qB qF qR qC qL qS qO qY qH qW qM cyI cyJ cyZ m_th m_o m_f m_r m_b m_a u_F u_R g_F g_R g_C g_L m_rl m_lf m_ov m_pl g_S g_O g_Y g_H m_st g_W m_rm m_fs g_M) → va_S A s.heap H locs → lv_has ls 2 [(0, .ref q6), (1, .int (8 : Int32))] → cf_X6_first_s2_8  m_a u_F u_R g_F g_R g_C g_L m_rl m_lf m_ov  = R → W p l e (headSpec wsX6_first ({ frames := 1, cells := 0, slots := 0, locals := 23 })).room s m ([.ref q6] : List Value).toArray below meth c H locs 0 0 (MQ below (mu_Q (some (.long R.2.2.2.2.2.2.2)) (dC, dI) kcl (mo_W q6 qA qB qF qR qC qL qS qO qY qH qW qM cyI cyJ cyZ m_th m_o m_f m_r m_b m_a u_F u_R R.1 R.2.1 R.2.2.1 R.2.2.2.1 R.2.2.2.2.1 R.2.2.2.2.2.1 R.2.2.2.2.2.2.1 m_pl g_S g_O g_Y g_H m_st g_W m_rm m_fs g_M) A) ([.ref q6] : List Value).toArray s 0 0 A) (F0 m 2 ls []) := by
    intro  g_F g_R g_C g_L m_rl m_lf m_ov  H locs ls hP hD hS hl hR
    unfold cf_X6_first_s2_8 at hR
    refine lv_iload_n hx hb dX6_first_2 rfl (lv_at hl 1 rfl) ?_
    refine lv_aload_n hx hb dX6_first_3 rfl (lv_at hl 0 rfl) ?_
    refine va_get (D := (dC, dI)) (ci := 4) (v := .ref qF) (C := RX6) (T := TX6) (N := 25) hx hb hts h1_ hown hK hP 0 rfl rfl 8 (by decide) h0_ (fun _ h9 => h9) rfl dX6_first_4 ?_
    refine va_alen hx hb hK hP 3 0 rfl rfl (v := (8 : Int32)) rfl dX6_first_7 ?_
    refine lv_icmp_ge (tgt := 29) hx hb dX6_first_8 (by decide) (fun _ => ?_) (fun c_0 => absurd c_0 (by decide +kernel))
    refine lv_iconst (v := (0 : Int32)) hx hb dX6_first_29 (by decide +kernel) ?_
    refine lv_istore_n (lv' := [(1, .int (0 : Int32)), (0, .ref q6)]) hx hb dX6_first_30 rfl hl (by decide) rfl (fun ls hl => ?_)
    exact Ks31_0  g_F g_R g_C g_L m_rl m_lf m_ov  H locs ls hP hD hS (lv_sub hl [1, 0] rfl) hR
  have Ks2_7 : ∀  (g_F : Nat → Int32) (g_R : Nat → Int32) (g_C : Nat → Int32) (g_L : Nat → Int32) (m_rl : Int32) (m_lf : Int32) (m_ov : Int32)  (H : Heap) (locs : List Loc) (ls : Array Slot), va_P (dC, dI) kcl (mo_W q6 qA qB qF qR qC qL qS qO qY qH qW qM cyI cyJ cyZ m_th m_o m_f m_r m_b m_a u_F u_R g_F g_R g_C g_L m_rl m_lf m_ov m_pl g_S g_O g_Y g_H m_st g_W m_rm m_fs g_M) H → va_D A (mo_W q6 qA qB qF qR qC qL qS qO qY qH qW qM cyI cyJ cyZ m_th m_o m_f m_r m_b m_a u_F u_R g_F g_R g_C g_L m_rl m_lf m_ov m_pl g_S g_O g_Y g_H m_st g_W m_rm m_fs g_M) → va_S A s.heap H locs → lv_has ls 2 [(0, .ref q6), (1, .int (7 : Int32))] → cf_X6_first_s2_7  m_a u_F u_R g_F g_R g_C g_L m_rl m_lf m_ov  = R → W p l e (headSpec wsX6_first ({ frames := 1, cells := 0, slots := 0, locals := 23 })).room s m ([.ref q6] : List Value).toArray below meth c H locs 0 0 (MQ below (mu_Q (some (.long R.2.2.2.2.2.2.2)) (dC, dI) kcl (mo_W q6 qA qB qF qR qC qL qS qO qY qH qW qM cyI cyJ cyZ m_th m_o m_f m_r m_b m_a u_F u_R R.1 R.2.1 R.2.2.1 R.2.2.2.1 R.2.2.2.2.1 R.2.2.2.2.2.1 R.2.2.2.2.2.2.1 m_pl g_S g_O g_Y g_H m_st g_W m_rm m_fs g_M) A) ([.ref q6] : List Value).toArray s 0 0 A) (F0 m 2 ls []) := by
    intro  g_F g_R g_C g_L m_rl m_lf m_ov  H locs ls hP hD hS hl hR
    unfold cf_X6_first_s2_7 at hR
    refine lv_iload_n hx hb dX6_first_2 rfl (lv_at hl 1 rfl) ?_
    refine lv_aload_n hx hb dX6_first_3 rfl (lv_at hl 0 rfl) ?_
    refine va_get (D := (dC, dI)) (ci := 4) (v := .ref qF) (C := RX6) (T := TX6) (N := 25) hx hb hts h1_ hown hK hP 0 rfl rfl 8 (by decide) h0_ (fun _ h9 => h9) rfl dX6_first_4 ?_
    refine va_alen hx hb hK hP 3 0 rfl rfl (v := (8 : Int32)) rfl dX6_first_7 ?_
    refine lv_icmp_ge (tgt := 29) hx hb dX6_first_8 (by decide) (fun c_0 => absurd c_0 (by decide +kernel)) (fun _ => ?_)
    refine lv_aload_n hx hb dX6_first_11 rfl (lv_at hl 0 rfl) ?_
    refine va_get (D := (dC, dI)) (ci := 4) (v := .ref qF) (C := RX6) (T := TX6) (N := 25) hx hb hts h1_ hown hK hP 0 rfl rfl 8 (by decide) h0_ (fun _ h9 => h9) rfl dX6_first_12 ?_
    refine lv_iload_n hx hb dX6_first_15 rfl (lv_at hl 1 rfl) ?_
    refine lv_aload_n hx hb dX6_first_16 rfl (lv_at hl 0 rfl) ?_
    refine va_get (D := (dC, dI)) (ci := 4) (v := .ref qA) (C := RX6) (T := TX6) (N := 25) hx hb hts h1_ hown hK hP 0 rfl rfl 6 (by decide) h2_ (fun _ h9 => h9) rfl dX6_first_17 ?_
    refine lv_iload_n hx hb dX6_first_20 rfl (lv_at hl 1 rfl) ?_
    refine va_iald hx hb hK hP 1 0 rfl rfl (by unfold vp_in; decide +kernel) dX6_first_21 ?_
    refine va_iast hx hb hK hP hD hS 3 0 rfl rfl (by unfold vp_in; decide +kernel) dX6_first_22 (fun H locs hP hD hS => ?_)
    have hP : va_P (dC, dI) kcl (mo_W q6 qA qB qF qR qC qL qS qO qY qH qW qM cyI cyJ cyZ m_th m_o m_f m_r m_b m_a u_F u_R (upd g_F ((7 : Int32)).toNatClampNeg (u_F ((7 : Int32)).toNatClampNeg)) g_R g_C g_L m_rl m_lf m_ov m_pl g_S g_O g_Y g_H m_st g_W m_rm m_fs g_M) H := hP
    have hD : va_D A (mo_W q6 qA qB qF qR qC qL qS qO qY qH qW qM cyI cyJ cyZ m_th m_o m_f m_r m_b m_a u_F u_R (upd g_F ((7 : Int32)).toNatClampNeg (u_F ((7 : Int32)).toNatClampNeg)) g_R g_C g_L m_rl m_lf m_ov m_pl g_S g_O g_Y g_H m_st g_W m_rm m_fs g_M) := hD
    refine lv_iinc (v := (8 : Int32)) (lv' := [(1, .int (8 : Int32)), (0, .ref q6)]) hx hb dX6_first_23 hl (k := 1) rfl (by decide +kernel) (by decide) rfl (fun ls hl => ?_)
    refine lv_goto (tgt := 2) hx hb dX6_first_26 (by decide) ?_
    exact Ks2_8  (upd g_F ((7 : Int32)).toNatClampNeg (u_F ((7 : Int32)).toNatClampNeg)) g_R g_C g_L m_rl m_lf m_ov  H locs ls hP hD hS (lv_sub hl [1, 0] rfl) hR
  have Ks2_6 : ∀  (g_F : Nat → Int32) (g_R : Nat → Int32) (g_C : Nat → Int32) (g_L : Nat → Int32) (m_rl : Int32) (m_lf : Int32) (m_ov : Int32)  (H : Heap) (locs : List Loc) (ls : Array Slot), va_P (dC, dI) kcl (mo_W q6 qA qB qF qR qC qL qS qO qY qH qW qM cyI cyJ cyZ m_th m_o m_f m_r m_b m_a u_F u_R g_F g_R g_C g_L m_rl m_lf m_ov m_pl g_S g_O g_Y g_H m_st g_W m_rm m_fs g_M) H → va_D A (mo_W q6 qA qB qF qR qC qL qS qO qY qH qW qM cyI cyJ cyZ m_th m_o m_f m_r m_b m_a u_F u_R g_F g_R g_C g_L m_rl m_lf m_ov m_pl g_S g_O g_Y g_H m_st g_W m_rm m_fs g_M) → va_S A s.heap H locs → lv_has ls 2 [(0, .ref q6), (1, .int (6 : Int32))] → cf_X6_first_s2_6  m_a u_F u_R g_F g_R g_C g_L m_rl m_lf m_ov  = R → W p l e (headSpec wsX6_first ({ frames := 1, cells := 0, slots := 0, locals := 23 })).room s m ([.ref q6] : List Value).toArray below meth c H locs 0 0 (MQ below (mu_Q (some (.long R.2.2.2.2.2.2.2)) (dC, dI) kcl (mo_W q6 qA qB qF qR qC qL qS qO qY qH qW qM cyI cyJ cyZ m_th m_o m_f m_r m_b m_a u_F u_R R.1 R.2.1 R.2.2.1 R.2.2.2.1 R.2.2.2.2.1 R.2.2.2.2.2.1 R.2.2.2.2.2.2.1 m_pl g_S g_O g_Y g_H m_st g_W m_rm m_fs g_M) A) ([.ref q6] : List Value).toArray s 0 0 A) (F0 m 2 ls []) := by
    intro  g_F g_R g_C g_L m_rl m_lf m_ov  H locs ls hP hD hS hl hR
    unfold cf_X6_first_s2_6 at hR
    refine lv_iload_n hx hb dX6_first_2 rfl (lv_at hl 1 rfl) ?_
    refine lv_aload_n hx hb dX6_first_3 rfl (lv_at hl 0 rfl) ?_
    refine va_get (D := (dC, dI)) (ci := 4) (v := .ref qF) (C := RX6) (T := TX6) (N := 25) hx hb hts h1_ hown hK hP 0 rfl rfl 8 (by decide) h0_ (fun _ h9 => h9) rfl dX6_first_4 ?_
    refine va_alen hx hb hK hP 3 0 rfl rfl (v := (8 : Int32)) rfl dX6_first_7 ?_
    refine lv_icmp_ge (tgt := 29) hx hb dX6_first_8 (by decide) (fun c_0 => absurd c_0 (by decide +kernel)) (fun _ => ?_)
    refine lv_aload_n hx hb dX6_first_11 rfl (lv_at hl 0 rfl) ?_
    refine va_get (D := (dC, dI)) (ci := 4) (v := .ref qF) (C := RX6) (T := TX6) (N := 25) hx hb hts h1_ hown hK hP 0 rfl rfl 8 (by decide) h0_ (fun _ h9 => h9) rfl dX6_first_12 ?_
    refine lv_iload_n hx hb dX6_first_15 rfl (lv_at hl 1 rfl) ?_
    refine lv_aload_n hx hb dX6_first_16 rfl (lv_at hl 0 rfl) ?_
    refine va_get (D := (dC, dI)) (ci := 4) (v := .ref qA) (C := RX6) (T := TX6) (N := 25) hx hb hts h1_ hown hK hP 0 rfl rfl 6 (by decide) h2_ (fun _ h9 => h9) rfl dX6_first_17 ?_
    refine lv_iload_n hx hb dX6_first_20 rfl (lv_at hl 1 rfl) ?_
    refine va_iald hx hb hK hP 1 0 rfl rfl (by unfold vp_in; decide +kernel) dX6_first_21 ?_
    refine va_iast hx hb hK hP hD hS 3 0 rfl rfl (by unfold vp_in; decide +kernel) dX6_first_22 (fun H locs hP hD hS => ?_)
    have hP : va_P (dC, dI) kcl (mo_W q6 qA qB qF qR qC qL qS qO qY qH qW qM cyI cyJ cyZ m_th m_o m_f m_r m_b m_a u_F u_R (upd g_F ((6 : Int32)).toNatClampNeg (u_F ((6 : Int32)).toNatClampNeg)) g_R g_C g_L m_rl m_lf m_ov m_pl g_S g_O g_Y g_H m_st g_W m_rm m_fs g_M) H := hP
    have hD : va_D A (mo_W q6 qA qB qF qR qC qL qS qO qY qH qW qM cyI cyJ cyZ m_th m_o m_f m_r m_b m_a u_F u_R (upd g_F ((6 : Int32)).toNatClampNeg (u_F ((6 : Int32)).toNatClampNeg)) g_R g_C g_L m_rl m_lf m_ov m_pl g_S g_O g_Y g_H m_st g_W m_rm m_fs g_M) := hD
    refine lv_iinc (v := (7 : Int32)) (lv' := [(1, .int (7 : Int32)), (0, .ref q6)]) hx hb dX6_first_23 hl (k := 1) rfl (by decide +kernel) (by decide) rfl (fun ls hl => ?_)
    refine lv_goto (tgt := 2) hx hb dX6_first_26 (by decide) ?_
    exact Ks2_7  (upd g_F ((6 : Int32)).toNatClampNeg (u_F ((6 : Int32)).toNatClampNeg)) g_R g_C g_L m_rl m_lf m_ov  H locs ls hP hD hS (lv_sub hl [1, 0] rfl) hR
  have Ks2_5 : ∀  (g_F : Nat → Int32) (g_R : Nat → Int32) (g_C : Nat → Int32) (g_L : Nat → Int32) (m_rl : Int32) (m_lf : Int32) (m_ov : Int32)  (H : Heap) (locs : List Loc) (ls : Array Slot), va_P (dC, dI) kcl (mo_W q6 qA qB qF qR qC qL qS qO qY qH qW qM cyI cyJ cyZ m_th m_o m_f m_r m_b m_a u_F u_R g_F g_R g_C g_L m_rl m_lf m_ov m_pl g_S g_O g_Y g_H m_st g_W m_rm m_fs g_M) H → va_D A (mo_W q6 qA qB qF qR qC qL qS qO qY qH qW qM cyI cyJ cyZ m_th m_o m_f m_r m_b m_a u_F u_R g_F g_R g_C g_L m_rl m_lf m_ov m_pl g_S g_O g_Y g_H m_st g_W m_rm m_fs g_M) → va_S A s.heap H locs → lv_has ls 2 [(0, .ref q6), (1, .int (5 : Int32))] → cf_X6_first_s2_5  m_a u_F u_R g_F g_R g_C g_L m_rl m_lf m_ov  = R → W p l e (headSpec wsX6_first ({ frames := 1, cells := 0, slots := 0, locals := 23 })).room s m ([.ref q6] : List Value).toArray below meth c H locs 0 0 (MQ below (mu_Q (some (.long R.2.2.2.2.2.2.2)) (dC, dI) kcl (mo_W q6 qA qB qF qR qC qL qS qO qY qH qW qM cyI cyJ cyZ m_th m_o m_f m_r m_b m_a u_F u_R R.1 R.2.1 R.2.2.1 R.2.2.2.1 R.2.2.2.2.1 R.2.2.2.2.2.1 R.2.2.2.2.2.2.1 m_pl g_S g_O g_Y g_H m_st g_W m_rm m_fs g_M) A) ([.ref q6] : List Value).toArray s 0 0 A) (F0 m 2 ls []) := by
    intro  g_F g_R g_C g_L m_rl m_lf m_ov  H locs ls hP hD hS hl hR
    unfold cf_X6_first_s2_5 at hR
    refine lv_iload_n hx hb dX6_first_2 rfl (lv_at hl 1 rfl) ?_
    refine lv_aload_n hx hb dX6_first_3 rfl (lv_at hl 0 rfl) ?_
    refine va_get (D := (dC, dI)) (ci := 4) (v := .ref qF) (C := RX6) (T := TX6) (N := 25) hx hb hts h1_ hown hK hP 0 rfl rfl 8 (by decide) h0_ (fun _ h9 => h9) rfl dX6_first_4 ?_
    refine va_alen hx hb hK hP 3 0 rfl rfl (v := (8 : Int32)) rfl dX6_first_7 ?_
    refine lv_icmp_ge (tgt := 29) hx hb dX6_first_8 (by decide) (fun c_0 => absurd c_0 (by decide +kernel)) (fun _ => ?_)
    refine lv_aload_n hx hb dX6_first_11 rfl (lv_at hl 0 rfl) ?_
    refine va_get (D := (dC, dI)) (ci := 4) (v := .ref qF) (C := RX6) (T := TX6) (N := 25) hx hb hts h1_ hown hK hP 0 rfl rfl 8 (by decide) h0_ (fun _ h9 => h9) rfl dX6_first_12 ?_
    refine lv_iload_n hx hb dX6_first_15 rfl (lv_at hl 1 rfl) ?_
    refine lv_aload_n hx hb dX6_first_16 rfl (lv_at hl 0 rfl) ?_
    refine va_get (D := (dC, dI)) (ci := 4) (v := .ref qA) (C := RX6) (T := TX6) (N := 25) hx hb hts h1_ hown hK hP 0 rfl rfl 6 (by decide) h2_ (fun _ h9 => h9) rfl dX6_first_17 ?_
    refine lv_iload_n hx hb dX6_first_20 rfl (lv_at hl 1 rfl) ?_
    refine va_iald hx hb hK hP 1 0 rfl rfl (by unfold vp_in; decide +kernel) dX6_first_21 ?_
    refine va_iast hx hb hK hP hD hS 3 0 rfl rfl (by unfold vp_in; decide +kernel) dX6_first_22 (fun H locs hP hD hS => ?_)
    have hP : va_P (dC, dI) kcl (mo_W q6 qA qB qF qR qC qL qS qO qY qH qW qM cyI cyJ cyZ m_th m_o m_f m_r m_b m_a u_F u_R (upd g_F ((5 : Int32)).toNatClampNeg (u_F ((5 : Int32)).toNatClampNeg)) g_R g_C g_L m_rl m_lf m_ov m_pl g_S g_O g_Y g_H m_st g_W m_rm m_fs g_M) H := hP
    have hD : va_D A (mo_W q6 qA qB qF qR qC qL qS qO qY qH qW qM cyI cyJ cyZ m_th m_o m_f m_r m_b m_a u_F u_R (upd g_F ((5 : Int32)).toNatClampNeg (u_F ((5 : Int32)).toNatClampNeg)) g_R g_C g_L m_rl m_lf m_ov m_pl g_S g_O g_Y g_H m_st g_W m_rm m_fs g_M) := hD
    refine lv_iinc (v := (6 : Int32)) (lv' := [(1, .int (6 : Int32)), (0, .ref q6)]) hx hb dX6_first_23 hl (k := 1) rfl (by decide +kernel) (by decide) rfl (fun ls hl => ?_)
    refine lv_goto (tgt := 2) hx hb dX6_first_26 (by decide) ?_
    exact Ks2_6  (upd g_F ((5 : Int32)).toNatClampNeg (u_F ((5 : Int32)).toNatClampNeg)) g_R g_C g_L m_rl m_lf m_ov  H locs ls hP hD hS (lv_sub hl [1, 0] rfl) hR
  have Ks2_4 : ∀  (g_F : Nat → Int32) (g_R : Nat → Int32) (g_C : Nat → Int32) (g_L : Nat → Int32) (m_rl : Int32) (m_lf : Int32) (m_ov : Int32)  (H : Heap) (locs : List Loc) (ls : Array Slot), va_P (dC, dI) kcl (mo_W q6 qA qB qF qR qC qL qS qO qY qH qW qM cyI cyJ cyZ m_th m_o m_f m_r m_b m_a u_F u_R g_F g_R g_C g_L m_rl m_lf m_ov m_pl g_S g_O g_Y g_H m_st g_W m_rm m_fs g_M) H → va_D A (mo_W q6 qA qB qF qR qC qL qS qO qY qH qW qM cyI cyJ cyZ m_th m_o m_f m_r m_b m_a u_F u_R g_F g_R g_C g_L m_rl m_lf m_ov m_pl g_S g_O g_Y g_H m_st g_W m_rm m_fs g_M) → va_S A s.heap H locs → lv_has ls 2 [(0, .ref q6), (1, .int (4 : Int32))] → cf_X6_first_s2_4  m_a u_F u_R g_F g_R g_C g_L m_rl m_lf m_ov  = R → W p l e (headSpec wsX6_first ({ frames := 1, cells := 0, slots := 0, locals := 23 })).room s m ([.ref q6] : List Value).toArray below meth c H locs 0 0 (MQ below (mu_Q (some (.long R.2.2.2.2.2.2.2)) (dC, dI) kcl (mo_W q6 qA qB qF qR qC qL qS qO qY qH qW qM cyI cyJ cyZ m_th m_o m_f m_r m_b m_a u_F u_R R.1 R.2.1 R.2.2.1 R.2.2.2.1 R.2.2.2.2.1 R.2.2.2.2.2.1 R.2.2.2.2.2.2.1 m_pl g_S g_O g_Y g_H m_st g_W m_rm m_fs g_M) A) ([.ref q6] : List Value).toArray s 0 0 A) (F0 m 2 ls []) := by
    intro  g_F g_R g_C g_L m_rl m_lf m_ov  H locs ls hP hD hS hl hR
    unfold cf_X6_first_s2_4 at hR
    refine lv_iload_n hx hb dX6_first_2 rfl (lv_at hl 1 rfl) ?_
    refine lv_aload_n hx hb dX6_first_3 rfl (lv_at hl 0 rfl) ?_
    refine va_get (D := (dC, dI)) (ci := 4) (v := .ref qF) (C := RX6) (T := TX6) (N := 25) hx hb hts h1_ hown hK hP 0 rfl rfl 8 (by decide) h0_ (fun _ h9 => h9) rfl dX6_first_4 ?_
    refine va_alen hx hb hK hP 3 0 rfl rfl (v := (8 : Int32)) rfl dX6_first_7 ?_
    refine lv_icmp_ge (tgt := 29) hx hb dX6_first_8 (by decide) (fun c_0 => absurd c_0 (by decide +kernel)) (fun _ => ?_)
    refine lv_aload_n hx hb dX6_first_11 rfl (lv_at hl 0 rfl) ?_
    refine va_get (D := (dC, dI)) (ci := 4) (v := .ref qF) (C := RX6) (T := TX6) (N := 25) hx hb hts h1_ hown hK hP 0 rfl rfl 8 (by decide) h0_ (fun _ h9 => h9) rfl dX6_first_12 ?_
    refine lv_iload_n hx hb dX6_first_15 rfl (lv_at hl 1 rfl) ?_
    refine lv_aload_n hx hb dX6_first_16 rfl (lv_at hl 0 rfl) ?_
    refine va_get (D := (dC, dI)) (ci := 4) (v := .ref qA) (C := RX6) (T := TX6) (N := 25) hx hb hts h1_ hown hK hP 0 rfl rfl 6 (by decide) h2_ (fun _ h9 => h9) rfl dX6_first_17 ?_
    refine lv_iload_n hx hb dX6_first_20 rfl (lv_at hl 1 rfl) ?_
    refine va_iald hx hb hK hP 1 0 rfl rfl (by unfold vp_in; decide +kernel) dX6_first_21 ?_
    refine va_iast hx hb hK hP hD hS 3 0 rfl rfl (by unfold vp_in; decide +kernel) dX6_first_22 (fun H locs hP hD hS => ?_)
    have hP : va_P (dC, dI) kcl (mo_W q6 qA qB qF qR qC qL qS qO qY qH qW qM cyI cyJ cyZ m_th m_o m_f m_r m_b m_a u_F u_R (upd g_F ((4 : Int32)).toNatClampNeg (u_F ((4 : Int32)).toNatClampNeg)) g_R g_C g_L m_rl m_lf m_ov m_pl g_S g_O g_Y g_H m_st g_W m_rm m_fs g_M) H := hP
    have hD : va_D A (mo_W q6 qA qB qF qR qC qL qS qO qY qH qW qM cyI cyJ cyZ m_th m_o m_f m_r m_b m_a u_F u_R (upd g_F ((4 : Int32)).toNatClampNeg (u_F ((4 : Int32)).toNatClampNeg)) g_R g_C g_L m_rl m_lf m_ov m_pl g_S g_O g_Y g_H m_st g_W m_rm m_fs g_M) := hD
    refine lv_iinc (v := (5 : Int32)) (lv' := [(1, .int (5 : Int32)), (0, .ref q6)]) hx hb dX6_first_23 hl (k := 1) rfl (by decide +kernel) (by decide) rfl (fun ls hl => ?_)
    refine lv_goto (tgt := 2) hx hb dX6_first_26 (by decide) ?_
    exact Ks2_5  (upd g_F ((4 : Int32)).toNatClampNeg (u_F ((4 : Int32)).toNatClampNeg)) g_R g_C g_L m_rl m_lf m_ov  H locs ls hP hD hS (lv_sub hl [1, 0] rfl) hR
  have Ks2_3 : ∀  (g_F : Nat → Int32) (g_R : Nat → Int32) (g_C : Nat → Int32) (g_L : Nat → Int32) (m_rl : Int32) (m_lf : Int32) (m_ov : Int32)  (H : Heap) (locs : List Loc) (ls : Array Slot), va_P (dC, dI) kcl (mo_W q6 qA qB qF qR qC qL qS qO qY qH qW qM cyI cyJ cyZ m_th m_o m_f m_r m_b m_a u_F u_R g_F g_R g_C g_L m_rl m_lf m_ov m_pl g_S g_O g_Y g_H m_st g_W m_rm m_fs g_M) H → va_D A (mo_W q6 qA qB qF qR qC qL qS qO qY qH qW qM cyI cyJ cyZ m_th m_o m_f m_r m_b m_a u_F u_R g_F g_R g_C g_L m_rl m_lf m_ov m_pl g_S g_O g_Y g_H m_st g_W m_rm m_fs g_M) → va_S A s.heap H locs → lv_has ls 2 [(0, .ref q6), (1, .int (3 : Int32))] → cf_X6_first_s2_3  m_a u_F u_R g_F g_R g_C g_L m_rl m_lf m_ov  = R → W p l e (headSpec wsX6_first ({ frames := 1, cells := 0, slots := 0, locals := 23 })).room s m ([.ref q6] : List Value).toArray below meth c H locs 0 0 (MQ below (mu_Q (some (.long R.2.2.2.2.2.2.2)) (dC, dI) kcl (mo_W q6 qA qB qF qR qC qL qS qO qY qH qW qM cyI cyJ cyZ m_th m_o m_f m_r m_b m_a u_F u_R R.1 R.2.1 R.2.2.1 R.2.2.2.1 R.2.2.2.2.1 R.2.2.2.2.2.1 R.2.2.2.2.2.2.1 m_pl g_S g_O g_Y g_H m_st g_W m_rm m_fs g_M) A) ([.ref q6] : List Value).toArray s 0 0 A) (F0 m 2 ls []) := by
    intro  g_F g_R g_C g_L m_rl m_lf m_ov  H locs ls hP hD hS hl hR
    unfold cf_X6_first_s2_3 at hR
    refine lv_iload_n hx hb dX6_first_2 rfl (lv_at hl 1 rfl) ?_
    refine lv_aload_n hx hb dX6_first_3 rfl (lv_at hl 0 rfl) ?_
    refine va_get (D := (dC, dI)) (ci := 4) (v := .ref qF) (C := RX6) (T := TX6) (N := 25) hx hb hts h1_ hown hK hP 0 rfl rfl 8 (by decide) h0_ (fun _ h9 => h9) rfl dX6_first_4 ?_
    refine va_alen hx hb hK hP 3 0 rfl rfl (v := (8 : Int32)) rfl dX6_first_7 ?_
    refine lv_icmp_ge (tgt := 29) hx hb dX6_first_8 (by decide) (fun c_0 => absurd c_0 (by decide +kernel)) (fun _ => ?_)
    refine lv_aload_n hx hb dX6_first_11 rfl (lv_at hl 0 rfl) ?_
    refine va_get (D := (dC, dI)) (ci := 4) (v := .ref qF) (C := RX6) (T := TX6) (N := 25) hx hb hts h1_ hown hK hP 0 rfl rfl 8 (by decide) h0_ (fun _ h9 => h9) rfl dX6_first_12 ?_
    refine lv_iload_n hx hb dX6_first_15 rfl (lv_at hl 1 rfl) ?_
    refine lv_aload_n hx hb dX6_first_16 rfl (lv_at hl 0 rfl) ?_
    refine va_get (D := (dC, dI)) (ci := 4) (v := .ref qA) (C := RX6) (T := TX6) (N := 25) hx hb hts h1_ hown hK hP 0 rfl rfl 6 (by decide) h2_ (fun _ h9 => h9) rfl dX6_first_17 ?_
    refine lv_iload_n hx hb dX6_first_20 rfl (lv_at hl 1 rfl) ?_
    refine va_iald hx hb hK hP 1 0 rfl rfl (by unfold vp_in; decide +kernel) dX6_first_21 ?_
    refine va_iast hx hb hK hP hD hS 3 0 rfl rfl (by unfold vp_in; decide +kernel) dX6_first_22 (fun H locs hP hD hS => ?_)
    have hP : va_P (dC, dI) kcl (mo_W q6 qA qB qF qR qC qL qS qO qY qH qW qM cyI cyJ cyZ m_th m_o m_f m_r m_b m_a u_F u_R (upd g_F ((3 : Int32)).toNatClampNeg (u_F ((3 : Int32)).toNatClampNeg)) g_R g_C g_L m_rl m_lf m_ov m_pl g_S g_O g_Y g_H m_st g_W m_rm m_fs g_M) H := hP
    have hD : va_D A (mo_W q6 qA qB qF qR qC qL qS qO qY qH qW qM cyI cyJ cyZ m_th m_o m_f m_r m_b m_a u_F u_R (upd g_F ((3 : Int32)).toNatClampNeg (u_F ((3 : Int32)).toNatClampNeg)) g_R g_C g_L m_rl m_lf m_ov m_pl g_S g_O g_Y g_H m_st g_W m_rm m_fs g_M) := hD
    refine lv_iinc (v := (4 : Int32)) (lv' := [(1, .int (4 : Int32)), (0, .ref q6)]) hx hb dX6_first_23 hl (k := 1) rfl (by decide +kernel) (by decide) rfl (fun ls hl => ?_)
    refine lv_goto (tgt := 2) hx hb dX6_first_26 (by decide) ?_
    exact Ks2_4  (upd g_F ((3 : Int32)).toNatClampNeg (u_F ((3 : Int32)).toNatClampNeg)) g_R g_C g_L m_rl m_lf m_ov  H locs ls hP hD hS (lv_sub hl [1, 0] rfl) hR
  have Ks2_2 : ∀  (g_F : Nat → Int32) (g_R : Nat → Int32) (g_C : Nat → Int32) (g_L : Nat → Int32) (m_rl : Int32) (m_lf : Int32) (m_ov : Int32)  (H : Heap) (locs : List Loc) (ls : Array Slot), va_P (dC, dI) kcl (mo_W q6 qA qB qF qR qC qL qS qO qY qH qW qM cyI cyJ cyZ m_th m_o m_f m_r m_b m_a u_F u_R g_F g_R g_C g_L m_rl m_lf m_ov m_pl g_S g_O g_Y g_H m_st g_W m_rm m_fs g_M) H → va_D A (mo_W q6 qA qB qF qR qC qL qS qO qY qH qW qM cyI cyJ cyZ m_th m_o m_f m_r m_b m_a u_F u_R g_F g_R g_C g_L m_rl m_lf m_ov m_pl g_S g_O g_Y g_H m_st g_W m_rm m_fs g_M) → va_S A s.heap H locs → lv_has ls 2 [(0, .ref q6), (1, .int (2 : Int32))] → cf_X6_first_s2_2  m_a u_F u_R g_F g_R g_C g_L m_rl m_lf m_ov  = R → W p l e (headSpec wsX6_first ({ frames := 1, cells := 0, slots := 0, locals := 23 })).room s m ([.ref q6] : List Value).toArray below meth c H locs 0 0 (MQ below (mu_Q (some (.long R.2.2.2.2.2.2.2)) (dC, dI) kcl (mo_W q6 qA qB qF qR qC qL qS qO qY qH qW qM cyI cyJ cyZ m_th m_o m_f m_r m_b m_a u_F u_R R.1 R.2.1 R.2.2.1 R.2.2.2.1 R.2.2.2.2.1 R.2.2.2.2.2.1 R.2.2.2.2.2.2.1 m_pl g_S g_O g_Y g_H m_st g_W m_rm m_fs g_M) A) ([.ref q6] : List Value).toArray s 0 0 A) (F0 m 2 ls []) := by
    intro  g_F g_R g_C g_L m_rl m_lf m_ov  H locs ls hP hD hS hl hR
    unfold cf_X6_first_s2_2 at hR
    refine lv_iload_n hx hb dX6_first_2 rfl (lv_at hl 1 rfl) ?_
    refine lv_aload_n hx hb dX6_first_3 rfl (lv_at hl 0 rfl) ?_
    refine va_get (D := (dC, dI)) (ci := 4) (v := .ref qF) (C := RX6) (T := TX6) (N := 25) hx hb hts h1_ hown hK hP 0 rfl rfl 8 (by decide) h0_ (fun _ h9 => h9) rfl dX6_first_4 ?_
    refine va_alen hx hb hK hP 3 0 rfl rfl (v := (8 : Int32)) rfl dX6_first_7 ?_
    refine lv_icmp_ge (tgt := 29) hx hb dX6_first_8 (by decide) (fun c_0 => absurd c_0 (by decide +kernel)) (fun _ => ?_)
    refine lv_aload_n hx hb dX6_first_11 rfl (lv_at hl 0 rfl) ?_
    refine va_get (D := (dC, dI)) (ci := 4) (v := .ref qF) (C := RX6) (T := TX6) (N := 25) hx hb hts h1_ hown hK hP 0 rfl rfl 8 (by decide) h0_ (fun _ h9 => h9) rfl dX6_first_12 ?_
    refine lv_iload_n hx hb dX6_first_15 rfl (lv_at hl 1 rfl) ?_
    refine lv_aload_n hx hb dX6_first_16 rfl (lv_at hl 0 rfl) ?_
    refine va_get (D := (dC, dI)) (ci := 4) (v := .ref qA) (C := RX6) (T := TX6) (N := 25) hx hb hts h1_ hown hK hP 0 rfl rfl 6 (by decide) h2_ (fun _ h9 => h9) rfl dX6_first_17 ?_
    refine lv_iload_n hx hb dX6_first_20 rfl (lv_at hl 1 rfl) ?_
    refine va_iald hx hb hK hP 1 0 rfl rfl (by unfold vp_in; decide +kernel) dX6_first_21 ?_
    refine va_iast hx hb hK hP hD hS 3 0 rfl rfl (by unfold vp_in; decide +kernel) dX6_first_22 (fun H locs hP hD hS => ?_)
    have hP : va_P (dC, dI) kcl (mo_W q6 qA qB qF qR qC qL qS qO qY qH qW qM cyI cyJ cyZ m_th m_o m_f m_r m_b m_a u_F u_R (upd g_F ((2 : Int32)).toNatClampNeg (u_F ((2 : Int32)).toNatClampNeg)) g_R g_C g_L m_rl m_lf m_ov m_pl g_S g_O g_Y g_H m_st g_W m_rm m_fs g_M) H := hP
    have hD : va_D A (mo_W q6 qA qB qF qR qC qL qS qO qY qH qW qM cyI cyJ cyZ m_th m_o m_f m_r m_b m_a u_F u_R (upd g_F ((2 : Int32)).toNatClampNeg (u_F ((2 : Int32)).toNatClampNeg)) g_R g_C g_L m_rl m_lf m_ov m_pl g_S g_O g_Y g_H m_st g_W m_rm m_fs g_M) := hD
    refine lv_iinc (v := (3 : Int32)) (lv' := [(1, .int (3 : Int32)), (0, .ref q6)]) hx hb dX6_first_23 hl (k := 1) rfl (by decide +kernel) (by decide) rfl (fun ls hl => ?_)
    refine lv_goto (tgt := 2) hx hb dX6_first_26 (by decide) ?_
    exact Ks2_3  (upd g_F ((2 : Int32)).toNatClampNeg (u_F ((2 : Int32)).toNatClampNeg)) g_R g_C g_L m_rl m_lf m_ov  H locs ls hP hD hS (lv_sub hl [1, 0] rfl) hR
  have Ks2_1 : ∀  (g_F : Nat → Int32) (g_R : Nat → Int32) (g_C : Nat → Int32) (g_L : Nat → Int32) (m_rl : Int32) (m_lf : Int32) (m_ov : Int32)  (H : Heap) (locs : List Loc) (ls : Array Slot), va_P (dC, dI) kcl (mo_W q6 qA qB qF qR qC qL qS qO qY qH qW qM cyI cyJ cyZ m_th m_o m_f m_r m_b m_a u_F u_R g_F g_R g_C g_L m_rl m_lf m_ov m_pl g_S g_O g_Y g_H m_st g_W m_rm m_fs g_M) H → va_D A (mo_W q6 qA qB qF qR qC qL qS qO qY qH qW qM cyI cyJ cyZ m_th m_o m_f m_r m_b m_a u_F u_R g_F g_R g_C g_L m_rl m_lf m_ov m_pl g_S g_O g_Y g_H m_st g_W m_rm m_fs g_M) → va_S A s.heap H locs → lv_has ls 2 [(0, .ref q6), (1, .int (1 : Int32))] → cf_X6_first_s2_1  m_a u_F u_R g_F g_R g_C g_L m_rl m_lf m_ov  = R → W p l e (headSpec wsX6_first ({ frames := 1, cells := 0, slots := 0, locals := 23 })).room s m ([.ref q6] : List Value).toArray below meth c H locs 0 0 (MQ below (mu_Q (some (.long R.2.2.2.2.2.2.2)) (dC, dI) kcl (mo_W q6 qA qB qF qR qC qL qS qO qY qH qW qM cyI cyJ cyZ m_th m_o m_f m_r m_b m_a u_F u_R R.1 R.2.1 R.2.2.1 R.2.2.2.1 R.2.2.2.2.1 R.2.2.2.2.2.1 R.2.2.2.2.2.2.1 m_pl g_S g_O g_Y g_H m_st g_W m_rm m_fs g_M) A) ([.ref q6] : List Value).toArray s 0 0 A) (F0 m 2 ls []) := by
    intro  g_F g_R g_C g_L m_rl m_lf m_ov  H locs ls hP hD hS hl hR
    unfold cf_X6_first_s2_1 at hR
    refine lv_iload_n hx hb dX6_first_2 rfl (lv_at hl 1 rfl) ?_
    refine lv_aload_n hx hb dX6_first_3 rfl (lv_at hl 0 rfl) ?_
    refine va_get (D := (dC, dI)) (ci := 4) (v := .ref qF) (C := RX6) (T := TX6) (N := 25) hx hb hts h1_ hown hK hP 0 rfl rfl 8 (by decide) h0_ (fun _ h9 => h9) rfl dX6_first_4 ?_
    refine va_alen hx hb hK hP 3 0 rfl rfl (v := (8 : Int32)) rfl dX6_first_7 ?_
    refine lv_icmp_ge (tgt := 29) hx hb dX6_first_8 (by decide) (fun c_0 => absurd c_0 (by decide +kernel)) (fun _ => ?_)
    refine lv_aload_n hx hb dX6_first_11 rfl (lv_at hl 0 rfl) ?_
    refine va_get (D := (dC, dI)) (ci := 4) (v := .ref qF) (C := RX6) (T := TX6) (N := 25) hx hb hts h1_ hown hK hP 0 rfl rfl 8 (by decide) h0_ (fun _ h9 => h9) rfl dX6_first_12 ?_
    refine lv_iload_n hx hb dX6_first_15 rfl (lv_at hl 1 rfl) ?_
    refine lv_aload_n hx hb dX6_first_16 rfl (lv_at hl 0 rfl) ?_
    refine va_get (D := (dC, dI)) (ci := 4) (v := .ref qA) (C := RX6) (T := TX6) (N := 25) hx hb hts h1_ hown hK hP 0 rfl rfl 6 (by decide) h2_ (fun _ h9 => h9) rfl dX6_first_17 ?_
    refine lv_iload_n hx hb dX6_first_20 rfl (lv_at hl 1 rfl) ?_
    refine va_iald hx hb hK hP 1 0 rfl rfl (by unfold vp_in; decide +kernel) dX6_first_21 ?_
    refine va_iast hx hb hK hP hD hS 3 0 rfl rfl (by unfold vp_in; decide +kernel) dX6_first_22 (fun H locs hP hD hS => ?_)
    have hP : va_P (dC, dI) kcl (mo_W q6 qA qB qF qR qC qL qS qO qY qH qW qM cyI cyJ cyZ m_th m_o m_f m_r m_b m_a u_F u_R (upd g_F ((1 : Int32)).toNatClampNeg (u_F ((1 : Int32)).toNatClampNeg)) g_R g_C g_L m_rl m_lf m_ov m_pl g_S g_O g_Y g_H m_st g_W m_rm m_fs g_M) H := hP
    have hD : va_D A (mo_W q6 qA qB qF qR qC qL qS qO qY qH qW qM cyI cyJ cyZ m_th m_o m_f m_r m_b m_a u_F u_R (upd g_F ((1 : Int32)).toNatClampNeg (u_F ((1 : Int32)).toNatClampNeg)) g_R g_C g_L m_rl m_lf m_ov m_pl g_S g_O g_Y g_H m_st g_W m_rm m_fs g_M) := hD
    refine lv_iinc (v := (2 : Int32)) (lv' := [(1, .int (2 : Int32)), (0, .ref q6)]) hx hb dX6_first_23 hl (k := 1) rfl (by decide +kernel) (by decide) rfl (fun ls hl => ?_)
    refine lv_goto (tgt := 2) hx hb dX6_first_26 (by decide) ?_
    exact Ks2_2  (upd g_F ((1 : Int32)).toNatClampNeg (u_F ((1 : Int32)).toNatClampNeg)) g_R g_C g_L m_rl m_lf m_ov  H locs ls hP hD hS (lv_sub hl [1, 0] rfl) hR
  have Ks2_0 : ∀  (g_F : Nat → Int32) (g_R : Nat → Int32) (g_C : Nat → Int32) (g_L : Nat → Int32) (m_rl : Int32) (m_lf : Int32) (m_ov : Int32)  (H : Heap) (locs : List Loc) (ls : Array Slot), va_P (dC, dI) kcl (mo_W q6 qA qB qF qR qC qL qS qO qY qH qW qM cyI cyJ cyZ m_th m_o m_f m_r m_b m_a u_F u_R g_F g_R g_C g_L m_rl m_lf m_ov m_pl g_S g_O g_Y g_H m_st g_W m_rm m_fs g_M) H → va_D A (mo_W q6 qA qB qF qR qC qL qS qO qY qH qW qM cyI cyJ cyZ m_th m_o m_f m_r m_b m_a u_F u_R g_F g_R g_C g_L m_rl m_lf m_ov m_pl g_S g_O g_Y g_H m_st g_W m_rm m_fs g_M) → va_S A s.heap H locs → lv_has ls 2 [(0, .ref q6), (1, .int (0 : Int32))] → cf_X6_first_s2_0  m_a u_F u_R g_F g_R g_C g_L m_rl m_lf m_ov  = R → W p l e (headSpec wsX6_first ({ frames := 1, cells := 0, slots := 0, locals := 23 })).room s m ([.ref q6] : List Value).toArray below meth c H locs 0 0 (MQ below (mu_Q (some (.long R.2.2.2.2.2.2.2)) (dC, dI) kcl (mo_W q6 qA qB qF qR qC qL qS qO qY qH qW qM cyI cyJ cyZ m_th m_o m_f m_r m_b m_a u_F u_R R.1 R.2.1 R.2.2.1 R.2.2.2.1 R.2.2.2.2.1 R.2.2.2.2.2.1 R.2.2.2.2.2.2.1 m_pl g_S g_O g_Y g_H m_st g_W m_rm m_fs g_M) A) ([.ref q6] : List Value).toArray s 0 0 A) (F0 m 2 ls []) := by
    intro  g_F g_R g_C g_L m_rl m_lf m_ov  H locs ls hP hD hS hl hR
    unfold cf_X6_first_s2_0 at hR
    refine lv_iload_n hx hb dX6_first_2 rfl (lv_at hl 1 rfl) ?_
    refine lv_aload_n hx hb dX6_first_3 rfl (lv_at hl 0 rfl) ?_
    refine va_get (D := (dC, dI)) (ci := 4) (v := .ref qF) (C := RX6) (T := TX6) (N := 25) hx hb hts h1_ hown hK hP 0 rfl rfl 8 (by decide) h0_ (fun _ h9 => h9) rfl dX6_first_4 ?_
    refine va_alen hx hb hK hP 3 0 rfl rfl (v := (8 : Int32)) rfl dX6_first_7 ?_
    refine lv_icmp_ge (tgt := 29) hx hb dX6_first_8 (by decide) (fun c_0 => absurd c_0 (by decide +kernel)) (fun _ => ?_)
    refine lv_aload_n hx hb dX6_first_11 rfl (lv_at hl 0 rfl) ?_
    refine va_get (D := (dC, dI)) (ci := 4) (v := .ref qF) (C := RX6) (T := TX6) (N := 25) hx hb hts h1_ hown hK hP 0 rfl rfl 8 (by decide) h0_ (fun _ h9 => h9) rfl dX6_first_12 ?_
    refine lv_iload_n hx hb dX6_first_15 rfl (lv_at hl 1 rfl) ?_
    refine lv_aload_n hx hb dX6_first_16 rfl (lv_at hl 0 rfl) ?_
    refine va_get (D := (dC, dI)) (ci := 4) (v := .ref qA) (C := RX6) (T := TX6) (N := 25) hx hb hts h1_ hown hK hP 0 rfl rfl 6 (by decide) h2_ (fun _ h9 => h9) rfl dX6_first_17 ?_
    refine lv_iload_n hx hb dX6_first_20 rfl (lv_at hl 1 rfl) ?_
    refine va_iald hx hb hK hP 1 0 rfl rfl (by unfold vp_in; decide +kernel) dX6_first_21 ?_
    refine va_iast hx hb hK hP hD hS 3 0 rfl rfl (by unfold vp_in; decide +kernel) dX6_first_22 (fun H locs hP hD hS => ?_)
    have hP : va_P (dC, dI) kcl (mo_W q6 qA qB qF qR qC qL qS qO qY qH qW qM cyI cyJ cyZ m_th m_o m_f m_r m_b m_a u_F u_R (upd g_F ((0 : Int32)).toNatClampNeg (u_F ((0 : Int32)).toNatClampNeg)) g_R g_C g_L m_rl m_lf m_ov m_pl g_S g_O g_Y g_H m_st g_W m_rm m_fs g_M) H := hP
    have hD : va_D A (mo_W q6 qA qB qF qR qC qL qS qO qY qH qW qM cyI cyJ cyZ m_th m_o m_f m_r m_b m_a u_F u_R (upd g_F ((0 : Int32)).toNatClampNeg (u_F ((0 : Int32)).toNatClampNeg)) g_R g_C g_L m_rl m_lf m_ov m_pl g_S g_O g_Y g_H m_st g_W m_rm m_fs g_M) := hD
    refine lv_iinc (v := (1 : Int32)) (lv' := [(1, .int (1 : Int32)), (0, .ref q6)]) hx hb dX6_first_23 hl (k := 1) rfl (by decide +kernel) (by decide) rfl (fun ls hl => ?_)
    refine lv_goto (tgt := 2) hx hb dX6_first_26 (by decide) ?_
    exact Ks2_1  (upd g_F ((0 : Int32)).toNatClampNeg (u_F ((0 : Int32)).toNatClampNeg)) g_R g_C g_L m_rl m_lf m_ov  H locs ls hP hD hS (lv_sub hl [1, 0] rfl) hR
  have hl := lv_entry ([.ref q6]) (n := 2) (Nat.le_of_ble_eq_true rfl)
  rw [lg_entry_eq]
  generalize (lg_sl ([.ref q6]) ++ List.replicate (2 - (lg_sl ([.ref q6])).length) Slot.unset).toArray = ls at hl ⊢
  have hl : lv_has ls 2 [(0, .ref q6)] := hl
  unfold cf_X6_first at hR
  refine mu_start (A := A) (fun H locs hP hS => ?_) hP
  refine lv_iconst (v := (0 : Int32)) hx hb dX6_first_0 (by decide +kernel) ?_
  refine lv_istore_n (lv' := [(1, .int (0 : Int32)), (0, .ref q6)]) hx hb dX6_first_1 rfl hl (by decide) rfl (fun ls hl => ?_)
  exact Ks2_0  g_F g_R g_C g_L m_rl m_lf m_ov  H locs ls hP hD hS (lv_sub hl [1, 0] rfl) hR

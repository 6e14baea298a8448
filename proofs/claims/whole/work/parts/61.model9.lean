def cf_X6_slotOf_i7_s44 (fu : Nat) (k_7 : (Nat → Int64) → (Nat → Int32) → Int64 → Int32 → Int32) (g_S : Nat → Int64) (g_H : Nat → Int32) (x3 : Int32) : Int32 :=
  x3
def cf_X6_slotOf_L7 (fu : Nat)  : Nat → (Nat → Int64) → (Nat → Int32) → Int64 → Int32 → Int32
  | 0, _, _, _, _ => 0
  | n + 1, g_S, g_H, x1, x3 => (if (g_H (x3).toNatClampNeg) ≤ 0 then cf_X6_slotOf_i7_s44 fu (cf_X6_slotOf_L7 fu n) g_S g_H x3 else (if (lg_cmp (g_S (((g_H (x3).toNatClampNeg) - (1 : Int32))).toNatClampNeg) x1) = 0 then cf_X6_slotOf_i7_s44 fu (cf_X6_slotOf_L7 fu n) g_S g_H x3 else (cf_X6_slotOf_L7 fu n) g_S g_H x1 ((x3 + (1 : Int32)) &&& (65535 : Int32))))
def vc_X6_slotOf_L7 (fu : Nat)  : Nat → (Nat → Int64) → (Nat → Int32) → Int64 → Int32 → Prop
  | 0, _, _, _, _ => False
  | n + 1, g_S, g_H, x1, x3 => (vp_in x3 65536 ∧ (((g_H (x3).toNatClampNeg) ≤ 0 → True) ∧ (¬ (g_H (x3).toNatClampNeg) ≤ 0 → (vp_in x3 65536 ∧ (vp_in ((g_H (x3).toNatClampNeg) - (1 : Int32)) 20000 ∧ (((lg_cmp (g_S (((g_H (x3).toNatClampNeg) - (1 : Int32))).toNatClampNeg) x1) = 0 → True) ∧ (¬ (lg_cmp (g_S (((g_H (x3).toNatClampNeg) - (1 : Int32))).toNatClampNeg) x1) = 0 → (vc_X6_slotOf_L7 fu n) g_S g_H x1 ((x3 + (1 : Int32)) &&& (65535 : Int32)))))))))
def cf_X6_slotOf (fu : Nat) (g_S : Nat → Int64) (g_H : Nat → Int32) (a0 : Int64) : Int32 :=
  cf_X6_slotOf_L7 fu  fu g_S g_H a0 ((a0 - a0 / (65536 : Int64) * (65536 : Int64)).toInt32)
def vc_X6_slotOf (fu : Nat) (g_S : Nat → Int64) (g_H : Nat → Int32) (a0 : Int64) : Prop :=
  vc_X6_slotOf_L7 fu  fu g_S g_H a0 ((a0 - a0 / (65536 : Int64) * (65536 : Int64)).toInt32)
set_option maxHeartbeats 4000000 in
set_option maxRecDepth 100000 in
theorem c_X6_slotOf (l : Launch) (dC : Nat → ClassId) (dI : Nat → Nat → Nat) (q6 qA qB qF qR qC qL qS qO qY qH qW qM : Nat) (cyI cyJ cyZ : ClassId) (m_th : Int32) (m_o : Int32) (m_f : Int32) (m_r : Int32) (m_b : Int32) (m_a : Int32) (u_F : Nat → Int32) (u_R : Nat → Int32) (g_F : Nat → Int32) (g_R : Nat → Int32) (g_C : Nat → Int32) (g_L : Nat → Int32) (m_rl : Int32) (m_lf : Int32) (m_ov : Int32) (m_pl : Int64) (g_S : Nat → Int64) (g_O : Nat → Int32) (g_Y : Nat → Int32) (g_H : Nat → Int32) (m_st : Int32) (g_W : Nat → Int32) (m_rm : Int32) (m_fs : Int32) (g_M : Nat → Int32) (fu : Nat) (a0 : Int64)  (hV : vc_X6_slotOf fu g_S g_H a0) : Met l yX6_slotOf wsX6_slotOf ({ frames := 0, cells := 0, slots := 0, locals := 0 }) (rd_P [.ref q6, .long a0] (dC, dI) kcl (mo_W q6 qA qB qF qR qC qL qS qO qY qH qW qM cyI cyJ cyZ m_th m_o m_f m_r m_b m_a u_F u_R g_F g_R g_C g_L m_rl m_lf m_ov m_pl g_S g_O g_Y g_H m_st g_W m_rm m_fs g_M) [(cyI, .int), (cyJ, .long), (cyZ, .boolean)]) (rd_Q (some (.int (cf_X6_slotOf fu g_S g_H a0)))) 0 0 (fun _ => False) := by
  refine Met.ofW (cc := cX6_slotOf) (maxL := 4) (ret := (some .int)) (by decide) rfl ?_
  intro p e s m args below meth c s₁ B hml hv
  obtain ⟨rfl, hP, hK⟩ := hv
  have hx := B.exec
  have hb := B.bytes
  have hr := B.returns
  have hts := atoms_spec (ws := wsX6_slotOf) B.pre
  have hown : s.vm.findClass RX6 = some m.cls := findClass_of_methodNamed B.named
  have hlocks := B.notSynchronized
  have hP : va_P (dC, dI) kcl (mo_W q6 qA qB qF qR qC qL qS qO qY qH qW qM cyI cyJ cyZ m_th m_o m_f m_r m_b m_a u_F u_R g_F g_R g_C g_L m_rl m_lf m_ov m_pl g_S g_O g_Y g_H m_st g_W m_rm m_fs g_M) s.heap := hP
  have h0_ : (Cond.constantLong RX6 136 (65536)).before _ s = true := hts _ (by decide +kernel)
  have h1_ : (Cond.fieldLink RX6 52 "ColourTrierModel" "slots" "[I").before _ s = true := hts _ (by decide +kernel)
  have h2_ : ∀ w ∈ u_ws RX6 TX6 25, w ∈ wsX6_slotOf := fun w h => List.mem_cons_of_mem _ (List.mem_append_right _ h)
  have h3_ : (Cond.fieldLink RX6 41 "ColourTrierModel" "state" "[J").before _ s = true := hts _ (by decide +kernel)
  have h4_ : (Cond.constant RX6 138 (65535)).before _ s = true := hts _ (by decide +kernel)
  generalize hR : (cf_X6_slotOf fu g_S g_H a0) = R
  have Ki7_s44 : ∀ (k_7 : (Nat → Int64) → (Nat → Int32) → Int64 → Int32 → Int32) (v_7 : (Nat → Int64) → (Nat → Int32) → Int64 → Int32 → Prop) (H_7 : ∀ (x1 : Int64) (x3 : Int32) (ls : Array Slot), lv_has ls 4 [(0, .ref q6), (1, .long x1), (3, .int x3)] → v_7 g_S g_H x1 x3 → k_7 g_S g_H x1 x3 = R → W p l e (headSpec wsX6_slotOf ({ frames := 0, cells := 0, slots := 0, locals := 0 })).room s m ([.ref q6, .long a0] : List Value).toArray below meth c s.heap [] 0 0 (MQ below (rd_Q (some (.int R))) ([.ref q6, .long a0] : List Value).toArray s 0 0 (fun _ => False)) (F0 m 7 ls [])) (x3 : Int32) (ls : Array Slot), lv_has ls 4 [(3, .int x3)] → cf_X6_slotOf_i7_s44 fu k_7 g_S g_H x3 = R → W p l e (headSpec wsX6_slotOf ({ frames := 0, cells := 0, slots := 0, locals := 0 })).room s m ([.ref q6, .long a0] : List Value).toArray below meth c s.heap [] 0 0 (MQ below (rd_Q (some (.int R))) ([.ref q6, .long a0] : List Value).toArray s 0 0 (fun _ => False)) (F0 m 44 ls []) := by
    intro k_7 v_7 H_7 x3 ls hl hR
    unfold cf_X6_slotOf_i7_s44 at hR
    refine lv_iload_n hx hb dX6_slotOf_44 rfl (lv_at hl 0 rfl) ?_
    exact W.iret (v := x3) hx hb hr (fun t ht _ => ⟨congrArg (fun z => Outcome.returned (some (Value.int z))) hR, ht⟩) t_nil dX6_slotOf_45
  have KL7 : ∀ (n : Nat), ∀ (x1 : Int64) (x3 : Int32) (ls : Array Slot), lv_has ls 4 [(0, .ref q6), (1, .long x1), (3, .int x3)] → vc_X6_slotOf_L7 fu  n g_S g_H x1 x3 → cf_X6_slotOf_L7 fu  n g_S g_H x1 x3 = R → W p l e (headSpec wsX6_slotOf ({ frames := 0, cells := 0, slots := 0, locals := 0 })).room s m ([.ref q6, .long a0] : List Value).toArray below meth c s.heap [] 0 0 (MQ below (rd_Q (some (.int R))) ([.ref q6, .long a0] : List Value).toArray s 0 0 (fun _ => False)) (F0 m 7 ls []) := by
    intro n
    induction n with
    | zero =>
      intro x1 x3 ls hl hV hR
      exact absurd hV id
    | succ n ih =>
      intro x1 x3 ls hl hV hR
      have hR : (if (g_H (x3).toNatClampNeg) ≤ 0 then cf_X6_slotOf_i7_s44 fu (cf_X6_slotOf_L7 fu n) g_S g_H x3 else (if (lg_cmp (g_S (((g_H (x3).toNatClampNeg) - (1 : Int32))).toNatClampNeg) x1) = 0 then cf_X6_slotOf_i7_s44 fu (cf_X6_slotOf_L7 fu n) g_S g_H x3 else (cf_X6_slotOf_L7 fu n) g_S g_H x1 ((x3 + (1 : Int32)) &&& (65535 : Int32)))) = R := hR
      have hV : (vp_in x3 65536 ∧ (((g_H (x3).toNatClampNeg) ≤ 0 → True) ∧ (¬ (g_H (x3).toNatClampNeg) ≤ 0 → (vp_in x3 65536 ∧ (vp_in ((g_H (x3).toNatClampNeg) - (1 : Int32)) 20000 ∧ (((lg_cmp (g_S (((g_H (x3).toNatClampNeg) - (1 : Int32))).toNatClampNeg) x1) = 0 → True) ∧ (¬ (lg_cmp (g_S (((g_H (x3).toNatClampNeg) - (1 : Int32))).toNatClampNeg) x1) = 0 → (vc_X6_slotOf_L7 fu n) g_S g_H x1 ((x3 + (1 : Int32)) &&& (65535 : Int32))))))))) := hV
      refine lv_aload_n hx hb dX6_slotOf_7 rfl (lv_at hl 0 rfl) ?_
      refine va_get (D := (dC, dI)) (ci := 4) (v := .ref qH) (C := RX6) (T := TX6) (N := 25) hx hb hts h2_ hown hK hP 0 rfl rfl 19 (by decide) h1_ (fun _ h9 => h9) rfl dX6_slotOf_8 ?_
      refine lv_iload_n hx hb dX6_slotOf_11 rfl (lv_at hl 2 rfl) ?_
      obtain ⟨hi1, hV⟩ := hV
      refine va_iald hx hb hK hP 10 0 rfl rfl hi1 dX6_slotOf_12 ?_
      refine lv_if_le (tgt := 44) hx hb dX6_slotOf_13 (by decide) (fun c_2 => ?_) (fun c_2 => ?_)
      · rw [if_pos c_2] at hR
        exact Ki7_s44 (cf_X6_slotOf_L7 fu n) (vc_X6_slotOf_L7 fu n) ih x3 ls (lv_sub hl [2] rfl) hR
      · rw [if_neg c_2] at hR
        have hV := hV.2 c_2
        refine lv_aload_n hx hb dX6_slotOf_16 rfl (lv_at hl 0 rfl) ?_
        refine va_get (D := (dC, dI)) (ci := 4) (v := .ref qS) (C := RX6) (T := TX6) (N := 25) hx hb hts h2_ hown hK hP 0 rfl rfl 16 (by decide) h3_ (fun _ h9 => h9) rfl dX6_slotOf_17 ?_
        refine lv_aload_n hx hb dX6_slotOf_20 rfl (lv_at hl 0 rfl) ?_
        refine va_get (D := (dC, dI)) (ci := 4) (v := .ref qH) (C := RX6) (T := TX6) (N := 25) hx hb hts h2_ hown hK hP 0 rfl rfl 19 (by decide) h1_ (fun _ h9 => h9) rfl dX6_slotOf_21 ?_
        refine lv_iload_n hx hb dX6_slotOf_24 rfl (lv_at hl 2 rfl) ?_
        obtain ⟨hi3, hV⟩ := hV
        refine va_iald hx hb hK hP 10 0 rfl rfl hi3 dX6_slotOf_25 ?_
        refine lv_iconst (v := (1 : Int32)) hx hb dX6_slotOf_26 (by decide +kernel) ?_
        refine lv_isub hx hb dX6_slotOf_27 ?_
        obtain ⟨hi4, hV⟩ := hV
        refine va_lald hx hb hK hP 7 1 rfl rfl hi4 dX6_slotOf_28 ?_
        refine lv_lload_n hx hb dX6_slotOf_29 rfl (lv_at hl 1 rfl) ?_
        refine W.lcmp hx hb dX6_slotOf_30 ?_
        refine lv_if_eq (tgt := 44) hx hb dX6_slotOf_31 (by decide) (fun c_5 => ?_) (fun c_5 => ?_)
        · rw [if_pos c_5] at hR
          exact Ki7_s44 (cf_X6_slotOf_L7 fu n) (vc_X6_slotOf_L7 fu n) ih x3 ls (lv_sub hl [2] rfl) hR
        · rw [if_neg c_5] at hR
          have hV := hV.2 c_5
          refine lv_iload_n hx hb dX6_slotOf_34 rfl (lv_at hl 2 rfl) ?_
          refine lv_iconst (v := (1 : Int32)) hx hb dX6_slotOf_35 (by decide +kernel) ?_
          refine lv_iadd hx hb dX6_slotOf_36 ?_
          refine lv_ldc (v := (65535 : Int32)) hx hb hown h4_ dX6_slotOf_37 ?_
          refine lv_iand hx hb dX6_slotOf_39 ?_
          refine lv_istore_n (lv' := [(3, .int ((x3 + (1 : Int32)) &&& (65535 : Int32))), (0, .ref q6), (1, .long x1)]) hx hb dX6_slotOf_40 rfl hl (by decide) rfl (fun ls hl => ?_)
          refine lv_goto (tgt := 7) hx hb dX6_slotOf_41 (by decide) ?_
          exact ih x1 ((x3 + (1 : Int32)) &&& (65535 : Int32)) ls (lv_sub hl [1, 2, 0] rfl) hV hR
  have hl := lv_entry ([.ref q6, .long a0]) (n := 4) (Nat.le_of_ble_eq_true rfl)
  rw [lg_entry_eq]
  generalize (lg_sl ([.ref q6, .long a0]) ++ List.replicate (4 - (lg_sl ([.ref q6, .long a0])).length) Slot.unset).toArray = ls at hl ⊢
  have hl : lv_has ls 4 [(0, .ref q6), (1, .long a0)] := hl
  unfold cf_X6_slotOf at hR
  unfold vc_X6_slotOf at hV
  refine lv_lload_n hx hb dX6_slotOf_0 rfl (lv_at hl 1 rfl) ?_
  refine lv_ldc2 (v := (65536 : Int64)) hx hb hown h0_ dX6_slotOf_1 ?_
  refine lv_lrem hx hb dX6_slotOf_4 (by decide +kernel) ?_
  refine lv_l2i (v := ((a0 - a0 / (65536 : Int64) * (65536 : Int64)).toInt32)) hx hb dX6_slotOf_5 rfl ?_
  refine lv_istore_n (lv' := [(3, .int ((a0 - a0 / (65536 : Int64) * (65536 : Int64)).toInt32)), (0, .ref q6), (1, .long a0)]) hx hb dX6_slotOf_6 rfl hl (by decide) rfl (fun ls hl => ?_)
  exact KL7  fu a0 ((a0 - a0 / (65536 : Int64) * (65536 : Int64)).toInt32) ls (lv_sub hl [1, 2, 0] rfl) hV hR
def cf_X6_tell_L43 (fu : Nat) (k_7 : (Nat → Int32) → (Nat → Int32) → (Nat → Int32) → Int32 → Int32 → Int32 → (Nat → Int32) × Int32) : Nat → (Nat → Int32) → (Nat → Int32) → (Nat → Int32) → Int32 → Int32 → Int32 → (Nat → Int32) × Int32
  | 0, _, _, g_W, m_rm, _, _ => (g_W, m_rm)
  | n + 1, g_O, g_Y, g_W, m_rm, x2, x3 => (if (g_O (x3).toNatClampNeg) < 0 then (g_W, m_rm) else (cf_X6_tell_L43 fu k_7 n) g_O g_Y (upd g_W ((x2 + (-1 : Int32))).toNatClampNeg (g_Y (x3).toNatClampNeg)) m_rm (x2 + (-1 : Int32)) (g_O (x3).toNatClampNeg))
def vc_X6_tell_L43 (fu : Nat) (v_7 : (Nat → Int32) → (Nat → Int32) → (Nat → Int32) → Int32 → Int32 → Int32 → Prop) : Nat → (Nat → Int32) → (Nat → Int32) → (Nat → Int32) → Int32 → Int32 → Int32 → Prop
  | 0, _, _, _, _, _, _ => False
  | n + 1, g_O, g_Y, g_W, m_rm, x2, x3 => (vp_in x3 20000 ∧ (((g_O (x3).toNatClampNeg) < 0 → True) ∧ (¬ (g_O (x3).toNatClampNeg) < 0 → (vp_in x3 20000 ∧ (vp_in (x2 + (-1 : Int32)) 20000 ∧ (vp_in x3 20000 ∧ (vc_X6_tell_L43 fu v_7 n) g_O g_Y (upd g_W ((x2 + (-1 : Int32))).toNatClampNeg (g_Y (x3).toNatClampNeg)) m_rm (x2 + (-1 : Int32)) (g_O (x3).toNatClampNeg)))))))
def cf_X6_tell_L7 (fu : Nat)  : Nat → (Nat → Int32) → (Nat → Int32) → (Nat → Int32) → Int32 → Int32 → Int32 → (Nat → Int32) × Int32
  | 0, _, _, g_W, m_rm, _, _ => (g_W, m_rm)
  | n + 1, g_O, g_Y, g_W, m_rm, x1, x2 => (if (g_O (x2).toNatClampNeg) < 0 then cf_X6_tell_L43 fu (cf_X6_tell_L7 fu n) fu g_O g_Y g_W m_rm m_rm x1 else (cf_X6_tell_L7 fu n) g_O g_Y g_W (m_rm + (1 : Int32)) x1 (g_O (x2).toNatClampNeg))
def vc_X6_tell_L7 (fu : Nat)  : Nat → (Nat → Int32) → (Nat → Int32) → (Nat → Int32) → Int32 → Int32 → Int32 → Prop
  | 0, _, _, _, _, _, _ => False
  | n + 1, g_O, g_Y, g_W, m_rm, x1, x2 => (vp_in x2 20000 ∧ (((g_O (x2).toNatClampNeg) < 0 → vc_X6_tell_L43 fu (vc_X6_tell_L7 fu n) fu g_O g_Y g_W m_rm m_rm x1) ∧ (¬ (g_O (x2).toNatClampNeg) < 0 → (vp_in x2 20000 ∧ (vc_X6_tell_L7 fu n) g_O g_Y g_W (m_rm + (1 : Int32)) x1 (g_O (x2).toNatClampNeg)))))
def cf_X6_tell (fu : Nat) (g_O : Nat → Int32) (g_Y : Nat → Int32) (g_W : Nat → Int32) (m_rm : Int32) (a0 : Int32) : (Nat → Int32) × Int32 :=
  cf_X6_tell_L7 fu  fu g_O g_Y g_W (0 : Int32) a0 a0
def vc_X6_tell (fu : Nat) (g_O : Nat → Int32) (g_Y : Nat → Int32) (g_W : Nat → Int32) (m_rm : Int32) (a0 : Int32) : Prop :=
  vc_X6_tell_L7 fu  fu g_O g_Y g_W (0 : Int32) a0 a0
set_option maxHeartbeats 4000000 in
set_option maxRecDepth 100000 in
theorem c_X6_tell (l : Launch) (dC : Nat → ClassId) (dI : Nat → Nat → Nat) (q6 qA qB qF qR qC qL qS qO qY qH qW qM : Nat) (cyI cyJ cyZ : ClassId) (m_th : Int32) (m_o : Int32) (m_f : Int32) (m_r : Int32) (m_b : Int32) (m_a : Int32) (u_F : Nat → Int32) (u_R : Nat → Int32) (g_F : Nat → Int32) (g_R : Nat → Int32) (g_C : Nat → Int32) (g_L : Nat → Int32) (m_rl : Int32) (m_lf : Int32) (m_ov : Int32) (m_pl : Int64) (g_S : Nat → Int64) (g_O : Nat → Int32) (g_Y : Nat → Int32) (g_H : Nat → Int32) (m_st : Int32) (g_W : Nat → Int32) (m_rm : Int32) (m_fs : Int32) (g_M : Nat → Int32) (sz : Nat) (fu : Nat) (a0 : Int32)  (hV : vc_X6_tell fu g_O g_Y g_W m_rm a0) : Met l yX6_tell wsX6_tell ({ frames := 0, cells := 0, slots := 0, locals := 0 }) (mu_P [.ref q6, .int a0] sz (dC, dI) kcl (mo_W q6 qA qB qF qR qC qL qS qO qY qH qW qM cyI cyJ cyZ m_th m_o m_f m_r m_b m_a u_F u_R g_F g_R g_C g_L m_rl m_lf m_ov m_pl g_S g_O g_Y g_H m_st g_W m_rm m_fs g_M) [(cyI, .int), (cyJ, .long), (cyZ, .boolean)]) (mu_Q none (dC, dI) kcl (mo_W q6 qA qB qF qR qC qL qS qO qY qH qW qM cyI cyJ cyZ m_th m_o m_f m_r m_b m_a u_F u_R g_F g_R g_C g_L m_rl m_lf m_ov m_pl g_S g_O g_Y g_H m_st ((cf_X6_tell fu g_O g_Y g_W m_rm a0).1) ((cf_X6_tell fu g_O g_Y g_W m_rm a0).2) m_fs g_M) (va_A (mo_W q6 qA qB qF qR qC qL qS qO qY qH qW qM cyI cyJ cyZ m_th m_o m_f m_r m_b m_a u_F u_R g_F g_R g_C g_L m_rl m_lf m_ov m_pl g_S g_O g_Y g_H m_st g_W m_rm m_fs g_M) sz)) 0 0 (va_A (mo_W q6 qA qB qF qR qC qL qS qO qY qH qW qM cyI cyJ cyZ m_th m_o m_f m_r m_b m_a u_F u_R g_F g_R g_C g_L m_rl m_lf m_ov m_pl g_S g_O g_Y g_H m_st g_W m_rm m_fs g_M) sz) := by
  refine Met.ofW (cc := cX6_tell) (maxL := 4) (ret := none) (by decide) rfl ?_
  intro p e s m args below meth c s₁ B hml hv
  obtain ⟨rfl, hsz, hP, hK, hD0⟩ := hv
  have hx := B.exec
  have hb := B.bytes
  have hr := B.returns
  have hts := atoms_spec (ws := wsX6_tell) B.pre
  have hown : s.vm.findClass RX6 = some m.cls := findClass_of_methodNamed B.named
  have hlocks := B.notSynchronized
  subst hsz
  have hD := hD0.self (sz := s.heap.size)
  generalize hAe : va_A (mo_W q6 qA qB qF qR qC qL qS qO qY qH qW qM cyI cyJ cyZ m_th m_o m_f m_r m_b m_a u_F u_R g_F g_R g_C g_L m_rl m_lf m_ov m_pl g_S g_O g_Y g_H m_st g_W m_rm m_fs g_M) s.heap.size = A at hD ⊢
  have hA : ∀ q : Nat, s.heap.size ≤ q → A q := fun q h => by rw [← hAe]; exact Or.inr h
  have hP : va_P (dC, dI) kcl (mo_W q6 qA qB qF qR qC qL qS qO qY qH qW qM cyI cyJ cyZ m_th m_o m_f m_r m_b m_a u_F u_R g_F g_R g_C g_L m_rl m_lf m_ov m_pl g_S g_O g_Y g_H m_st g_W m_rm m_fs g_M) s.heap := hP
  have h0_ : (Cond.fieldLink RX6 139 "ColourTrierModel" "rowMany" "I").before _ s = true := hts _ (by decide +kernel)
  have h1_ : ∀ w ∈ u_ws RX6 TX6 25, w ∈ wsX6_tell := fun w h => List.mem_cons_of_mem _ (List.mem_append_right _ h)
  have h2_ : (Cond.fieldLink RX6 45 "ColourTrierModel" "from" "[I").before _ s = true := hts _ (by decide +kernel)
  have h3_ : (Cond.fieldLink RX6 55 "ColourTrierModel" "row" "[I").before _ s = true := hts _ (by decide +kernel)
  have h4_ : (Cond.fieldLink RX6 48 "ColourTrierModel" "by" "[I").before _ s = true := hts _ (by decide +kernel)
  generalize hR : (cf_X6_tell fu g_O g_Y g_W m_rm a0) = R
  have KL43 : ∀ (k_7 : (Nat → Int32) → (Nat → Int32) → (Nat → Int32) → Int32 → Int32 → Int32 → (Nat → Int32) × Int32) (v_7 : (Nat → Int32) → (Nat → Int32) → (Nat → Int32) → Int32 → Int32 → Int32 → Prop) (H_7 : ∀ (g_W : Nat → Int32) (m_rm : Int32) (x1 : Int32) (x2 : Int32) (H : Heap) (locs : List Loc) (ls : Array Slot), va_P (dC, dI) kcl (mo_W q6 qA qB qF qR qC qL qS qO qY qH qW qM cyI cyJ cyZ m_th m_o m_f m_r m_b m_a u_F u_R g_F g_R g_C g_L m_rl m_lf m_ov m_pl g_S g_O g_Y g_H m_st g_W m_rm m_fs g_M) H → va_D A (mo_W q6 qA qB qF qR qC qL qS qO qY qH qW qM cyI cyJ cyZ m_th m_o m_f m_r m_b m_a u_F u_R g_F g_R g_C g_L m_rl m_lf m_ov m_pl g_S g_O g_Y g_H m_st g_W m_rm m_fs g_M) → va_S A s.heap H locs → lv_has ls 4 [(0, .ref q6), (1, .int x1), (2, .int x2)] → v_7 g_O g_Y g_W m_rm x1 x2 → k_7 g_O g_Y g_W m_rm x1 x2 = R → W p l e (headSpec wsX6_tell ({ frames := 0, cells := 0, slots := 0, locals := 0 })).room s m ([.ref q6, .int a0] : List Value).toArray below meth c H locs 0 0 (MQ below (mu_Q none (dC, dI) kcl (mo_W q6 qA qB qF qR qC qL qS qO qY qH qW qM cyI cyJ cyZ m_th m_o m_f m_r m_b m_a u_F u_R g_F g_R g_C g_L m_rl m_lf m_ov m_pl g_S g_O g_Y g_H m_st R.1 R.2 m_fs g_M) A) ([.ref q6, .int a0] : List Value).toArray s 0 0 A) (F0 m 7 ls [])) (n : Nat), ∀ (g_W : Nat → Int32) (m_rm : Int32) (x2 : Int32) (x3 : Int32) (H : Heap) (locs : List Loc) (ls : Array Slot), va_P (dC, dI) kcl (mo_W q6 qA qB qF qR qC qL qS qO qY qH qW qM cyI cyJ cyZ m_th m_o m_f m_r m_b m_a u_F u_R g_F g_R g_C g_L m_rl m_lf m_ov m_pl g_S g_O g_Y g_H m_st g_W m_rm m_fs g_M) H → va_D A (mo_W q6 qA qB qF qR qC qL qS qO qY qH qW qM cyI cyJ cyZ m_th m_o m_f m_r m_b m_a u_F u_R g_F g_R g_C g_L m_rl m_lf m_ov m_pl g_S g_O g_Y g_H m_st g_W m_rm m_fs g_M) → va_S A s.heap H locs → lv_has ls 4 [(0, .ref q6), (2, .int x2), (3, .int x3)] → vc_X6_tell_L43 fu v_7 n g_O g_Y g_W m_rm x2 x3 → cf_X6_tell_L43 fu k_7 n g_O g_Y g_W m_rm x2 x3 = R → W p l e (headSpec wsX6_tell ({ frames := 0, cells := 0, slots := 0, locals := 0 })).room s m ([.ref q6, .int a0] : List Value).toArray below meth c H locs 0 0 (MQ below (mu_Q none (dC, dI) kcl (mo_W q6 qA qB qF qR qC qL qS qO qY qH qW qM cyI cyJ cyZ m_th m_o m_f m_r m_b m_a u_F u_R g_F g_R g_C g_L m_rl m_lf m_ov m_pl g_S g_O g_Y g_H m_st R.1 R.2 m_fs g_M) A) ([.ref q6, .int a0] : List Value).toArray s 0 0 A) (F0 m 43 ls []) := by
    intro k_7 v_7 H_7 n
    induction n with
    | zero =>
      intro g_W m_rm x2 x3 H locs ls hP hD hS hl hV hR
      exact absurd hV id
    | succ n ih =>
      intro g_W m_rm x2 x3 H locs ls hP hD hS hl hV hR
      have hR : (if (g_O (x3).toNatClampNeg) < 0 then (g_W, m_rm) else (cf_X6_tell_L43 fu k_7 n) g_O g_Y (upd g_W ((x2 + (-1 : Int32))).toNatClampNeg (g_Y (x3).toNatClampNeg)) m_rm (x2 + (-1 : Int32)) (g_O (x3).toNatClampNeg)) = R := hR
      have hV : (vp_in x3 20000 ∧ (((g_O (x3).toNatClampNeg) < 0 → True) ∧ (¬ (g_O (x3).toNatClampNeg) < 0 → (vp_in x3 20000 ∧ (vp_in (x2 + (-1 : Int32)) 20000 ∧ (vp_in x3 20000 ∧ (vc_X6_tell_L43 fu v_7 n) g_O g_Y (upd g_W ((x2 + (-1 : Int32))).toNatClampNeg (g_Y (x3).toNatClampNeg)) m_rm (x2 + (-1 : Int32)) (g_O (x3).toNatClampNeg))))))) := hV
      refine lv_aload_n hx hb dX6_tell_43 rfl (lv_at hl 0 rfl) ?_
      refine va_get (D := (dC, dI)) (ci := 4) (v := .ref qO) (C := RX6) (T := TX6) (N := 25) hx hb hts h1_ hown hK hP 0 rfl rfl 17 (by decide) h2_ (fun _ h9 => h9) rfl dX6_tell_44 ?_
      refine lv_iload_n hx hb dX6_tell_47 rfl (lv_at hl 2 rfl) ?_
      obtain ⟨hi3, hV⟩ := hV
      refine va_iald hx hb hK hP 8 0 rfl rfl hi3 dX6_tell_48 ?_
      refine lv_if_lt (tgt := 77) hx hb dX6_tell_49 (by decide) (fun c_4 => ?_) (fun c_4 => ?_)
      · rw [if_pos c_4] at hR
        rw [← hR]
        exact W.vret hx hb hr (fun t ht _ => ⟨rfl, by rw [ht]; exact hP, hS.F ht⟩) hS.2.2 dX6_tell_77
      · rw [if_neg c_4] at hR
        have hV := hV.2 c_4
        refine lv_iinc (v := (x2 + (-1 : Int32))) (lv' := [(2, .int (x2 + (-1 : Int32))), (0, .ref q6), (3, .int x3)]) hx hb dX6_tell_52 hl (k := 1) rfl rfl (by decide) rfl (fun ls hl => ?_)
        refine lv_aload_n hx hb dX6_tell_55 rfl (lv_at hl 1 rfl) ?_
        refine va_get (D := (dC, dI)) (ci := 4) (v := .ref qW) (C := RX6) (T := TX6) (N := 25) hx hb hts h1_ hown hK hP 0 rfl rfl 21 (by decide) h3_ (fun _ h9 => h9) rfl dX6_tell_56 ?_
        refine lv_iload_n hx hb dX6_tell_59 rfl (lv_at hl 0 rfl) ?_
        refine lv_aload_n hx hb dX6_tell_60 rfl (lv_at hl 1 rfl) ?_
        refine va_get (D := (dC, dI)) (ci := 4) (v := .ref qY) (C := RX6) (T := TX6) (N := 25) hx hb hts h1_ hown hK hP 0 rfl rfl 18 (by decide) h4_ (fun _ h9 => h9) rfl dX6_tell_61 ?_
        refine lv_iload_n hx hb dX6_tell_64 rfl (lv_at hl 2 rfl) ?_
        obtain ⟨hi5, hV⟩ := hV
        refine va_iald hx hb hK hP 9 0 rfl rfl hi5 dX6_tell_65 ?_
        obtain ⟨hi6, hV⟩ := hV
        refine va_iast hx hb hK hP hD hS 11 0 rfl rfl hi6 dX6_tell_66 (fun H locs hP hD hS => ?_)
        have hP : va_P (dC, dI) kcl (mo_W q6 qA qB qF qR qC qL qS qO qY qH qW qM cyI cyJ cyZ m_th m_o m_f m_r m_b m_a u_F u_R g_F g_R g_C g_L m_rl m_lf m_ov m_pl g_S g_O g_Y g_H m_st (upd g_W ((x2 + (-1 : Int32))).toNatClampNeg (g_Y (x3).toNatClampNeg)) m_rm m_fs g_M) H := hP
        have hD : va_D A (mo_W q6 qA qB qF qR qC qL qS qO qY qH qW qM cyI cyJ cyZ m_th m_o m_f m_r m_b m_a u_F u_R g_F g_R g_C g_L m_rl m_lf m_ov m_pl g_S g_O g_Y g_H m_st (upd g_W ((x2 + (-1 : Int32))).toNatClampNeg (g_Y (x3).toNatClampNeg)) m_rm m_fs g_M) := hD
        refine lv_aload_n hx hb dX6_tell_67 rfl (lv_at hl 1 rfl) ?_
        refine va_get (D := (dC, dI)) (ci := 4) (v := .ref qO) (C := RX6) (T := TX6) (N := 25) hx hb hts h1_ hown hK hP 0 rfl rfl 17 (by decide) h2_ (fun _ h9 => h9) rfl dX6_tell_68 ?_
        refine lv_iload_n hx hb dX6_tell_71 rfl (lv_at hl 2 rfl) ?_
        obtain ⟨hi7, hV⟩ := hV
        refine va_iald hx hb hK hP 8 0 rfl rfl hi7 dX6_tell_72 ?_
        refine lv_istore_n (lv' := [(3, .int (g_O (x3).toNatClampNeg)), (2, .int (x2 + (-1 : Int32))), (0, .ref q6)]) hx hb dX6_tell_73 rfl hl (by decide) rfl (fun ls hl => ?_)
        refine lv_goto (tgt := 43) hx hb dX6_tell_74 (by decide) ?_
        exact ih (upd g_W ((x2 + (-1 : Int32))).toNatClampNeg (g_Y (x3).toNatClampNeg)) m_rm (x2 + (-1 : Int32)) (g_O (x3).toNatClampNeg) H locs ls hP hD hS (lv_sub hl [2, 1, 0] rfl) hV hR
  have KL7 : ∀ (n : Nat), ∀ (g_W : Nat → Int32) (m_rm : Int32) (x1 : Int32) (x2 : Int32) (H : Heap) (locs : List Loc) (ls : Array Slot), va_P (dC, dI) kcl (mo_W q6 qA qB qF qR qC qL qS qO qY qH qW qM cyI cyJ cyZ m_th m_o m_f m_r m_b m_a u_F u_R g_F g_R g_C g_L m_rl m_lf m_ov m_pl g_S g_O g_Y g_H m_st g_W m_rm m_fs g_M) H → va_D A (mo_W q6 qA qB qF qR qC qL qS qO qY qH qW qM cyI cyJ cyZ m_th m_o m_f m_r m_b m_a u_F u_R g_F g_R g_C g_L m_rl m_lf m_ov m_pl g_S g_O g_Y g_H m_st g_W m_rm m_fs g_M) → va_S A s.heap H locs → lv_has ls 4 [(0, .ref q6), (1, .int x1), (2, .int x2)] → vc_X6_tell_L7 fu  n g_O g_Y g_W m_rm x1 x2 → cf_X6_tell_L7 fu  n g_O g_Y g_W m_rm x1 x2 = R → W p l e (headSpec wsX6_tell ({ frames := 0, cells := 0, slots := 0, locals := 0 })).room s m ([.ref q6, .int a0] : List Value).toArray below meth c H locs 0 0 (MQ below (mu_Q none (dC, dI) kcl (mo_W q6 qA qB qF qR qC qL qS qO qY qH qW qM cyI cyJ cyZ m_th m_o m_f m_r m_b m_a u_F u_R g_F g_R g_C g_L m_rl m_lf m_ov m_pl g_S g_O g_Y g_H m_st R.1 R.2 m_fs g_M) A) ([.ref q6, .int a0] : List Value).toArray s 0 0 A) (F0 m 7 ls []) := by
    intro n
    induction n with
    | zero =>
      intro g_W m_rm x1 x2 H locs ls hP hD hS hl hV hR
      exact absurd hV id
    | succ n ih =>
      intro g_W m_rm x1 x2 H locs ls hP hD hS hl hV hR
      have hR : (if (g_O (x2).toNatClampNeg) < 0 then cf_X6_tell_L43 fu (cf_X6_tell_L7 fu n) fu g_O g_Y g_W m_rm m_rm x1 else (cf_X6_tell_L7 fu n) g_O g_Y g_W (m_rm + (1 : Int32)) x1 (g_O (x2).toNatClampNeg)) = R := hR
      have hV : (vp_in x2 20000 ∧ (((g_O (x2).toNatClampNeg) < 0 → vc_X6_tell_L43 fu (vc_X6_tell_L7 fu n) fu g_O g_Y g_W m_rm m_rm x1) ∧ (¬ (g_O (x2).toNatClampNeg) < 0 → (vp_in x2 20000 ∧ (vc_X6_tell_L7 fu n) g_O g_Y g_W (m_rm + (1 : Int32)) x1 (g_O (x2).toNatClampNeg))))) := hV
      refine lv_aload_n hx hb dX6_tell_7 rfl (lv_at hl 0 rfl) ?_
      refine va_get (D := (dC, dI)) (ci := 4) (v := .ref qO) (C := RX6) (T := TX6) (N := 25) hx hb hts h1_ hown hK hP 0 rfl rfl 17 (by decide) h2_ (fun _ h9 => h9) rfl dX6_tell_8 ?_
      refine lv_iload_n hx hb dX6_tell_11 rfl (lv_at hl 2 rfl) ?_
      obtain ⟨hi1, hV⟩ := hV
      refine va_iald hx hb hK hP 8 0 rfl rfl hi1 dX6_tell_12 ?_
      refine lv_if_lt (tgt := 36) hx hb dX6_tell_13 (by decide) (fun c_2 => ?_) (fun c_2 => ?_)
      · rw [if_pos c_2] at hR
        have hV := hV.1 c_2
        refine lv_aload_n hx hb dX6_tell_36 rfl (lv_at hl 0 rfl) ?_
        refine va_get (D := (dC, dI)) (ci := 4) (v := .int m_rm) (C := RX6) (T := TX6) (N := 25) hx hb hts h1_ hown hK hP 0 rfl rfl 22 (by decide) h0_ (fun _ h9 => h9) rfl dX6_tell_37 ?_
        refine lv_istore_n (lv' := [(2, .int m_rm), (0, .ref q6), (1, .int x1)]) hx hb dX6_tell_40 rfl hl (by decide) rfl (fun ls hl => ?_)
        refine lv_iload_n hx hb dX6_tell_41 rfl (lv_at hl 2 rfl) ?_
        refine lv_istore_n (lv' := [(3, .int x1), (2, .int m_rm), (0, .ref q6), (1, .int x1)]) hx hb dX6_tell_42 rfl hl (by decide) rfl (fun ls hl => ?_)
        exact KL43 (cf_X6_tell_L7 fu n) (vc_X6_tell_L7 fu n) ih fu g_W m_rm m_rm x1 H locs ls hP hD hS (lv_sub hl [2, 1, 0] rfl) hV hR
      · rw [if_neg c_2] at hR
        have hV := hV.2 c_2
        refine lv_aload_n hx hb dX6_tell_16 rfl (lv_at hl 0 rfl) ?_
        refine lv_dup hx hb dX6_tell_17 rfl ?_
        refine va_get (D := (dC, dI)) (ci := 4) (v := .int m_rm) (C := RX6) (T := TX6) (N := 25) hx hb hts h1_ hown hK hP 0 rfl rfl 22 (by decide) h0_ (fun _ h9 => h9) rfl dX6_tell_18 ?_
        refine lv_iconst (v := (1 : Int32)) hx hb dX6_tell_21 (by decide +kernel) ?_
        refine lv_iadd hx hb dX6_tell_22 ?_
        refine va_put (D := (dC, dI)) (ci := 4) (v := .int (m_rm + (1 : Int32))) (ty := .int) (C := RX6) (T := TX6) (N := 25) hx hb hts h1_ tyX6 tyX6_ok nmX6 hown hK hP hD hS 0 rfl rfl 22 (by decide) h0_ (fun _ h9 => h9) rfl (by decide +kernel) rfl rfl (Nat.le_of_ble_eq_true rfl) dX6_tell_23 (fun H locs hP hD hS => ?_)
        have hP : va_P (dC, dI) kcl (mo_W q6 qA qB qF qR qC qL qS qO qY qH qW qM cyI cyJ cyZ m_th m_o m_f m_r m_b m_a u_F u_R g_F g_R g_C g_L m_rl m_lf m_ov m_pl g_S g_O g_Y g_H m_st g_W (m_rm + (1 : Int32)) m_fs g_M) H := hP
        have hD : va_D A (mo_W q6 qA qB qF qR qC qL qS qO qY qH qW qM cyI cyJ cyZ m_th m_o m_f m_r m_b m_a u_F u_R g_F g_R g_C g_L m_rl m_lf m_ov m_pl g_S g_O g_Y g_H m_st g_W (m_rm + (1 : Int32)) m_fs g_M) := hD
        refine lv_aload_n hx hb dX6_tell_26 rfl (lv_at hl 0 rfl) ?_
        refine va_get (D := (dC, dI)) (ci := 4) (v := .ref qO) (C := RX6) (T := TX6) (N := 25) hx hb hts h1_ hown hK hP 0 rfl rfl 17 (by decide) h2_ (fun _ h9 => h9) rfl dX6_tell_27 ?_
        refine lv_iload_n hx hb dX6_tell_30 rfl (lv_at hl 2 rfl) ?_
        obtain ⟨hi8, hV⟩ := hV
        refine va_iald hx hb hK hP 8 0 rfl rfl hi8 dX6_tell_31 ?_
        refine lv_istore_n (lv' := [(2, .int (g_O (x2).toNatClampNeg)), (0, .ref q6), (1, .int x1)]) hx hb dX6_tell_32 rfl hl (by decide) rfl (fun ls hl => ?_)
        refine lv_goto (tgt := 7) hx hb dX6_tell_33 (by decide) ?_
        exact ih g_W (m_rm + (1 : Int32)) x1 (g_O (x2).toNatClampNeg) H locs ls hP hD hS (lv_sub hl [1, 2, 0] rfl) hV hR
  have hl := lv_entry ([.ref q6, .int a0]) (n := 4) (Nat.le_of_ble_eq_true rfl)
  rw [lg_entry_eq]
  generalize (lg_sl ([.ref q6, .int a0]) ++ List.replicate (4 - (lg_sl ([.ref q6, .int a0])).length) Slot.unset).toArray = ls at hl ⊢
  have hl : lv_has ls 4 [(0, .ref q6), (1, .int a0)] := hl
  unfold cf_X6_tell at hR
  unfold vc_X6_tell at hV
  refine mu_start (A := A) (fun H locs hP hS => ?_) hP
  refine lv_aload_n hx hb dX6_tell_0 rfl (lv_at hl 0 rfl) ?_
  refine lv_iconst (v := (0 : Int32)) hx hb dX6_tell_1 (by decide +kernel) ?_
  refine va_put (D := (dC, dI)) (ci := 4) (v := .int (0 : Int32)) (ty := .int) (C := RX6) (T := TX6) (N := 25) hx hb hts h1_ tyX6 tyX6_ok nmX6 hown hK hP hD hS 0 rfl rfl 22 (by decide) h0_ (fun _ h9 => h9) rfl (by decide +kernel) rfl rfl (Nat.le_of_ble_eq_true rfl) dX6_tell_2 (fun H locs hP hD hS => ?_)
  have hP : va_P (dC, dI) kcl (mo_W q6 qA qB qF qR qC qL qS qO qY qH qW qM cyI cyJ cyZ m_th m_o m_f m_r m_b m_a u_F u_R g_F g_R g_C g_L m_rl m_lf m_ov m_pl g_S g_O g_Y g_H m_st g_W (0 : Int32) m_fs g_M) H := hP
  have hD : va_D A (mo_W q6 qA qB qF qR qC qL qS qO qY qH qW qM cyI cyJ cyZ m_th m_o m_f m_r m_b m_a u_F u_R g_F g_R g_C g_L m_rl m_lf m_ov m_pl g_S g_O g_Y g_H m_st g_W (0 : Int32) m_fs g_M) := hD
  refine lv_iload_n hx hb dX6_tell_5 rfl (lv_at hl 1 rfl) ?_
  refine lv_istore_n (lv' := [(2, .int a0), (0, .ref q6), (1, .int a0)]) hx hb dX6_tell_6 rfl hl (by decide) rfl (fun ls hl => ?_)
  exact KL7  fu g_W (0 : Int32) a0 a0 H locs ls hP hD hS (lv_sub hl [1, 2, 0] rfl) hV hR

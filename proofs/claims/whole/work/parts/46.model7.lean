def cf_X6_play_s49  (m_th : Int32) (m_o : Int32) (m_f : Int32) (m_r : Int32) (m_b : Int32) (g_F : Nat → Int32) (g_R : Nat → Int32) (g_C : Nat → Int32) (g_L : Nat → Int32) (m_rl : Int32) (m_lf : Int32) (m_ov : Int32) (m_pl : Int64)  : Int32 × (Nat → Int32) × (Nat → Int32) × (Nat → Int32) × (Nat → Int32) × Int32 × Int32 × Int32 × Int64 × Int32 :=
  (m_th, g_F, g_R, g_C, g_L, m_rl, m_lf, m_ov, (cf_X6_number g_F g_R g_C g_L m_rl m_lf m_ov ), (cf_X6_canDoMany m_o m_f m_r g_R g_C m_rl m_lf m_ov ))
def vc_X6_play_s49  (m_th : Int32) (m_o : Int32) (m_f : Int32) (m_r : Int32) (m_b : Int32) (g_F : Nat → Int32) (g_R : Nat → Int32) (g_C : Nat → Int32) (g_L : Nat → Int32) (m_rl : Int32) (m_lf : Int32) (m_ov : Int32) (m_pl : Int64)  : Prop :=
  (vc_X6_canDoMany m_o m_f m_r g_R g_C m_rl m_lf m_ov  ∧ True)
def cf_X6_play_s36  (m_th : Int32) (m_o : Int32) (m_f : Int32) (m_r : Int32) (m_b : Int32) (g_F : Nat → Int32) (g_R : Nat → Int32) (g_C : Nat → Int32) (g_L : Nat → Int32) (m_rl : Int32) (m_lf : Int32) (m_ov : Int32) (m_pl : Int64) (x1 : Int32) (y0 : Int32) : Int32 × (Nat → Int32) × (Nat → Int32) × (Nat → Int32) × (Nat → Int32) × Int32 × Int32 × Int32 × Int64 × Int32 :=
  (if (cf_X6_fails m_th y0).2 = 0 then cf_X6_play_s49  ((cf_X6_fails m_th y0).1) m_o m_f m_r m_b ((cf_X6_act0 m_o m_f m_r m_b g_F g_R g_C g_L m_rl m_lf m_ov x1).1) ((cf_X6_act0 m_o m_f m_r m_b g_F g_R g_C g_L m_rl m_lf m_ov x1).2.1) ((cf_X6_act0 m_o m_f m_r m_b g_F g_R g_C g_L m_rl m_lf m_ov x1).2.2.1) ((cf_X6_act0 m_o m_f m_r m_b g_F g_R g_C g_L m_rl m_lf m_ov x1).2.2.2.1) ((cf_X6_act0 m_o m_f m_r m_b g_F g_R g_C g_L m_rl m_lf m_ov x1).2.2.2.2.1) ((cf_X6_act0 m_o m_f m_r m_b g_F g_R g_C g_L m_rl m_lf m_ov x1).2.2.2.2.2.1) ((cf_X6_act0 m_o m_f m_r m_b g_F g_R g_C g_L m_rl m_lf m_ov x1).2.2.2.2.2.2) m_pl  else ((cf_X6_fails m_th y0).1, g_F, g_R, g_C, g_L, m_rl, m_lf, m_ov, m_pl, (0 : Int32)))
def vc_X6_play_s36  (m_th : Int32) (m_o : Int32) (m_f : Int32) (m_r : Int32) (m_b : Int32) (g_F : Nat → Int32) (g_R : Nat → Int32) (g_C : Nat → Int32) (g_L : Nat → Int32) (m_rl : Int32) (m_lf : Int32) (m_ov : Int32) (m_pl : Int64) (x1 : Int32) (y0 : Int32) : Prop :=
  (((cf_X6_fails m_th y0).2 = 0 → (vc_X6_act0 m_o m_f m_r m_b g_F g_R g_C g_L m_rl m_lf m_ov x1 ∧ vc_X6_play_s49  ((cf_X6_fails m_th y0).1) m_o m_f m_r m_b ((cf_X6_act0 m_o m_f m_r m_b g_F g_R g_C g_L m_rl m_lf m_ov x1).1) ((cf_X6_act0 m_o m_f m_r m_b g_F g_R g_C g_L m_rl m_lf m_ov x1).2.1) ((cf_X6_act0 m_o m_f m_r m_b g_F g_R g_C g_L m_rl m_lf m_ov x1).2.2.1) ((cf_X6_act0 m_o m_f m_r m_b g_F g_R g_C g_L m_rl m_lf m_ov x1).2.2.2.1) ((cf_X6_act0 m_o m_f m_r m_b g_F g_R g_C g_L m_rl m_lf m_ov x1).2.2.2.2.1) ((cf_X6_act0 m_o m_f m_r m_b g_F g_R g_C g_L m_rl m_lf m_ov x1).2.2.2.2.2.1) ((cf_X6_act0 m_o m_f m_r m_b g_F g_R g_C g_L m_rl m_lf m_ov x1).2.2.2.2.2.2) m_pl )) ∧ (¬ (cf_X6_fails m_th y0).2 = 0 → True))
def cf_X6_play_s19  (m_th : Int32) (m_o : Int32) (m_f : Int32) (m_r : Int32) (m_b : Int32) (g_F : Nat → Int32) (g_R : Nat → Int32) (g_C : Nat → Int32) (g_L : Nat → Int32) (m_rl : Int32) (m_lf : Int32) (m_ov : Int32) (m_pl : Int64) (x1 : Int32) : Int32 × (Nat → Int32) × (Nat → Int32) × (Nat → Int32) × (Nat → Int32) × Int32 × Int32 × Int32 × Int64 × Int32 :=
  cf_X6_play_s36  m_th m_o m_f m_r m_b g_F g_R g_C g_L m_rl m_lf m_ov m_pl x1 (1 : Int32)
def vc_X6_play_s19  (m_th : Int32) (m_o : Int32) (m_f : Int32) (m_r : Int32) (m_b : Int32) (g_F : Nat → Int32) (g_R : Nat → Int32) (g_C : Nat → Int32) (g_L : Nat → Int32) (m_rl : Int32) (m_lf : Int32) (m_ov : Int32) (m_pl : Int64) (x1 : Int32) : Prop :=
  vc_X6_play_s36  m_th m_o m_f m_r m_b g_F g_R g_C g_L m_rl m_lf m_ov m_pl x1 (1 : Int32)
def cf_X6_play_s8  (m_th : Int32) (m_o : Int32) (m_f : Int32) (m_r : Int32) (m_b : Int32) (g_F : Nat → Int32) (g_R : Nat → Int32) (g_C : Nat → Int32) (g_L : Nat → Int32) (m_rl : Int32) (m_lf : Int32) (m_ov : Int32) (m_pl : Int64) (x1 : Int32) : Int32 × (Nat → Int32) × (Nat → Int32) × (Nat → Int32) × (Nat → Int32) × Int32 × Int32 × Int32 × Int64 × Int32 :=
  (if x1 < 0 then cf_X6_play_s19  m_th m_o m_f m_r m_b g_F g_R g_C g_L m_rl m_lf m_ov m_pl x1 else (if x1 < (50 : Int32) then (if (cf_X6_canDo m_o m_f m_r g_R g_C m_rl m_lf m_ov x1) = 0 then cf_X6_play_s36  m_th m_o m_f m_r m_b g_F g_R g_C g_L m_rl m_lf m_ov m_pl x1 (2 : Int32) else cf_X6_play_s36  m_th m_o m_f m_r m_b g_F g_R g_C g_L m_rl m_lf m_ov m_pl x1 (0 : Int32)) else cf_X6_play_s19  m_th m_o m_f m_r m_b g_F g_R g_C g_L m_rl m_lf m_ov m_pl x1))
def vc_X6_play_s8  (m_th : Int32) (m_o : Int32) (m_f : Int32) (m_r : Int32) (m_b : Int32) (g_F : Nat → Int32) (g_R : Nat → Int32) (g_C : Nat → Int32) (g_L : Nat → Int32) (m_rl : Int32) (m_lf : Int32) (m_ov : Int32) (m_pl : Int64) (x1 : Int32) : Prop :=
  ((x1 < 0 → vc_X6_play_s19  m_th m_o m_f m_r m_b g_F g_R g_C g_L m_rl m_lf m_ov m_pl x1) ∧ (¬ x1 < 0 → ((x1 < (50 : Int32) → (vc_X6_canDo m_o m_f m_r g_R g_C m_rl m_lf m_ov x1 ∧ (((cf_X6_canDo m_o m_f m_r g_R g_C m_rl m_lf m_ov x1) = 0 → vc_X6_play_s36  m_th m_o m_f m_r m_b g_F g_R g_C g_L m_rl m_lf m_ov m_pl x1 (2 : Int32)) ∧ (¬ (cf_X6_canDo m_o m_f m_r g_R g_C m_rl m_lf m_ov x1) = 0 → vc_X6_play_s36  m_th m_o m_f m_r m_b g_F g_R g_C g_L m_rl m_lf m_ov m_pl x1 (0 : Int32))))) ∧ (¬ x1 < (50 : Int32) → vc_X6_play_s19  m_th m_o m_f m_r m_b g_F g_R g_C g_L m_rl m_lf m_ov m_pl x1))))
def cf_X6_play (m_th : Int32) (m_o : Int32) (m_f : Int32) (m_r : Int32) (m_b : Int32) (g_F : Nat → Int32) (g_R : Nat → Int32) (g_C : Nat → Int32) (g_L : Nat → Int32) (m_rl : Int32) (m_lf : Int32) (m_ov : Int32) (m_pl : Int64) (a0 : Int32) : Int32 × (Nat → Int32) × (Nat → Int32) × (Nat → Int32) × (Nat → Int32) × Int32 × Int32 × Int32 × Int64 × Int32 :=
  cf_X6_play_s8  m_th m_o m_f m_r m_b ((cf_X6_take g_F g_R g_C g_L m_rl m_lf m_ov m_pl).1) ((cf_X6_take g_F g_R g_C g_L m_rl m_lf m_ov m_pl).2.1) ((cf_X6_take g_F g_R g_C g_L m_rl m_lf m_ov m_pl).2.2.1) ((cf_X6_take g_F g_R g_C g_L m_rl m_lf m_ov m_pl).2.2.2.1) ((cf_X6_take g_F g_R g_C g_L m_rl m_lf m_ov m_pl).2.2.2.2.1) ((cf_X6_take g_F g_R g_C g_L m_rl m_lf m_ov m_pl).2.2.2.2.2.1) ((cf_X6_take g_F g_R g_C g_L m_rl m_lf m_ov m_pl).2.2.2.2.2.2) m_pl a0
def vc_X6_play (m_th : Int32) (m_o : Int32) (m_f : Int32) (m_r : Int32) (m_b : Int32) (g_F : Nat → Int32) (g_R : Nat → Int32) (g_C : Nat → Int32) (g_L : Nat → Int32) (m_rl : Int32) (m_lf : Int32) (m_ov : Int32) (m_pl : Int64) (a0 : Int32) : Prop :=
  vc_X6_play_s8  m_th m_o m_f m_r m_b ((cf_X6_take g_F g_R g_C g_L m_rl m_lf m_ov m_pl).1) ((cf_X6_take g_F g_R g_C g_L m_rl m_lf m_ov m_pl).2.1) ((cf_X6_take g_F g_R g_C g_L m_rl m_lf m_ov m_pl).2.2.1) ((cf_X6_take g_F g_R g_C g_L m_rl m_lf m_ov m_pl).2.2.2.1) ((cf_X6_take g_F g_R g_C g_L m_rl m_lf m_ov m_pl).2.2.2.2.1) ((cf_X6_take g_F g_R g_C g_L m_rl m_lf m_ov m_pl).2.2.2.2.2.1) ((cf_X6_take g_F g_R g_C g_L m_rl m_lf m_ov m_pl).2.2.2.2.2.2) m_pl a0
set_option maxHeartbeats 4000000 in
set_option maxRecDepth 100000 in
theorem c_X6_play (l : Launch) (dC : Nat → ClassId) (dI : Nat → Nat → Nat) (q6 qA qB qF qR qC qL qS qO qY qH qW qM : Nat) (cyI cyJ cyZ : ClassId) (m_th : Int32) (m_o : Int32) (m_f : Int32) (m_r : Int32) (m_b : Int32) (m_a : Int32) (u_F : Nat → Int32) (u_R : Nat → Int32) (g_F : Nat → Int32) (g_R : Nat → Int32) (g_C : Nat → Int32) (g_L : Nat → Int32) (m_rl : Int32) (m_lf : Int32) (m_ov : Int32) (m_pl : Int64) (g_S : Nat → Int64) (g_O : Nat → Int32) (g_Y : Nat → Int32) (g_H : Nat → Int32) (m_st : Int32) (g_W : Nat → Int32) (m_rm : Int32) (m_fs : Int32) (g_M : Nat → Int32) (sz : Nat) (a0 : Int32) (hm_o : m_o ≤ 4) (hm_r : m_r ≤ 3) (hV : vc_X6_play m_th m_o m_f m_r m_b g_F g_R g_C g_L m_rl m_lf m_ov m_pl a0) : Met l yX6_play wsX6_play ({ frames := 3, cells := 0, slots := 0, locals := 68 }) (mu_P [.ref q6, .int a0] sz (dC, dI) kcl (mo_W q6 qA qB qF qR qC qL qS qO qY qH qW qM cyI cyJ cyZ m_th m_o m_f m_r m_b m_a u_F u_R g_F g_R g_C g_L m_rl m_lf m_ov m_pl g_S g_O g_Y g_H m_st g_W m_rm m_fs g_M) [(cyI, .int), (cyJ, .long), (cyZ, .boolean)]) (mu_Q (some (.int ((cf_X6_play m_th m_o m_f m_r m_b g_F g_R g_C g_L m_rl m_lf m_ov m_pl a0).2.2.2.2.2.2.2.2.2))) (dC, dI) kcl (mo_W q6 qA qB qF qR qC qL qS qO qY qH qW qM cyI cyJ cyZ ((cf_X6_play m_th m_o m_f m_r m_b g_F g_R g_C g_L m_rl m_lf m_ov m_pl a0).1) m_o m_f m_r m_b m_a u_F u_R ((cf_X6_play m_th m_o m_f m_r m_b g_F g_R g_C g_L m_rl m_lf m_ov m_pl a0).2.1) ((cf_X6_play m_th m_o m_f m_r m_b g_F g_R g_C g_L m_rl m_lf m_ov m_pl a0).2.2.1) ((cf_X6_play m_th m_o m_f m_r m_b g_F g_R g_C g_L m_rl m_lf m_ov m_pl a0).2.2.2.1) ((cf_X6_play m_th m_o m_f m_r m_b g_F g_R g_C g_L m_rl m_lf m_ov m_pl a0).2.2.2.2.1) ((cf_X6_play m_th m_o m_f m_r m_b g_F g_R g_C g_L m_rl m_lf m_ov m_pl a0).2.2.2.2.2.1) ((cf_X6_play m_th m_o m_f m_r m_b g_F g_R g_C g_L m_rl m_lf m_ov m_pl a0).2.2.2.2.2.2.1) ((cf_X6_play m_th m_o m_f m_r m_b g_F g_R g_C g_L m_rl m_lf m_ov m_pl a0).2.2.2.2.2.2.2.1) ((cf_X6_play m_th m_o m_f m_r m_b g_F g_R g_C g_L m_rl m_lf m_ov m_pl a0).2.2.2.2.2.2.2.2.1) g_S g_O g_Y g_H m_st g_W m_rm m_fs g_M) (va_A (mo_W q6 qA qB qF qR qC qL qS qO qY qH qW qM cyI cyJ cyZ m_th m_o m_f m_r m_b m_a u_F u_R g_F g_R g_C g_L m_rl m_lf m_ov m_pl g_S g_O g_Y g_H m_st g_W m_rm m_fs g_M) sz)) 0 0 (va_A (mo_W q6 qA qB qF qR qC qL qS qO qY qH qW qM cyI cyJ cyZ m_th m_o m_f m_r m_b m_a u_F u_R g_F g_R g_C g_L m_rl m_lf m_ov m_pl g_S g_O g_Y g_H m_st g_W m_rm m_fs g_M) sz) := by
  refine Met.ofW (cc := cX6_play) (maxL := 2) (ret := (some .int)) (by decide) rfl ?_
  intro p e s m args below meth c s₁ B hml hv
  obtain ⟨rfl, hsz, hP, hK, hD0⟩ := hv
  have hx := B.exec
  have hb := B.bytes
  have hr := B.returns
  have hts := atoms_spec (ws := wsX6_play) B.pre
  have hown : s.vm.findClass RX6 = some m.cls := findClass_of_methodNamed B.named
  have hlocks := B.notSynchronized
  subst hsz
  have hD := hD0.self (sz := s.heap.size)
  generalize hAe : va_A (mo_W q6 qA qB qF qR qC qL qS qO qY qH qW qM cyI cyJ cyZ m_th m_o m_f m_r m_b m_a u_F u_R g_F g_R g_C g_L m_rl m_lf m_ov m_pl g_S g_O g_Y g_H m_st g_W m_rm m_fs g_M) s.heap.size = A at hD ⊢
  have hA : ∀ q : Nat, s.heap.size ≤ q → A q := fun q h => by rw [← hAe]; exact Or.inr h
  have hP : va_P (dC, dI) kcl (mo_W q6 qA qB qF qR qC qL qS qO qY qH qW qM cyI cyJ cyZ m_th m_o m_f m_r m_b m_a u_F u_R g_F g_R g_C g_L m_rl m_lf m_ov m_pl g_S g_O g_Y g_H m_st g_W m_rm m_fs g_M) s.heap := hP
  have h0_ : (Cond.fieldLink RX6 66 "ColourTrierModel" "played" "J").before _ s = true := hts _ (by decide +kernel)
  have h1_ : ∀ w ∈ u_ws RX6 TX6 25, w ∈ wsX6_play := fun w h => List.mem_cons_of_mem _ (List.mem_append_right _ h)
  generalize hR : (cf_X6_play m_th m_o m_f m_r m_b g_F g_R g_C g_L m_rl m_lf m_ov m_pl a0) = R
  have Ks49 : ∀  (m_th : Int32) (g_F : Nat → Int32) (g_R : Nat → Int32) (g_C : Nat → Int32) (g_L : Nat → Int32) (m_rl : Int32) (m_lf : Int32) (m_ov : Int32) (m_pl : Int64)  (H : Heap) (locs : List Loc) (ls : Array Slot), va_P (dC, dI) kcl (mo_W q6 qA qB qF qR qC qL qS qO qY qH qW qM cyI cyJ cyZ m_th m_o m_f m_r m_b m_a u_F u_R g_F g_R g_C g_L m_rl m_lf m_ov m_pl g_S g_O g_Y g_H m_st g_W m_rm m_fs g_M) H → va_D A (mo_W q6 qA qB qF qR qC qL qS qO qY qH qW qM cyI cyJ cyZ m_th m_o m_f m_r m_b m_a u_F u_R g_F g_R g_C g_L m_rl m_lf m_ov m_pl g_S g_O g_Y g_H m_st g_W m_rm m_fs g_M) → va_S A s.heap H locs → lv_has ls 2 [(0, .ref q6)] → vc_X6_play_s49  m_th m_o m_f m_r m_b g_F g_R g_C g_L m_rl m_lf m_ov m_pl  → cf_X6_play_s49  m_th m_o m_f m_r m_b g_F g_R g_C g_L m_rl m_lf m_ov m_pl  = R → W p l e (headSpec wsX6_play ({ frames := 3, cells := 0, slots := 0, locals := 68 })).room s m ([.ref q6, .int a0] : List Value).toArray below meth c H locs 0 0 (MQ below (mu_Q (some (.int R.2.2.2.2.2.2.2.2.2)) (dC, dI) kcl (mo_W q6 qA qB qF qR qC qL qS qO qY qH qW qM cyI cyJ cyZ R.1 m_o m_f m_r m_b m_a u_F u_R R.2.1 R.2.2.1 R.2.2.2.1 R.2.2.2.2.1 R.2.2.2.2.2.1 R.2.2.2.2.2.2.1 R.2.2.2.2.2.2.2.1 R.2.2.2.2.2.2.2.2.1 g_S g_O g_Y g_H m_st g_W m_rm m_fs g_M) A) ([.ref q6, .int a0] : List Value).toArray s 0 0 A) (F0 m 49 ls []) := by
    intro  m_th g_F g_R g_C g_L m_rl m_lf m_ov m_pl  H locs ls hP hD hS hl hV hR
    unfold cf_X6_play_s49 at hR
    unfold vc_X6_play_s49 at hV
    refine lv_aload_n hx hb dX6_play_49 rfl (lv_at hl 0 rfl) ?_
    refine lv_aload_n hx hb dX6_play_50 rfl (lv_at hl 0 rfl) ?_
    refine rd_calll (va_runV (As := []) (rest := [.ref q6]) ⟨hx, hb, hml, hown, hts⟩ (c_X6_number l dC dI q6 qA qB qF qR qC qL qS qO qY qH qW qM cyI cyJ cyZ m_th m_o m_f m_r m_b m_a u_F u_R g_F g_R g_C g_L m_rl m_lf m_ov m_pl g_S g_O g_Y g_H m_st g_W m_rm m_fs g_M   ) (cwV 0 hts gX6_play_X6_number rfl rfl rfl (by decide +kernel) ⟨Nat.le_of_ble_eq_true rfl, Nat.le_of_ble_eq_true rfl⟩) ⟨rd_blind, va_recv hK hP (ci := 4) (q0 := 0) rfl rfl, fun U hU hW => ⟨rfl, by rw [hU]; exact hP, va_K.moved hW.alike (hK.sub [0, 1, 2] rfl)⟩⟩ rfl rfl hl.1 rfl (lv_room (Nat.le_of_ble_eq_true rfl)) dX6_play_51 ⟨Nat.le_refl _, Nat.le_refl _⟩) ?_
    refine va_put (D := (dC, dI)) (ci := 4) (v := .long (cf_X6_number g_F g_R g_C g_L m_rl m_lf m_ov )) (ty := .long) (C := RX6) (T := TX6) (N := 25) hx hb hts h1_ tyX6 tyX6_ok nmX6 hown hK hP hD hS 0 rfl rfl 15 (by decide) h0_ (fun _ h9 => h9) rfl (by decide +kernel) rfl rfl (Nat.le_of_ble_eq_true rfl) dX6_play_54 (fun H locs hP hD hS => ?_)
    have hP : va_P (dC, dI) kcl (mo_W q6 qA qB qF qR qC qL qS qO qY qH qW qM cyI cyJ cyZ m_th m_o m_f m_r m_b m_a u_F u_R g_F g_R g_C g_L m_rl m_lf m_ov (cf_X6_number g_F g_R g_C g_L m_rl m_lf m_ov ) g_S g_O g_Y g_H m_st g_W m_rm m_fs g_M) H := hP
    have hD : va_D A (mo_W q6 qA qB qF qR qC qL qS qO qY qH qW qM cyI cyJ cyZ m_th m_o m_f m_r m_b m_a u_F u_R g_F g_R g_C g_L m_rl m_lf m_ov (cf_X6_number g_F g_R g_C g_L m_rl m_lf m_ov ) g_S g_O g_Y g_H m_st g_W m_rm m_fs g_M) := hD
    refine lv_aload_n hx hb dX6_play_57 rfl (lv_at hl 0 rfl) ?_
    obtain ⟨hv4, hV⟩ := hV
    refine rd_calli (va_runV (As := []) (rest := []) ⟨hx, hb, hml, hown, hts⟩ (c_X6_canDoMany l dC dI q6 qA qB qF qR qC qL qS qO qY qH qW qM cyI cyJ cyZ m_th m_o m_f m_r m_b m_a u_F u_R g_F g_R g_C g_L m_rl m_lf m_ov (cf_X6_number g_F g_R g_C g_L m_rl m_lf m_ov ) g_S g_O g_Y g_H m_st g_W m_rm m_fs g_M  hm_o hv4) (cwV 0 hts gX6_play_X6_canDoMany rfl rfl rfl (by decide +kernel) ⟨Nat.le_of_ble_eq_true rfl, Nat.le_of_ble_eq_true rfl⟩) ⟨rd_blind, va_recv hK hP (ci := 4) (q0 := 0) rfl rfl, fun U hU hW => ⟨rfl, by rw [hU]; exact hP, va_K.moved hW.alike (hK.sub [0, 1, 2] rfl)⟩⟩ rfl rfl hl.1 rfl (lv_room (Nat.le_of_ble_eq_true rfl)) dX6_play_58 ⟨Nat.le_refl _, Nat.le_refl _⟩) ?_
    rw [← hR]
    exact W.iret (v := (cf_X6_canDoMany m_o m_f m_r g_R g_C m_rl m_lf m_ov )) hx hb hr (fun t ht _ => ⟨rfl, by rw [ht]; exact hP, hS.F ht⟩) hS.2.2 dX6_play_61
  have Ks36 : ∀  (m_th : Int32) (g_F : Nat → Int32) (g_R : Nat → Int32) (g_C : Nat → Int32) (g_L : Nat → Int32) (m_rl : Int32) (m_lf : Int32) (m_ov : Int32) (m_pl : Int64) (x1 : Int32) (y0 : Int32) (H : Heap) (locs : List Loc) (ls : Array Slot), va_P (dC, dI) kcl (mo_W q6 qA qB qF qR qC qL qS qO qY qH qW qM cyI cyJ cyZ m_th m_o m_f m_r m_b m_a u_F u_R g_F g_R g_C g_L m_rl m_lf m_ov m_pl g_S g_O g_Y g_H m_st g_W m_rm m_fs g_M) H → va_D A (mo_W q6 qA qB qF qR qC qL qS qO qY qH qW qM cyI cyJ cyZ m_th m_o m_f m_r m_b m_a u_F u_R g_F g_R g_C g_L m_rl m_lf m_ov m_pl g_S g_O g_Y g_H m_st g_W m_rm m_fs g_M) → va_S A s.heap H locs → lv_has ls 2 [(0, .ref q6), (1, .int x1)] → vc_X6_play_s36  m_th m_o m_f m_r m_b g_F g_R g_C g_L m_rl m_lf m_ov m_pl x1 y0 → cf_X6_play_s36  m_th m_o m_f m_r m_b g_F g_R g_C g_L m_rl m_lf m_ov m_pl x1 y0 = R → W p l e (headSpec wsX6_play ({ frames := 3, cells := 0, slots := 0, locals := 68 })).room s m ([.ref q6, .int a0] : List Value).toArray below meth c H locs 0 0 (MQ below (mu_Q (some (.int R.2.2.2.2.2.2.2.2.2)) (dC, dI) kcl (mo_W q6 qA qB qF qR qC qL qS qO qY qH qW qM cyI cyJ cyZ R.1 m_o m_f m_r m_b m_a u_F u_R R.2.1 R.2.2.1 R.2.2.2.1 R.2.2.2.2.1 R.2.2.2.2.2.1 R.2.2.2.2.2.2.1 R.2.2.2.2.2.2.2.1 R.2.2.2.2.2.2.2.2.1 g_S g_O g_Y g_H m_st g_W m_rm m_fs g_M) A) ([.ref q6, .int a0] : List Value).toArray s 0 0 A) (F0 m 36 ls [.int y0, .ref q6]) := by
    intro  m_th g_F g_R g_C g_L m_rl m_lf m_ov m_pl x1 y0 H locs ls hP hD hS hl hV hR
    unfold cf_X6_play_s36 at hR
    unfold vc_X6_play_s36 at hV
    refine mu_call (ws' := (mo_W q6 qA qB qF qR qC qL qS qO qY qH qW qM cyI cyJ cyZ ((cf_X6_fails m_th y0).1) m_o m_f m_r m_b m_a u_F u_R g_F g_R g_C g_L m_rl m_lf m_ov m_pl g_S g_O g_Y g_H m_st g_W m_rm m_fs g_M)) (wr := []) (va_runV (As := [.int y0]) (rest := []) ⟨hx, hb, hml, hown, hts⟩ (c_X6_fails l dC dI q6 qA qB qF qR qC qL qS qO qY qH qW qM cyI cyJ cyZ m_th m_o m_f m_r m_b m_a u_F u_R g_F g_R g_C g_L m_rl m_lf m_ov m_pl g_S g_O g_Y g_H m_st g_W m_rm m_fs g_M H.size y0  ) (cwV 1 hts gX6_play_X6_fails rfl rfl rfl (by decide +kernel) ⟨Nat.le_of_ble_eq_true rfl, Nat.le_of_ble_eq_true rfl⟩) ⟨mu_blind, va_recv hK hP (ci := 4) (q0 := 0) rfl rfl, fun U hU hW => ⟨rfl, by rw [hU], by rw [hU]; exact hP, va_K.moved hW.alike (hK.sub [0, 1, 2] rfl), hD.weaken (fun _ _ _ _ => trivial)⟩⟩ rfl rfl hl.1 rfl (lv_room (Nat.le_of_ble_eq_true rfl)) dX6_play_36 ⟨Nat.le_refl _, Nat.le_refl _⟩) hP hD hS hA [0, 1, 2, 3, 4, 5, 6, 7, 8, 9, 10, 11, 12] [] [0, 1, 2, 3, 4, 5, 6, 7, 8, 9, 10, 11, 12] rfl rfl (by decide) (by decide) (by decide) rfl (by decide) rfl (fun H locs hP hD hS => ?_)
    refine W.eq (g2 := F0 m 39 ls [.int ((cf_X6_fails m_th y0).2)]) rfl ?_
    refine lv_if_eq (tgt := 44) hx hb dX6_play_39 (by decide) (fun c_2 => ?_) (fun c_2 => ?_)
    · rw [if_pos c_2] at hR
      have hV := hV.1 c_2
      refine lv_aload_n hx hb dX6_play_44 rfl (lv_at hl 0 rfl) ?_
      refine lv_iload_n hx hb dX6_play_45 rfl (lv_at hl 1 rfl) ?_
      obtain ⟨hv3, hV⟩ := hV
      refine mu_call (ws' := (mo_W q6 qA qB qF qR qC qL qS qO qY qH qW qM cyI cyJ cyZ ((cf_X6_fails m_th y0).1) m_o m_f m_r m_b m_a u_F u_R ((cf_X6_act0 m_o m_f m_r m_b g_F g_R g_C g_L m_rl m_lf m_ov x1).1) ((cf_X6_act0 m_o m_f m_r m_b g_F g_R g_C g_L m_rl m_lf m_ov x1).2.1) ((cf_X6_act0 m_o m_f m_r m_b g_F g_R g_C g_L m_rl m_lf m_ov x1).2.2.1) ((cf_X6_act0 m_o m_f m_r m_b g_F g_R g_C g_L m_rl m_lf m_ov x1).2.2.2.1) ((cf_X6_act0 m_o m_f m_r m_b g_F g_R g_C g_L m_rl m_lf m_ov x1).2.2.2.2.1) ((cf_X6_act0 m_o m_f m_r m_b g_F g_R g_C g_L m_rl m_lf m_ov x1).2.2.2.2.2.1) ((cf_X6_act0 m_o m_f m_r m_b g_F g_R g_C g_L m_rl m_lf m_ov x1).2.2.2.2.2.2) m_pl g_S g_O g_Y g_H m_st g_W m_rm m_fs g_M)) (wr := []) (va_runV (As := [.int x1]) (rest := []) ⟨hx, hb, hml, hown, hts⟩ (c_X6_act0 l dC dI q6 qA qB qF qR qC qL qS qO qY qH qW qM cyI cyJ cyZ ((cf_X6_fails m_th y0).1) m_o m_f m_r m_b m_a u_F u_R g_F g_R g_C g_L m_rl m_lf m_ov m_pl g_S g_O g_Y g_H m_st g_W m_rm m_fs g_M H.size x1 hm_o hm_r hv3) (cwV 1 hts gX6_play_X6_act0 rfl rfl rfl (by decide +kernel) ⟨Nat.le_of_ble_eq_true rfl, Nat.le_of_ble_eq_true rfl⟩) ⟨mu_blind, va_recv hK hP (ci := 4) (q0 := 0) rfl rfl, fun U hU hW => ⟨rfl, by rw [hU], by rw [hU]; exact hP, va_K.moved hW.alike (hK.sub [0, 1, 2] rfl), hD.weaken (fun _ _ _ _ => trivial)⟩⟩ rfl rfl hl.1 rfl (lv_room (Nat.le_of_ble_eq_true rfl)) dX6_play_46 ⟨Nat.le_refl _, Nat.le_refl _⟩) hP hD hS hA [0, 1, 2, 3, 4, 5, 6, 7, 8, 9, 10, 11, 12] [] [0, 1, 2, 3, 4, 5, 6, 7, 8, 9, 10, 11, 12] rfl rfl (by decide) (by decide) (by decide) rfl (by decide) rfl (fun H locs hP hD hS => ?_)
      refine W.eq (g2 := F0 m 49 ls []) rfl ?_
      exact Ks49  ((cf_X6_fails m_th y0).1) ((cf_X6_act0 m_o m_f m_r m_b g_F g_R g_C g_L m_rl m_lf m_ov x1).1) ((cf_X6_act0 m_o m_f m_r m_b g_F g_R g_C g_L m_rl m_lf m_ov x1).2.1) ((cf_X6_act0 m_o m_f m_r m_b g_F g_R g_C g_L m_rl m_lf m_ov x1).2.2.1) ((cf_X6_act0 m_o m_f m_r m_b g_F g_R g_C g_L m_rl m_lf m_ov x1).2.2.2.1) ((cf_X6_act0 m_o m_f m_r m_b g_F g_R g_C g_L m_rl m_lf m_ov x1).2.2.2.2.1) ((cf_X6_act0 m_o m_f m_r m_b g_F g_R g_C g_L m_rl m_lf m_ov x1).2.2.2.2.2.1) ((cf_X6_act0 m_o m_f m_r m_b g_F g_R g_C g_L m_rl m_lf m_ov x1).2.2.2.2.2.2) m_pl  H locs ls hP hD hS (lv_sub hl [0] rfl) hV hR
    · rw [if_neg c_2] at hR
      refine lv_iconst (v := (0 : Int32)) hx hb dX6_play_42 (by decide +kernel) ?_
      rw [← hR]
      exact W.iret (v := (0 : Int32)) hx hb hr (fun t ht _ => ⟨rfl, by rw [ht]; exact hP, hS.F ht⟩) hS.2.2 dX6_play_43
  have Ks19 : ∀  (m_th : Int32) (g_F : Nat → Int32) (g_R : Nat → Int32) (g_C : Nat → Int32) (g_L : Nat → Int32) (m_rl : Int32) (m_lf : Int32) (m_ov : Int32) (m_pl : Int64) (x1 : Int32) (H : Heap) (locs : List Loc) (ls : Array Slot), va_P (dC, dI) kcl (mo_W q6 qA qB qF qR qC qL qS qO qY qH qW qM cyI cyJ cyZ m_th m_o m_f m_r m_b m_a u_F u_R g_F g_R g_C g_L m_rl m_lf m_ov m_pl g_S g_O g_Y g_H m_st g_W m_rm m_fs g_M) H → va_D A (mo_W q6 qA qB qF qR qC qL qS qO qY qH qW qM cyI cyJ cyZ m_th m_o m_f m_r m_b m_a u_F u_R g_F g_R g_C g_L m_rl m_lf m_ov m_pl g_S g_O g_Y g_H m_st g_W m_rm m_fs g_M) → va_S A s.heap H locs → lv_has ls 2 [(0, .ref q6), (1, .int x1)] → vc_X6_play_s19  m_th m_o m_f m_r m_b g_F g_R g_C g_L m_rl m_lf m_ov m_pl x1 → cf_X6_play_s19  m_th m_o m_f m_r m_b g_F g_R g_C g_L m_rl m_lf m_ov m_pl x1 = R → W p l e (headSpec wsX6_play ({ frames := 3, cells := 0, slots := 0, locals := 68 })).room s m ([.ref q6, .int a0] : List Value).toArray below meth c H locs 0 0 (MQ below (mu_Q (some (.int R.2.2.2.2.2.2.2.2.2)) (dC, dI) kcl (mo_W q6 qA qB qF qR qC qL qS qO qY qH qW qM cyI cyJ cyZ R.1 m_o m_f m_r m_b m_a u_F u_R R.2.1 R.2.2.1 R.2.2.2.1 R.2.2.2.2.1 R.2.2.2.2.2.1 R.2.2.2.2.2.2.1 R.2.2.2.2.2.2.2.1 R.2.2.2.2.2.2.2.2.1 g_S g_O g_Y g_H m_st g_W m_rm m_fs g_M) A) ([.ref q6, .int a0] : List Value).toArray s 0 0 A) (F0 m 19 ls [.ref q6]) := by
    intro  m_th g_F g_R g_C g_L m_rl m_lf m_ov m_pl x1 H locs ls hP hD hS hl hV hR
    unfold cf_X6_play_s19 at hR
    unfold vc_X6_play_s19 at hV
    refine lv_iconst (v := (1 : Int32)) hx hb dX6_play_19 (by decide +kernel) ?_
    refine lv_goto (tgt := 36) hx hb dX6_play_20 (by decide) ?_
    exact Ks36  m_th g_F g_R g_C g_L m_rl m_lf m_ov m_pl x1 (1 : Int32) H locs ls hP hD hS (lv_sub hl [0, 1] rfl) hV hR
  have Ks8 : ∀  (m_th : Int32) (g_F : Nat → Int32) (g_R : Nat → Int32) (g_C : Nat → Int32) (g_L : Nat → Int32) (m_rl : Int32) (m_lf : Int32) (m_ov : Int32) (m_pl : Int64) (x1 : Int32) (H : Heap) (locs : List Loc) (ls : Array Slot), va_P (dC, dI) kcl (mo_W q6 qA qB qF qR qC qL qS qO qY qH qW qM cyI cyJ cyZ m_th m_o m_f m_r m_b m_a u_F u_R g_F g_R g_C g_L m_rl m_lf m_ov m_pl g_S g_O g_Y g_H m_st g_W m_rm m_fs g_M) H → va_D A (mo_W q6 qA qB qF qR qC qL qS qO qY qH qW qM cyI cyJ cyZ m_th m_o m_f m_r m_b m_a u_F u_R g_F g_R g_C g_L m_rl m_lf m_ov m_pl g_S g_O g_Y g_H m_st g_W m_rm m_fs g_M) → va_S A s.heap H locs → lv_has ls 2 [(0, .ref q6), (1, .int x1)] → vc_X6_play_s8  m_th m_o m_f m_r m_b g_F g_R g_C g_L m_rl m_lf m_ov m_pl x1 → cf_X6_play_s8  m_th m_o m_f m_r m_b g_F g_R g_C g_L m_rl m_lf m_ov m_pl x1 = R → W p l e (headSpec wsX6_play ({ frames := 3, cells := 0, slots := 0, locals := 68 })).room s m ([.ref q6, .int a0] : List Value).toArray below meth c H locs 0 0 (MQ below (mu_Q (some (.int R.2.2.2.2.2.2.2.2.2)) (dC, dI) kcl (mo_W q6 qA qB qF qR qC qL qS qO qY qH qW qM cyI cyJ cyZ R.1 m_o m_f m_r m_b m_a u_F u_R R.2.1 R.2.2.1 R.2.2.2.1 R.2.2.2.2.1 R.2.2.2.2.2.1 R.2.2.2.2.2.2.1 R.2.2.2.2.2.2.2.1 R.2.2.2.2.2.2.2.2.1 g_S g_O g_Y g_H m_st g_W m_rm m_fs g_M) A) ([.ref q6, .int a0] : List Value).toArray s 0 0 A) (F0 m 8 ls []) := by
    intro  m_th g_F g_R g_C g_L m_rl m_lf m_ov m_pl x1 H locs ls hP hD hS hl hV hR
    unfold cf_X6_play_s8 at hR
    unfold vc_X6_play_s8 at hV
    refine lv_aload_n hx hb dX6_play_8 rfl (lv_at hl 0 rfl) ?_
    refine lv_iload_n hx hb dX6_play_9 rfl (lv_at hl 1 rfl) ?_
    refine lv_if_lt (tgt := 19) hx hb dX6_play_10 (by decide) (fun c_1 => ?_) (fun c_1 => ?_)
    · rw [if_pos c_1] at hR
      have hV := hV.1 c_1
      exact Ks19  m_th g_F g_R g_C g_L m_rl m_lf m_ov m_pl x1 H locs ls hP hD hS (lv_sub hl [0, 1] rfl) hV hR
    · rw [if_neg c_1] at hR
      have hV := hV.2 c_1
      refine lv_iload_n hx hb dX6_play_13 rfl (lv_at hl 1 rfl) ?_
      refine lv_bipush (v := (50 : Int32)) hx hb dX6_play_14 (by decide +kernel) ?_
      refine lv_icmp_lt (tgt := 23) hx hb dX6_play_16 (by decide) (fun c_5 => ?_) (fun c_5 => ?_)
      · rw [if_pos c_5] at hR
        have hV := hV.1 c_5
        refine lv_aload_n hx hb dX6_play_23 rfl (lv_at hl 0 rfl) ?_
        refine lv_iload_n hx hb dX6_play_24 rfl (lv_at hl 1 rfl) ?_
        obtain ⟨hv6, hV⟩ := hV
        refine rd_calli (va_runV (As := [.int x1]) (rest := [.ref q6]) ⟨hx, hb, hml, hown, hts⟩ (c_X6_canDo l dC dI q6 qA qB qF qR qC qL qS qO qY qH qW qM cyI cyJ cyZ m_th m_o m_f m_r m_b m_a u_F u_R g_F g_R g_C g_L m_rl m_lf m_ov m_pl g_S g_O g_Y g_H m_st g_W m_rm m_fs g_M x1 hm_o hv6) (cwV 1 hts gX6_play_X6_canDo rfl rfl rfl (by decide +kernel) ⟨Nat.le_of_ble_eq_true rfl, Nat.le_of_ble_eq_true rfl⟩) ⟨rd_blind, va_recv hK hP (ci := 4) (q0 := 0) rfl rfl, fun U hU hW => ⟨rfl, by rw [hU]; exact hP, va_K.moved hW.alike (hK.sub [0, 1, 2] rfl)⟩⟩ rfl rfl hl.1 rfl (lv_room (Nat.le_of_ble_eq_true rfl)) dX6_play_25 ⟨Nat.le_refl _, Nat.le_refl _⟩) ?_
        refine lv_if_ne (tgt := 35) hx hb dX6_play_28 (by decide) (fun c_7 => ?_) (fun c_7 => ?_)
        · rw [if_neg c_7] at hR
          have hV := hV.2 c_7
          refine lv_iconst (v := (0 : Int32)) hx hb dX6_play_35 (by decide +kernel) ?_
          exact Ks36  m_th g_F g_R g_C g_L m_rl m_lf m_ov m_pl x1 (0 : Int32) H locs ls hP hD hS (lv_sub hl [0, 1] rfl) hV hR
        · rw [if_pos c_7] at hR
          have hV := hV.1 c_7
          refine lv_iconst (v := (2 : Int32)) hx hb dX6_play_31 (by decide +kernel) ?_
          refine lv_goto (tgt := 36) hx hb dX6_play_32 (by decide) ?_
          exact Ks36  m_th g_F g_R g_C g_L m_rl m_lf m_ov m_pl x1 (2 : Int32) H locs ls hP hD hS (lv_sub hl [0, 1] rfl) hV hR
      · rw [if_neg c_5] at hR
        have hV := hV.2 c_5
        exact Ks19  m_th g_F g_R g_C g_L m_rl m_lf m_ov m_pl x1 H locs ls hP hD hS (lv_sub hl [0, 1] rfl) hV hR
  have hl := lv_entry ([.ref q6, .int a0]) (n := 2) (Nat.le_of_ble_eq_true rfl)
  rw [lg_entry_eq]
  generalize (lg_sl ([.ref q6, .int a0]) ++ List.replicate (2 - (lg_sl ([.ref q6, .int a0])).length) Slot.unset).toArray = ls at hl ⊢
  have hl : lv_has ls 2 [(0, .ref q6), (1, .int a0)] := hl
  unfold cf_X6_play at hR
  unfold vc_X6_play at hV
  refine mu_start (A := A) (fun H locs hP hS => ?_) hP
  refine lv_aload_n hx hb dX6_play_0 rfl (lv_at hl 0 rfl) ?_
  refine lv_aload_n hx hb dX6_play_1 rfl (lv_at hl 0 rfl) ?_
  refine va_get (D := (dC, dI)) (ci := 4) (v := .long m_pl) (C := RX6) (T := TX6) (N := 25) hx hb hts h1_ hown hK hP 0 rfl rfl 15 (by decide) h0_ (fun _ h9 => h9) rfl dX6_play_2 ?_
  refine mu_call (ws' := (mo_W q6 qA qB qF qR qC qL qS qO qY qH qW qM cyI cyJ cyZ m_th m_o m_f m_r m_b m_a u_F u_R ((cf_X6_take g_F g_R g_C g_L m_rl m_lf m_ov m_pl).1) ((cf_X6_take g_F g_R g_C g_L m_rl m_lf m_ov m_pl).2.1) ((cf_X6_take g_F g_R g_C g_L m_rl m_lf m_ov m_pl).2.2.1) ((cf_X6_take g_F g_R g_C g_L m_rl m_lf m_ov m_pl).2.2.2.1) ((cf_X6_take g_F g_R g_C g_L m_rl m_lf m_ov m_pl).2.2.2.2.1) ((cf_X6_take g_F g_R g_C g_L m_rl m_lf m_ov m_pl).2.2.2.2.2.1) ((cf_X6_take g_F g_R g_C g_L m_rl m_lf m_ov m_pl).2.2.2.2.2.2) m_pl g_S g_O g_Y g_H m_st g_W m_rm m_fs g_M)) (wr := []) (va_runV (As := [.long m_pl]) (rest := []) ⟨hx, hb, hml, hown, hts⟩ (c_X6_take l dC dI q6 qA qB qF qR qC qL qS qO qY qH qW qM cyI cyJ cyZ m_th m_o m_f m_r m_b m_a u_F u_R g_F g_R g_C g_L m_rl m_lf m_ov m_pl g_S g_O g_Y g_H m_st g_W m_rm m_fs g_M H.size m_pl  ) (cwV 1 hts gX6_play_X6_take rfl rfl rfl (by decide +kernel) ⟨Nat.le_of_ble_eq_true rfl, Nat.le_of_ble_eq_true rfl⟩) ⟨mu_blind, va_recv hK hP (ci := 4) (q0 := 0) rfl rfl, fun U hU hW => ⟨rfl, by rw [hU], by rw [hU]; exact hP, va_K.moved hW.alike (hK.sub [0, 1, 2] rfl), hD.weaken (fun _ _ _ _ => trivial)⟩⟩ rfl rfl hl.1 rfl (lv_room (Nat.le_of_ble_eq_true rfl)) dX6_play_5 ⟨Nat.le_refl _, Nat.le_refl _⟩) hP hD hS hA [0, 1, 2, 3, 4, 5, 6, 7, 8, 9, 10, 11, 12] [] [0, 1, 2, 3, 4, 5, 6, 7, 8, 9, 10, 11, 12] rfl rfl (by decide) (by decide) (by decide) rfl (by decide) rfl (fun H locs hP hD hS => ?_)
  refine W.eq (g2 := F0 m 8 ls []) rfl ?_
  exact Ks8  m_th ((cf_X6_take g_F g_R g_C g_L m_rl m_lf m_ov m_pl).1) ((cf_X6_take g_F g_R g_C g_L m_rl m_lf m_ov m_pl).2.1) ((cf_X6_take g_F g_R g_C g_L m_rl m_lf m_ov m_pl).2.2.1) ((cf_X6_take g_F g_R g_C g_L m_rl m_lf m_ov m_pl).2.2.2.1) ((cf_X6_take g_F g_R g_C g_L m_rl m_lf m_ov m_pl).2.2.2.2.1) ((cf_X6_take g_F g_R g_C g_L m_rl m_lf m_ov m_pl).2.2.2.2.2.1) ((cf_X6_take g_F g_R g_C g_L m_rl m_lf m_ov m_pl).2.2.2.2.2.2) m_pl a0 H locs ls hP hD hS (lv_sub hl [0, 1] rfl) hV hR
def cf_X6_again_s10  (m_th : Int32) (m_o : Int32) (m_f : Int32) (m_r : Int32) (m_a : Int32) (u_F : Nat → Int32) (u_R : Nat → Int32) (g_F : Nat → Int32) (g_R : Nat → Int32) (g_C : Nat → Int32) (g_L : Nat → Int32) (m_rl : Int32) (m_lf : Int32) (m_ov : Int32) (m_pl : Int64) (y0 : Int64) : Int32 × (Nat → Int32) × (Nat → Int32) × (Nat → Int32) × (Nat → Int32) × Int32 × Int32 × Int32 × Int64 × Int32 :=
  (m_th, g_F, g_R, g_C, g_L, m_rl, m_lf, m_ov, y0, (cf_X6_canDoMany m_o m_f m_r g_R g_C m_rl m_lf m_ov ))
def vc_X6_again_s10  (m_th : Int32) (m_o : Int32) (m_f : Int32) (m_r : Int32) (m_a : Int32) (u_F : Nat → Int32) (u_R : Nat → Int32) (g_F : Nat → Int32) (g_R : Nat → Int32) (g_C : Nat → Int32) (g_L : Nat → Int32) (m_rl : Int32) (m_lf : Int32) (m_ov : Int32) (m_pl : Int64) (y0 : Int64) : Prop :=
  (vc_X6_canDoMany m_o m_f m_r g_R g_C m_rl m_lf m_ov  ∧ True)
def cf_X6_again (m_th : Int32) (m_o : Int32) (m_f : Int32) (m_r : Int32) (m_a : Int32) (u_F : Nat → Int32) (u_R : Nat → Int32) (g_F : Nat → Int32) (g_R : Nat → Int32) (g_C : Nat → Int32) (g_L : Nat → Int32) (m_rl : Int32) (m_lf : Int32) (m_ov : Int32) (m_pl : Int64)  : Int32 × (Nat → Int32) × (Nat → Int32) × (Nat → Int32) × (Nat → Int32) × Int32 × Int32 × Int32 × Int64 × Int32 :=
  cf_X6_again_s10  (0 : Int32) m_o m_f m_r m_a u_F u_R ((cf_X6_first m_a u_F u_R g_F g_R g_C g_L m_rl m_lf m_ov ).1) ((cf_X6_first m_a u_F u_R g_F g_R g_C g_L m_rl m_lf m_ov ).2.1) ((cf_X6_first m_a u_F u_R g_F g_R g_C g_L m_rl m_lf m_ov ).2.2.1) ((cf_X6_first m_a u_F u_R g_F g_R g_C g_L m_rl m_lf m_ov ).2.2.2.1) ((cf_X6_first m_a u_F u_R g_F g_R g_C g_L m_rl m_lf m_ov ).2.2.2.2.1) ((cf_X6_first m_a u_F u_R g_F g_R g_C g_L m_rl m_lf m_ov ).2.2.2.2.2.1) ((cf_X6_first m_a u_F u_R g_F g_R g_C g_L m_rl m_lf m_ov ).2.2.2.2.2.2.1) m_pl ((cf_X6_first m_a u_F u_R g_F g_R g_C g_L m_rl m_lf m_ov ).2.2.2.2.2.2.2)
def vc_X6_again (m_th : Int32) (m_o : Int32) (m_f : Int32) (m_r : Int32) (m_a : Int32) (u_F : Nat → Int32) (u_R : Nat → Int32) (g_F : Nat → Int32) (g_R : Nat → Int32) (g_C : Nat → Int32) (g_L : Nat → Int32) (m_rl : Int32) (m_lf : Int32) (m_ov : Int32) (m_pl : Int64)  : Prop :=
  vc_X6_again_s10  (0 : Int32) m_o m_f m_r m_a u_F u_R ((cf_X6_first m_a u_F u_R g_F g_R g_C g_L m_rl m_lf m_ov ).1) ((cf_X6_first m_a u_F u_R g_F g_R g_C g_L m_rl m_lf m_ov ).2.1) ((cf_X6_first m_a u_F u_R g_F g_R g_C g_L m_rl m_lf m_ov ).2.2.1) ((cf_X6_first m_a u_F u_R g_F g_R g_C g_L m_rl m_lf m_ov ).2.2.2.1) ((cf_X6_first m_a u_F u_R g_F g_R g_C g_L m_rl m_lf m_ov ).2.2.2.2.1) ((cf_X6_first m_a u_F u_R g_F g_R g_C g_L m_rl m_lf m_ov ).2.2.2.2.2.1) ((cf_X6_first m_a u_F u_R g_F g_R g_C g_L m_rl m_lf m_ov ).2.2.2.2.2.2.1) m_pl ((cf_X6_first m_a u_F u_R g_F g_R g_C g_L m_rl m_lf m_ov ).2.2.2.2.2.2.2)
set_option maxHeartbeats 4000000 in
set_option maxRecDepth 100000 in
theorem c_X6_again (l : Launch) (dC : Nat → ClassId) (dI : Nat → Nat → Nat) (q6 qA qB qF qR qC qL qS qO qY qH qW qM : Nat) (cyI cyJ cyZ : ClassId) (m_th : Int32) (m_o : Int32) (m_f : Int32) (m_r : Int32) (m_b : Int32) (m_a : Int32) (u_F : Nat → Int32) (u_R : Nat → Int32) (g_F : Nat → Int32) (g_R : Nat → Int32) (g_C : Nat → Int32) (g_L : Nat → Int32) (m_rl : Int32) (m_lf : Int32) (m_ov : Int32) (m_pl : Int64) (g_S : Nat → Int64) (g_O : Nat → Int32) (g_Y : Nat → Int32) (g_H : Nat → Int32) (m_st : Int32) (g_W : Nat → Int32) (m_rm : Int32) (m_fs : Int32) (g_M : Nat → Int32) (sz : Nat)  (hm_o : m_o ≤ 4) (hV : vc_X6_again m_th m_o m_f m_r m_a u_F u_R g_F g_R g_C g_L m_rl m_lf m_ov m_pl ) : Met l yX6_again wsX6_again ({ frames := 3, cells := 0, slots := 0, locals := 67 }) (mu_P [.ref q6] sz (dC, dI) kcl (mo_W q6 qA qB qF qR qC qL qS qO qY qH qW qM cyI cyJ cyZ m_th m_o m_f m_r m_b m_a u_F u_R g_F g_R g_C g_L m_rl m_lf m_ov m_pl g_S g_O g_Y g_H m_st g_W m_rm m_fs g_M) [(cyI, .int), (cyJ, .long), (cyZ, .boolean)]) (mu_Q (some (.int ((cf_X6_again m_th m_o m_f m_r m_a u_F u_R g_F g_R g_C g_L m_rl m_lf m_ov m_pl ).2.2.2.2.2.2.2.2.2))) (dC, dI) kcl (mo_W q6 qA qB qF qR qC qL qS qO qY qH qW qM cyI cyJ cyZ ((cf_X6_again m_th m_o m_f m_r m_a u_F u_R g_F g_R g_C g_L m_rl m_lf m_ov m_pl ).1) m_o m_f m_r m_b m_a u_F u_R ((cf_X6_again m_th m_o m_f m_r m_a u_F u_R g_F g_R g_C g_L m_rl m_lf m_ov m_pl ).2.1) ((cf_X6_again m_th m_o m_f m_r m_a u_F u_R g_F g_R g_C g_L m_rl m_lf m_ov m_pl ).2.2.1) ((cf_X6_again m_th m_o m_f m_r m_a u_F u_R g_F g_R g_C g_L m_rl m_lf m_ov m_pl ).2.2.2.1) ((cf_X6_again m_th m_o m_f m_r m_a u_F u_R g_F g_R g_C g_L m_rl m_lf m_ov m_pl ).2.2.2.2.1) ((cf_X6_again m_th m_o m_f m_r m_a u_F u_R g_F g_R g_C g_L m_rl m_lf m_ov m_pl ).2.2.2.2.2.1) ((cf_X6_again m_th m_o m_f m_r m_a u_F u_R g_F g_R g_C g_L m_rl m_lf m_ov m_pl ).2.2.2.2.2.2.1) ((cf_X6_again m_th m_o m_f m_r m_a u_F u_R g_F g_R g_C g_L m_rl m_lf m_ov m_pl ).2.2.2.2.2.2.2.1) ((cf_X6_again m_th m_o m_f m_r m_a u_F u_R g_F g_R g_C g_L m_rl m_lf m_ov m_pl ).2.2.2.2.2.2.2.2.1) g_S g_O g_Y g_H m_st g_W m_rm m_fs g_M) (va_A (mo_W q6 qA qB qF qR qC qL qS qO qY qH qW qM cyI cyJ cyZ m_th m_o m_f m_r m_b m_a u_F u_R g_F g_R g_C g_L m_rl m_lf m_ov m_pl g_S g_O g_Y g_H m_st g_W m_rm m_fs g_M) sz)) 0 0 (va_A (mo_W q6 qA qB qF qR qC qL qS qO qY qH qW qM cyI cyJ cyZ m_th m_o m_f m_r m_b m_a u_F u_R g_F g_R g_C g_L m_rl m_lf m_ov m_pl g_S g_O g_Y g_H m_st g_W m_rm m_fs g_M) sz) := by
  refine Met.ofW (cc := cX6_again) (maxL := 1) (ret := (some .int)) (by decide) rfl ?_
  intro p e s m args below meth c s₁ B hml hv
  obtain ⟨rfl, hsz, hP, hK, hD0⟩ := hv
  have hx := B.exec
  have hb := B.bytes
  have hr := B.returns
  have hts := atoms_spec (ws := wsX6_again) B.pre
  have hown : s.vm.findClass RX6 = some m.cls := findClass_of_methodNamed B.named
  have hlocks := B.notSynchronized
  subst hsz
  have hD := hD0.self (sz := s.heap.size)
  generalize hAe : va_A (mo_W q6 qA qB qF qR qC qL qS qO qY qH qW qM cyI cyJ cyZ m_th m_o m_f m_r m_b m_a u_F u_R g_F g_R g_C g_L m_rl m_lf m_ov m_pl g_S g_O g_Y g_H m_st g_W m_rm m_fs g_M) s.heap.size = A at hD ⊢
  have hA : ∀ q : Nat, s.heap.size ≤ q → A q := fun q h => by rw [← hAe]; exact Or.inr h
  have hP : va_P (dC, dI) kcl (mo_W q6 qA qB qF qR qC qL qS qO qY qH qW qM cyI cyJ cyZ m_th m_o m_f m_r m_b m_a u_F u_R g_F g_R g_C g_L m_rl m_lf m_ov m_pl g_S g_O g_Y g_H m_st g_W m_rm m_fs g_M) s.heap := hP
  have h0_ : (Cond.fieldLink RX6 1 "ColourTrierModel" "thrown" "I").before _ s = true := hts _ (by decide +kernel)
  have h1_ : ∀ w ∈ u_ws RX6 TX6 25, w ∈ wsX6_again := fun w h => List.mem_cons_of_mem _ (List.mem_append_right _ h)
  have h2_ : (Cond.fieldLink RX6 66 "ColourTrierModel" "played" "J").before _ s = true := hts _ (by decide +kernel)
  generalize hR : (cf_X6_again m_th m_o m_f m_r m_a u_F u_R g_F g_R g_C g_L m_rl m_lf m_ov m_pl ) = R
  have Ks10 : ∀  (m_th : Int32) (g_F : Nat → Int32) (g_R : Nat → Int32) (g_C : Nat → Int32) (g_L : Nat → Int32) (m_rl : Int32) (m_lf : Int32) (m_ov : Int32) (m_pl : Int64) (y0 : Int64) (H : Heap) (locs : List Loc) (ls : Array Slot), va_P (dC, dI) kcl (mo_W q6 qA qB qF qR qC qL qS qO qY qH qW qM cyI cyJ cyZ m_th m_o m_f m_r m_b m_a u_F u_R g_F g_R g_C g_L m_rl m_lf m_ov m_pl g_S g_O g_Y g_H m_st g_W m_rm m_fs g_M) H → va_D A (mo_W q6 qA qB qF qR qC qL qS qO qY qH qW qM cyI cyJ cyZ m_th m_o m_f m_r m_b m_a u_F u_R g_F g_R g_C g_L m_rl m_lf m_ov m_pl g_S g_O g_Y g_H m_st g_W m_rm m_fs g_M) → va_S A s.heap H locs → lv_has ls 1 [(0, .ref q6)] → vc_X6_again_s10  m_th m_o m_f m_r m_a u_F u_R g_F g_R g_C g_L m_rl m_lf m_ov m_pl y0 → cf_X6_again_s10  m_th m_o m_f m_r m_a u_F u_R g_F g_R g_C g_L m_rl m_lf m_ov m_pl y0 = R → W p l e (headSpec wsX6_again ({ frames := 3, cells := 0, slots := 0, locals := 67 })).room s m ([.ref q6] : List Value).toArray below meth c H locs 0 0 (MQ below (mu_Q (some (.int R.2.2.2.2.2.2.2.2.2)) (dC, dI) kcl (mo_W q6 qA qB qF qR qC qL qS qO qY qH qW qM cyI cyJ cyZ R.1 m_o m_f m_r m_b m_a u_F u_R R.2.1 R.2.2.1 R.2.2.2.1 R.2.2.2.2.1 R.2.2.2.2.2.1 R.2.2.2.2.2.2.1 R.2.2.2.2.2.2.2.1 R.2.2.2.2.2.2.2.2.1 g_S g_O g_Y g_H m_st g_W m_rm m_fs g_M) A) ([.ref q6] : List Value).toArray s 0 0 A) (F0 m 10 ls [.long y0, .ref q6]) := by
    intro  m_th g_F g_R g_C g_L m_rl m_lf m_ov m_pl y0 H locs ls hP hD hS hl hV hR
    unfold cf_X6_again_s10 at hR
    unfold vc_X6_again_s10 at hV
    refine va_put (D := (dC, dI)) (ci := 4) (v := .long y0) (ty := .long) (C := RX6) (T := TX6) (N := 25) hx hb hts h1_ tyX6 tyX6_ok nmX6 hown hK hP hD hS 0 rfl rfl 15 (by decide) h2_ (fun _ h9 => h9) rfl (by decide +kernel) rfl rfl (Nat.le_of_ble_eq_true rfl) dX6_again_10 (fun H locs hP hD hS => ?_)
    have hP : va_P (dC, dI) kcl (mo_W q6 qA qB qF qR qC qL qS qO qY qH qW qM cyI cyJ cyZ m_th m_o m_f m_r m_b m_a u_F u_R g_F g_R g_C g_L m_rl m_lf m_ov y0 g_S g_O g_Y g_H m_st g_W m_rm m_fs g_M) H := hP
    have hD : va_D A (mo_W q6 qA qB qF qR qC qL qS qO qY qH qW qM cyI cyJ cyZ m_th m_o m_f m_r m_b m_a u_F u_R g_F g_R g_C g_L m_rl m_lf m_ov y0 g_S g_O g_Y g_H m_st g_W m_rm m_fs g_M) := hD
    refine lv_aload_n hx hb dX6_again_13 rfl (lv_at hl 0 rfl) ?_
    obtain ⟨hv1, hV⟩ := hV
    refine rd_calli (va_runV (As := []) (rest := []) ⟨hx, hb, hml, hown, hts⟩ (c_X6_canDoMany l dC dI q6 qA qB qF qR qC qL qS qO qY qH qW qM cyI cyJ cyZ m_th m_o m_f m_r m_b m_a u_F u_R g_F g_R g_C g_L m_rl m_lf m_ov y0 g_S g_O g_Y g_H m_st g_W m_rm m_fs g_M  hm_o hv1) (cwV 0 hts gX6_again_X6_canDoMany rfl rfl rfl (by decide +kernel) ⟨Nat.le_of_ble_eq_true rfl, Nat.le_of_ble_eq_true rfl⟩) ⟨rd_blind, va_recv hK hP (ci := 4) (q0 := 0) rfl rfl, fun U hU hW => ⟨rfl, by rw [hU]; exact hP, va_K.moved hW.alike (hK.sub [0, 1, 2] rfl)⟩⟩ rfl rfl hl.1 rfl (lv_room (Nat.le_of_ble_eq_true rfl)) dX6_again_14 ⟨Nat.le_refl _, Nat.le_refl _⟩) ?_
    rw [← hR]
    exact W.iret (v := (cf_X6_canDoMany m_o m_f m_r g_R g_C m_rl m_lf m_ov )) hx hb hr (fun t ht _ => ⟨rfl, by rw [ht]; exact hP, hS.F ht⟩) hS.2.2 dX6_again_17
  have hl := lv_entry ([.ref q6]) (n := 1) (Nat.le_of_ble_eq_true rfl)
  rw [lg_entry_eq]
  generalize (lg_sl ([.ref q6]) ++ List.replicate (1 - (lg_sl ([.ref q6])).length) Slot.unset).toArray = ls at hl ⊢
  have hl : lv_has ls 1 [(0, .ref q6)] := hl
  unfold cf_X6_again at hR
  unfold vc_X6_again at hV
  refine mu_start (A := A) (fun H locs hP hS => ?_) hP
  refine lv_aload_n hx hb dX6_again_0 rfl (lv_at hl 0 rfl) ?_
  refine lv_iconst (v := (0 : Int32)) hx hb dX6_again_1 (by decide +kernel) ?_
  refine va_put (D := (dC, dI)) (ci := 4) (v := .int (0 : Int32)) (ty := .int) (C := RX6) (T := TX6) (N := 25) hx hb hts h1_ tyX6 tyX6_ok nmX6 hown hK hP hD hS 0 rfl rfl 0 (by decide) h0_ (fun _ h9 => h9) rfl (by decide +kernel) rfl rfl (Nat.le_of_ble_eq_true rfl) dX6_again_2 (fun H locs hP hD hS => ?_)
  have hP : va_P (dC, dI) kcl (mo_W q6 qA qB qF qR qC qL qS qO qY qH qW qM cyI cyJ cyZ (0 : Int32) m_o m_f m_r m_b m_a u_F u_R g_F g_R g_C g_L m_rl m_lf m_ov m_pl g_S g_O g_Y g_H m_st g_W m_rm m_fs g_M) H := hP
  have hD : va_D A (mo_W q6 qA qB qF qR qC qL qS qO qY qH qW qM cyI cyJ cyZ (0 : Int32) m_o m_f m_r m_b m_a u_F u_R g_F g_R g_C g_L m_rl m_lf m_ov m_pl g_S g_O g_Y g_H m_st g_W m_rm m_fs g_M) := hD
  refine lv_aload_n hx hb dX6_again_5 rfl (lv_at hl 0 rfl) ?_
  refine lv_aload_n hx hb dX6_again_6 rfl (lv_at hl 0 rfl) ?_
  refine mu_call (ws' := (mo_W q6 qA qB qF qR qC qL qS qO qY qH qW qM cyI cyJ cyZ (0 : Int32) m_o m_f m_r m_b m_a u_F u_R ((cf_X6_first m_a u_F u_R g_F g_R g_C g_L m_rl m_lf m_ov ).1) ((cf_X6_first m_a u_F u_R g_F g_R g_C g_L m_rl m_lf m_ov ).2.1) ((cf_X6_first m_a u_F u_R g_F g_R g_C g_L m_rl m_lf m_ov ).2.2.1) ((cf_X6_first m_a u_F u_R g_F g_R g_C g_L m_rl m_lf m_ov ).2.2.2.1) ((cf_X6_first m_a u_F u_R g_F g_R g_C g_L m_rl m_lf m_ov ).2.2.2.2.1) ((cf_X6_first m_a u_F u_R g_F g_R g_C g_L m_rl m_lf m_ov ).2.2.2.2.2.1) ((cf_X6_first m_a u_F u_R g_F g_R g_C g_L m_rl m_lf m_ov ).2.2.2.2.2.2.1) m_pl g_S g_O g_Y g_H m_st g_W m_rm m_fs g_M)) (wr := []) (va_runV (As := []) (rest := [.ref q6]) ⟨hx, hb, hml, hown, hts⟩ (c_X6_first l dC dI q6 qA qB qF qR qC qL qS qO qY qH qW qM cyI cyJ cyZ (0 : Int32) m_o m_f m_r m_b m_a u_F u_R g_F g_R g_C g_L m_rl m_lf m_ov m_pl g_S g_O g_Y g_H m_st g_W m_rm m_fs g_M H.size   ) (cwV 0 hts gX6_again_X6_first rfl rfl rfl (by decide +kernel) ⟨Nat.le_of_ble_eq_true rfl, Nat.le_of_ble_eq_true rfl⟩) ⟨mu_blind, va_recv hK hP (ci := 4) (q0 := 0) rfl rfl, fun U hU hW => ⟨rfl, by rw [hU], by rw [hU]; exact hP, va_K.moved hW.alike (hK.sub [0, 1, 2] rfl), hD.weaken (fun _ _ _ _ => trivial)⟩⟩ rfl rfl hl.1 rfl (lv_room (Nat.le_of_ble_eq_true rfl)) dX6_again_7 ⟨Nat.le_refl _, Nat.le_refl _⟩) hP hD hS hA [0, 1, 2, 3, 4, 5, 6, 7, 8, 9, 10, 11, 12] [] [0, 1, 2, 3, 4, 5, 6, 7, 8, 9, 10, 11, 12] rfl rfl (by decide) (by decide) (by decide) rfl (by decide) rfl (fun H locs hP hD hS => ?_)
  refine W.eq (g2 := F0 m 10 ls [.long ((cf_X6_first m_a u_F u_R g_F g_R g_C g_L m_rl m_lf m_ov ).2.2.2.2.2.2.2), .ref q6]) rfl ?_
  exact Ks10  (0 : Int32) ((cf_X6_first m_a u_F u_R g_F g_R g_C g_L m_rl m_lf m_ov ).1) ((cf_X6_first m_a u_F u_R g_F g_R g_C g_L m_rl m_lf m_ov ).2.1) ((cf_X6_first m_a u_F u_R g_F g_R g_C g_L m_rl m_lf m_ov ).2.2.1) ((cf_X6_first m_a u_F u_R g_F g_R g_C g_L m_rl m_lf m_ov ).2.2.2.1) ((cf_X6_first m_a u_F u_R g_F g_R g_C g_L m_rl m_lf m_ov ).2.2.2.2.1) ((cf_X6_first m_a u_F u_R g_F g_R g_C g_L m_rl m_lf m_ov ).2.2.2.2.2.1) ((cf_X6_first m_a u_F u_R g_F g_R g_C g_L m_rl m_lf m_ov ).2.2.2.2.2.2.1) m_pl ((cf_X6_first m_a u_F u_R g_F g_R g_C g_L m_rl m_lf m_ov ).2.2.2.2.2.2.2) H locs ls hP hD hS (lv_sub hl [0] rfl) hV hR
def cf_X6_colour_s34  (m_th : Int32) (m_o : Int32) (g_F : Nat → Int32) (g_R : Nat → Int32) (g_C : Nat → Int32) (g_L : Nat → Int32) (m_rl : Int32) (m_lf : Int32) (m_ov : Int32) (m_pl : Int64) (x1 : Int32) : Int32 × (Nat → Int32) × (Nat → Int32) × (Nat → Int32) × (Nat → Int32) × Int32 × Int32 × Int32 × Int32 :=
  (m_th, g_F, g_R, g_C, g_L, m_rl, m_lf, m_ov, (g_C (x1).toNatClampNeg))
def vc_X6_colour_s34  (m_th : Int32) (m_o : Int32) (g_F : Nat → Int32) (g_R : Nat → Int32) (g_C : Nat → Int32) (g_L : Nat → Int32) (m_rl : Int32) (m_lf : Int32) (m_ov : Int32) (m_pl : Int64) (x1 : Int32) : Prop :=
  (vp_in x1 4 ∧ True)
def cf_X6_colour_s18  (m_th : Int32) (m_o : Int32) (g_F : Nat → Int32) (g_R : Nat → Int32) (g_C : Nat → Int32) (g_L : Nat → Int32) (m_rl : Int32) (m_lf : Int32) (m_ov : Int32) (m_pl : Int64) (x1 : Int32) (y0 : Int32) : Int32 × (Nat → Int32) × (Nat → Int32) × (Nat → Int32) × (Nat → Int32) × Int32 × Int32 × Int32 × Int32 :=
  (if (cf_X6_fails m_th y0).2 = 0 then cf_X6_colour_s34  ((cf_X6_fails m_th y0).1) m_o ((cf_X6_take g_F g_R g_C g_L m_rl m_lf m_ov m_pl).1) ((cf_X6_take g_F g_R g_C g_L m_rl m_lf m_ov m_pl).2.1) ((cf_X6_take g_F g_R g_C g_L m_rl m_lf m_ov m_pl).2.2.1) ((cf_X6_take g_F g_R g_C g_L m_rl m_lf m_ov m_pl).2.2.2.1) ((cf_X6_take g_F g_R g_C g_L m_rl m_lf m_ov m_pl).2.2.2.2.1) ((cf_X6_take g_F g_R g_C g_L m_rl m_lf m_ov m_pl).2.2.2.2.2.1) ((cf_X6_take g_F g_R g_C g_L m_rl m_lf m_ov m_pl).2.2.2.2.2.2) m_pl x1 else ((cf_X6_fails m_th y0).1, g_F, g_R, g_C, g_L, m_rl, m_lf, m_ov, (0 : Int32)))
def vc_X6_colour_s18  (m_th : Int32) (m_o : Int32) (g_F : Nat → Int32) (g_R : Nat → Int32) (g_C : Nat → Int32) (g_L : Nat → Int32) (m_rl : Int32) (m_lf : Int32) (m_ov : Int32) (m_pl : Int64) (x1 : Int32) (y0 : Int32) : Prop :=
  (((cf_X6_fails m_th y0).2 = 0 → vc_X6_colour_s34  ((cf_X6_fails m_th y0).1) m_o ((cf_X6_take g_F g_R g_C g_L m_rl m_lf m_ov m_pl).1) ((cf_X6_take g_F g_R g_C g_L m_rl m_lf m_ov m_pl).2.1) ((cf_X6_take g_F g_R g_C g_L m_rl m_lf m_ov m_pl).2.2.1) ((cf_X6_take g_F g_R g_C g_L m_rl m_lf m_ov m_pl).2.2.2.1) ((cf_X6_take g_F g_R g_C g_L m_rl m_lf m_ov m_pl).2.2.2.2.1) ((cf_X6_take g_F g_R g_C g_L m_rl m_lf m_ov m_pl).2.2.2.2.2.1) ((cf_X6_take g_F g_R g_C g_L m_rl m_lf m_ov m_pl).2.2.2.2.2.2) m_pl x1) ∧ (¬ (cf_X6_fails m_th y0).2 = 0 → True))
def cf_X6_colour_s13  (m_th : Int32) (m_o : Int32) (g_F : Nat → Int32) (g_R : Nat → Int32) (g_C : Nat → Int32) (g_L : Nat → Int32) (m_rl : Int32) (m_lf : Int32) (m_ov : Int32) (m_pl : Int64) (x1 : Int32) : Int32 × (Nat → Int32) × (Nat → Int32) × (Nat → Int32) × (Nat → Int32) × Int32 × Int32 × Int32 × Int32 :=
  cf_X6_colour_s18  m_th m_o g_F g_R g_C g_L m_rl m_lf m_ov m_pl x1 (1 : Int32)
def vc_X6_colour_s13  (m_th : Int32) (m_o : Int32) (g_F : Nat → Int32) (g_R : Nat → Int32) (g_C : Nat → Int32) (g_L : Nat → Int32) (m_rl : Int32) (m_lf : Int32) (m_ov : Int32) (m_pl : Int64) (x1 : Int32) : Prop :=
  vc_X6_colour_s18  m_th m_o g_F g_R g_C g_L m_rl m_lf m_ov m_pl x1 (1 : Int32)
def cf_X6_colour (m_th : Int32) (m_o : Int32) (g_F : Nat → Int32) (g_R : Nat → Int32) (g_C : Nat → Int32) (g_L : Nat → Int32) (m_rl : Int32) (m_lf : Int32) (m_ov : Int32) (m_pl : Int64) (a0 : Int32) : Int32 × (Nat → Int32) × (Nat → Int32) × (Nat → Int32) × (Nat → Int32) × Int32 × Int32 × Int32 × Int32 :=
  (if a0 < 0 then cf_X6_colour_s13  m_th m_o g_F g_R g_C g_L m_rl m_lf m_ov m_pl a0 else (if a0 < m_o then cf_X6_colour_s18  m_th m_o g_F g_R g_C g_L m_rl m_lf m_ov m_pl a0 (0 : Int32) else cf_X6_colour_s13  m_th m_o g_F g_R g_C g_L m_rl m_lf m_ov m_pl a0))
def vc_X6_colour (m_th : Int32) (m_o : Int32) (g_F : Nat → Int32) (g_R : Nat → Int32) (g_C : Nat → Int32) (g_L : Nat → Int32) (m_rl : Int32) (m_lf : Int32) (m_ov : Int32) (m_pl : Int64) (a0 : Int32) : Prop :=
  ((a0 < 0 → vc_X6_colour_s13  m_th m_o g_F g_R g_C g_L m_rl m_lf m_ov m_pl a0) ∧ (¬ a0 < 0 → ((a0 < m_o → vc_X6_colour_s18  m_th m_o g_F g_R g_C g_L m_rl m_lf m_ov m_pl a0 (0 : Int32)) ∧ (¬ a0 < m_o → vc_X6_colour_s13  m_th m_o g_F g_R g_C g_L m_rl m_lf m_ov m_pl a0))))
set_option maxHeartbeats 4000000 in
set_option maxRecDepth 100000 in
theorem c_X6_colour (l : Launch) (dC : Nat → ClassId) (dI : Nat → Nat → Nat) (q6 qA qB qF qR qC qL qS qO qY qH qW qM : Nat) (cyI cyJ cyZ : ClassId) (m_th : Int32) (m_o : Int32) (m_f : Int32) (m_r : Int32) (m_b : Int32) (m_a : Int32) (u_F : Nat → Int32) (u_R : Nat → Int32) (g_F : Nat → Int32) (g_R : Nat → Int32) (g_C : Nat → Int32) (g_L : Nat → Int32) (m_rl : Int32) (m_lf : Int32) (m_ov : Int32) (m_pl : Int64) (g_S : Nat → Int64) (g_O : Nat → Int32) (g_Y : Nat → Int32) (g_H : Nat → Int32) (m_st : Int32) (g_W : Nat → Int32) (m_rm : Int32) (m_fs : Int32) (g_M : Nat → Int32) (sz : Nat) (a0 : Int32)  (hV : vc_X6_colour m_th m_o g_F g_R g_C g_L m_rl m_lf m_ov m_pl a0) : Met l yX6_colour wsX6_colour ({ frames := 1, cells := 0, slots := 0, locals := 25 }) (mu_P [.ref q6, .int a0] sz (dC, dI) kcl (mo_W q6 qA qB qF qR qC qL qS qO qY qH qW qM cyI cyJ cyZ m_th m_o m_f m_r m_b m_a u_F u_R g_F g_R g_C g_L m_rl m_lf m_ov m_pl g_S g_O g_Y g_H m_st g_W m_rm m_fs g_M) [(cyI, .int), (cyJ, .long), (cyZ, .boolean)]) (mu_Q (some (.int ((cf_X6_colour m_th m_o g_F g_R g_C g_L m_rl m_lf m_ov m_pl a0).2.2.2.2.2.2.2.2))) (dC, dI) kcl (mo_W q6 qA qB qF qR qC qL qS qO qY qH qW qM cyI cyJ cyZ ((cf_X6_colour m_th m_o g_F g_R g_C g_L m_rl m_lf m_ov m_pl a0).1) m_o m_f m_r m_b m_a u_F u_R ((cf_X6_colour m_th m_o g_F g_R g_C g_L m_rl m_lf m_ov m_pl a0).2.1) ((cf_X6_colour m_th m_o g_F g_R g_C g_L m_rl m_lf m_ov m_pl a0).2.2.1) ((cf_X6_colour m_th m_o g_F g_R g_C g_L m_rl m_lf m_ov m_pl a0).2.2.2.1) ((cf_X6_colour m_th m_o g_F g_R g_C g_L m_rl m_lf m_ov m_pl a0).2.2.2.2.1) ((cf_X6_colour m_th m_o g_F g_R g_C g_L m_rl m_lf m_ov m_pl a0).2.2.2.2.2.1) ((cf_X6_colour m_th m_o g_F g_R g_C g_L m_rl m_lf m_ov m_pl a0).2.2.2.2.2.2.1) ((cf_X6_colour m_th m_o g_F g_R g_C g_L m_rl m_lf m_ov m_pl a0).2.2.2.2.2.2.2.1) m_pl g_S g_O g_Y g_H m_st g_W m_rm m_fs g_M) (va_A (mo_W q6 qA qB qF qR qC qL qS qO qY qH qW qM cyI cyJ cyZ m_th m_o m_f m_r m_b m_a u_F u_R g_F g_R g_C g_L m_rl m_lf m_ov m_pl g_S g_O g_Y g_H m_st g_W m_rm m_fs g_M) sz)) 0 0 (va_A (mo_W q6 qA qB qF qR qC qL qS qO qY qH qW qM cyI cyJ cyZ m_th m_o m_f m_r m_b m_a u_F u_R g_F g_R g_C g_L m_rl m_lf m_ov m_pl g_S g_O g_Y g_H m_st g_W m_rm m_fs g_M) sz) := by
  refine Met.ofW (cc := cX6_colour) (maxL := 2) (ret := (some .int)) (by decide) rfl ?_
  intro p e s m args below meth c s₁ B hml hv
  obtain ⟨rfl, hsz, hP, hK, hD0⟩ := hv
  have hx := B.exec
  have hb := B.bytes
  have hr := B.returns
  have hts := atoms_spec (ws := wsX6_colour) B.pre
  have hown : s.vm.findClass RX6 = some m.cls := findClass_of_methodNamed B.named
  have hlocks := B.notSynchronized
  subst hsz
  have hD := hD0.self (sz := s.heap.size)
  generalize hAe : va_A (mo_W q6 qA qB qF qR qC qL qS qO qY qH qW qM cyI cyJ cyZ m_th m_o m_f m_r m_b m_a u_F u_R g_F g_R g_C g_L m_rl m_lf m_ov m_pl g_S g_O g_Y g_H m_st g_W m_rm m_fs g_M) s.heap.size = A at hD ⊢
  have hA : ∀ q : Nat, s.heap.size ≤ q → A q := fun q h => by rw [← hAe]; exact Or.inr h
  have hP : va_P (dC, dI) kcl (mo_W q6 qA qB qF qR qC qL qS qO qY qH qW qM cyI cyJ cyZ m_th m_o m_f m_r m_b m_a u_F u_R g_F g_R g_C g_L m_rl m_lf m_ov m_pl g_S g_O g_Y g_H m_st g_W m_rm m_fs g_M) s.heap := hP
  have h0_ : (Cond.fieldLink RX6 66 "ColourTrierModel" "played" "J").before _ s = true := hts _ (by decide +kernel)
  have h1_ : ∀ w ∈ u_ws RX6 TX6 25, w ∈ wsX6_colour := fun w h => List.mem_cons_of_mem _ (List.mem_append_right _ h)
  have h2_ : (Cond.fieldLink RX6 35 "ColourTrierModel" "colour" "[I").before _ s = true := hts _ (by decide +kernel)
  have h3_ : (Cond.fieldLink RX6 13 "ColourTrierModel" "objects" "I").before _ s = true := hts _ (by decide +kernel)
  generalize hR : (cf_X6_colour m_th m_o g_F g_R g_C g_L m_rl m_lf m_ov m_pl a0) = R
  have Ks34 : ∀  (m_th : Int32) (g_F : Nat → Int32) (g_R : Nat → Int32) (g_C : Nat → Int32) (g_L : Nat → Int32) (m_rl : Int32) (m_lf : Int32) (m_ov : Int32) (x1 : Int32) (H : Heap) (locs : List Loc) (ls : Array Slot), va_P (dC, dI) kcl (mo_W q6 qA qB qF qR qC qL qS qO qY qH qW qM cyI cyJ cyZ m_th m_o m_f m_r m_b m_a u_F u_R g_F g_R g_C g_L m_rl m_lf m_ov m_pl g_S g_O g_Y g_H m_st g_W m_rm m_fs g_M) H → va_D A (mo_W q6 qA qB qF qR qC qL qS qO qY qH qW qM cyI cyJ cyZ m_th m_o m_f m_r m_b m_a u_F u_R g_F g_R g_C g_L m_rl m_lf m_ov m_pl g_S g_O g_Y g_H m_st g_W m_rm m_fs g_M) → va_S A s.heap H locs → lv_has ls 2 [(0, .ref q6), (1, .int x1)] → vc_X6_colour_s34  m_th m_o g_F g_R g_C g_L m_rl m_lf m_ov m_pl x1 → cf_X6_colour_s34  m_th m_o g_F g_R g_C g_L m_rl m_lf m_ov m_pl x1 = R → W p l e (headSpec wsX6_colour ({ frames := 1, cells := 0, slots := 0, locals := 25 })).room s m ([.ref q6, .int a0] : List Value).toArray below meth c H locs 0 0 (MQ below (mu_Q (some (.int R.2.2.2.2.2.2.2.2)) (dC, dI) kcl (mo_W q6 qA qB qF qR qC qL qS qO qY qH qW qM cyI cyJ cyZ R.1 m_o m_f m_r m_b m_a u_F u_R R.2.1 R.2.2.1 R.2.2.2.1 R.2.2.2.2.1 R.2.2.2.2.2.1 R.2.2.2.2.2.2.1 R.2.2.2.2.2.2.2.1 m_pl g_S g_O g_Y g_H m_st g_W m_rm m_fs g_M) A) ([.ref q6, .int a0] : List Value).toArray s 0 0 A) (F0 m 34 ls []) := by
    intro  m_th g_F g_R g_C g_L m_rl m_lf m_ov x1 H locs ls hP hD hS hl hV hR
    unfold cf_X6_colour_s34 at hR
    unfold vc_X6_colour_s34 at hV
    refine lv_aload_n hx hb dX6_colour_34 rfl (lv_at hl 0 rfl) ?_
    refine va_get (D := (dC, dI)) (ci := 4) (v := .ref qC) (C := RX6) (T := TX6) (N := 25) hx hb hts h1_ hown hK hP 0 rfl rfl 10 (by decide) h2_ (fun _ h9 => h9) rfl dX6_colour_35 ?_
    refine lv_iload_n hx hb dX6_colour_38 rfl (lv_at hl 1 rfl) ?_
    obtain ⟨hi3, hV⟩ := hV
    refine va_iald hx hb hK hP 5 0 rfl rfl hi3 dX6_colour_39 ?_
    rw [← hR]
    exact W.iret (v := (g_C (x1).toNatClampNeg)) hx hb hr (fun t ht _ => ⟨rfl, by rw [ht]; exact hP, hS.F ht⟩) hS.2.2 dX6_colour_40
  have Ks18 : ∀  (m_th : Int32) (g_F : Nat → Int32) (g_R : Nat → Int32) (g_C : Nat → Int32) (g_L : Nat → Int32) (m_rl : Int32) (m_lf : Int32) (m_ov : Int32) (x1 : Int32) (y0 : Int32) (H : Heap) (locs : List Loc) (ls : Array Slot), va_P (dC, dI) kcl (mo_W q6 qA qB qF qR qC qL qS qO qY qH qW qM cyI cyJ cyZ m_th m_o m_f m_r m_b m_a u_F u_R g_F g_R g_C g_L m_rl m_lf m_ov m_pl g_S g_O g_Y g_H m_st g_W m_rm m_fs g_M) H → va_D A (mo_W q6 qA qB qF qR qC qL qS qO qY qH qW qM cyI cyJ cyZ m_th m_o m_f m_r m_b m_a u_F u_R g_F g_R g_C g_L m_rl m_lf m_ov m_pl g_S g_O g_Y g_H m_st g_W m_rm m_fs g_M) → va_S A s.heap H locs → lv_has ls 2 [(0, .ref q6), (1, .int x1)] → vc_X6_colour_s18  m_th m_o g_F g_R g_C g_L m_rl m_lf m_ov m_pl x1 y0 → cf_X6_colour_s18  m_th m_o g_F g_R g_C g_L m_rl m_lf m_ov m_pl x1 y0 = R → W p l e (headSpec wsX6_colour ({ frames := 1, cells := 0, slots := 0, locals := 25 })).room s m ([.ref q6, .int a0] : List Value).toArray below meth c H locs 0 0 (MQ below (mu_Q (some (.int R.2.2.2.2.2.2.2.2)) (dC, dI) kcl (mo_W q6 qA qB qF qR qC qL qS qO qY qH qW qM cyI cyJ cyZ R.1 m_o m_f m_r m_b m_a u_F u_R R.2.1 R.2.2.1 R.2.2.2.1 R.2.2.2.2.1 R.2.2.2.2.2.1 R.2.2.2.2.2.2.1 R.2.2.2.2.2.2.2.1 m_pl g_S g_O g_Y g_H m_st g_W m_rm m_fs g_M) A) ([.ref q6, .int a0] : List Value).toArray s 0 0 A) (F0 m 18 ls [.int y0, .ref q6]) := by
    intro  m_th g_F g_R g_C g_L m_rl m_lf m_ov x1 y0 H locs ls hP hD hS hl hV hR
    unfold cf_X6_colour_s18 at hR
    unfold vc_X6_colour_s18 at hV
    refine mu_call (ws' := (mo_W q6 qA qB qF qR qC qL qS qO qY qH qW qM cyI cyJ cyZ ((cf_X6_fails m_th y0).1) m_o m_f m_r m_b m_a u_F u_R g_F g_R g_C g_L m_rl m_lf m_ov m_pl g_S g_O g_Y g_H m_st g_W m_rm m_fs g_M)) (wr := []) (va_runV (As := [.int y0]) (rest := []) ⟨hx, hb, hml, hown, hts⟩ (c_X6_fails l dC dI q6 qA qB qF qR qC qL qS qO qY qH qW qM cyI cyJ cyZ m_th m_o m_f m_r m_b m_a u_F u_R g_F g_R g_C g_L m_rl m_lf m_ov m_pl g_S g_O g_Y g_H m_st g_W m_rm m_fs g_M H.size y0  ) (cwV 1 hts gX6_colour_X6_fails rfl rfl rfl (by decide +kernel) ⟨Nat.le_of_ble_eq_true rfl, Nat.le_of_ble_eq_true rfl⟩) ⟨mu_blind, va_recv hK hP (ci := 4) (q0 := 0) rfl rfl, fun U hU hW => ⟨rfl, by rw [hU], by rw [hU]; exact hP, va_K.moved hW.alike (hK.sub [0, 1, 2] rfl), hD.weaken (fun _ _ _ _ => trivial)⟩⟩ rfl rfl hl.1 rfl (lv_room (Nat.le_of_ble_eq_true rfl)) dX6_colour_18 ⟨Nat.le_refl _, Nat.le_refl _⟩) hP hD hS hA [0, 1, 2, 3, 4, 5, 6, 7, 8, 9, 10, 11, 12] [] [0, 1, 2, 3, 4, 5, 6, 7, 8, 9, 10, 11, 12] rfl rfl (by decide) (by decide) (by decide) rfl (by decide) rfl (fun H locs hP hD hS => ?_)
    refine W.eq (g2 := F0 m 21 ls [.int ((cf_X6_fails m_th y0).2)]) rfl ?_
    refine lv_if_eq (tgt := 26) hx hb dX6_colour_21 (by decide) (fun c_2 => ?_) (fun c_2 => ?_)
    · rw [if_pos c_2] at hR
      have hV := hV.1 c_2
      refine lv_aload_n hx hb dX6_colour_26 rfl (lv_at hl 0 rfl) ?_
      refine lv_aload_n hx hb dX6_colour_27 rfl (lv_at hl 0 rfl) ?_
      refine va_get (D := (dC, dI)) (ci := 4) (v := .long m_pl) (C := RX6) (T := TX6) (N := 25) hx hb hts h1_ hown hK hP 0 rfl rfl 15 (by decide) h0_ (fun _ h9 => h9) rfl dX6_colour_28 ?_
      refine mu_call (ws' := (mo_W q6 qA qB qF qR qC qL qS qO qY qH qW qM cyI cyJ cyZ ((cf_X6_fails m_th y0).1) m_o m_f m_r m_b m_a u_F u_R ((cf_X6_take g_F g_R g_C g_L m_rl m_lf m_ov m_pl).1) ((cf_X6_take g_F g_R g_C g_L m_rl m_lf m_ov m_pl).2.1) ((cf_X6_take g_F g_R g_C g_L m_rl m_lf m_ov m_pl).2.2.1) ((cf_X6_take g_F g_R g_C g_L m_rl m_lf m_ov m_pl).2.2.2.1) ((cf_X6_take g_F g_R g_C g_L m_rl m_lf m_ov m_pl).2.2.2.2.1) ((cf_X6_take g_F g_R g_C g_L m_rl m_lf m_ov m_pl).2.2.2.2.2.1) ((cf_X6_take g_F g_R g_C g_L m_rl m_lf m_ov m_pl).2.2.2.2.2.2) m_pl g_S g_O g_Y g_H m_st g_W m_rm m_fs g_M)) (wr := []) (va_runV (As := [.long m_pl]) (rest := []) ⟨hx, hb, hml, hown, hts⟩ (c_X6_take l dC dI q6 qA qB qF qR qC qL qS qO qY qH qW qM cyI cyJ cyZ ((cf_X6_fails m_th y0).1) m_o m_f m_r m_b m_a u_F u_R g_F g_R g_C g_L m_rl m_lf m_ov m_pl g_S g_O g_Y g_H m_st g_W m_rm m_fs g_M H.size m_pl  ) (cwV 1 hts gX6_colour_X6_take rfl rfl rfl (by decide +kernel) ⟨Nat.le_of_ble_eq_true rfl, Nat.le_of_ble_eq_true rfl⟩) ⟨mu_blind, va_recv hK hP (ci := 4) (q0 := 0) rfl rfl, fun U hU hW => ⟨rfl, by rw [hU], by rw [hU]; exact hP, va_K.moved hW.alike (hK.sub [0, 1, 2] rfl), hD.weaken (fun _ _ _ _ => trivial)⟩⟩ rfl rfl hl.1 rfl (lv_room (Nat.le_of_ble_eq_true rfl)) dX6_colour_31 ⟨Nat.le_refl _, Nat.le_refl _⟩) hP hD hS hA [0, 1, 2, 3, 4, 5, 6, 7, 8, 9, 10, 11, 12] [] [0, 1, 2, 3, 4, 5, 6, 7, 8, 9, 10, 11, 12] rfl rfl (by decide) (by decide) (by decide) rfl (by decide) rfl (fun H locs hP hD hS => ?_)
      refine W.eq (g2 := F0 m 34 ls []) rfl ?_
      exact Ks34  ((cf_X6_fails m_th y0).1) ((cf_X6_take g_F g_R g_C g_L m_rl m_lf m_ov m_pl).1) ((cf_X6_take g_F g_R g_C g_L m_rl m_lf m_ov m_pl).2.1) ((cf_X6_take g_F g_R g_C g_L m_rl m_lf m_ov m_pl).2.2.1) ((cf_X6_take g_F g_R g_C g_L m_rl m_lf m_ov m_pl).2.2.2.1) ((cf_X6_take g_F g_R g_C g_L m_rl m_lf m_ov m_pl).2.2.2.2.1) ((cf_X6_take g_F g_R g_C g_L m_rl m_lf m_ov m_pl).2.2.2.2.2.1) ((cf_X6_take g_F g_R g_C g_L m_rl m_lf m_ov m_pl).2.2.2.2.2.2) x1 H locs ls hP hD hS (lv_sub hl [0, 1] rfl) hV hR
    · rw [if_neg c_2] at hR
      refine lv_iconst (v := (0 : Int32)) hx hb dX6_colour_24 (by decide +kernel) ?_
      rw [← hR]
      exact W.iret (v := (0 : Int32)) hx hb hr (fun t ht _ => ⟨rfl, by rw [ht]; exact hP, hS.F ht⟩) hS.2.2 dX6_colour_25
  have Ks13 : ∀  (m_th : Int32) (g_F : Nat → Int32) (g_R : Nat → Int32) (g_C : Nat → Int32) (g_L : Nat → Int32) (m_rl : Int32) (m_lf : Int32) (m_ov : Int32) (x1 : Int32) (H : Heap) (locs : List Loc) (ls : Array Slot), va_P (dC, dI) kcl (mo_W q6 qA qB qF qR qC qL qS qO qY qH qW qM cyI cyJ cyZ m_th m_o m_f m_r m_b m_a u_F u_R g_F g_R g_C g_L m_rl m_lf m_ov m_pl g_S g_O g_Y g_H m_st g_W m_rm m_fs g_M) H → va_D A (mo_W q6 qA qB qF qR qC qL qS qO qY qH qW qM cyI cyJ cyZ m_th m_o m_f m_r m_b m_a u_F u_R g_F g_R g_C g_L m_rl m_lf m_ov m_pl g_S g_O g_Y g_H m_st g_W m_rm m_fs g_M) → va_S A s.heap H locs → lv_has ls 2 [(0, .ref q6), (1, .int x1)] → vc_X6_colour_s13  m_th m_o g_F g_R g_C g_L m_rl m_lf m_ov m_pl x1 → cf_X6_colour_s13  m_th m_o g_F g_R g_C g_L m_rl m_lf m_ov m_pl x1 = R → W p l e (headSpec wsX6_colour ({ frames := 1, cells := 0, slots := 0, locals := 25 })).room s m ([.ref q6, .int a0] : List Value).toArray below meth c H locs 0 0 (MQ below (mu_Q (some (.int R.2.2.2.2.2.2.2.2)) (dC, dI) kcl (mo_W q6 qA qB qF qR qC qL qS qO qY qH qW qM cyI cyJ cyZ R.1 m_o m_f m_r m_b m_a u_F u_R R.2.1 R.2.2.1 R.2.2.2.1 R.2.2.2.2.1 R.2.2.2.2.2.1 R.2.2.2.2.2.2.1 R.2.2.2.2.2.2.2.1 m_pl g_S g_O g_Y g_H m_st g_W m_rm m_fs g_M) A) ([.ref q6, .int a0] : List Value).toArray s 0 0 A) (F0 m 13 ls [.ref q6]) := by
    intro  m_th g_F g_R g_C g_L m_rl m_lf m_ov x1 H locs ls hP hD hS hl hV hR
    unfold cf_X6_colour_s13 at hR
    unfold vc_X6_colour_s13 at hV
    refine lv_iconst (v := (1 : Int32)) hx hb dX6_colour_13 (by decide +kernel) ?_
    refine lv_goto (tgt := 18) hx hb dX6_colour_14 (by decide) ?_
    exact Ks18  m_th g_F g_R g_C g_L m_rl m_lf m_ov x1 (1 : Int32) H locs ls hP hD hS (lv_sub hl [0, 1] rfl) hV hR
  have hl := lv_entry ([.ref q6, .int a0]) (n := 2) (Nat.le_of_ble_eq_true rfl)
  rw [lg_entry_eq]
  generalize (lg_sl ([.ref q6, .int a0]) ++ List.replicate (2 - (lg_sl ([.ref q6, .int a0])).length) Slot.unset).toArray = ls at hl ⊢
  have hl : lv_has ls 2 [(0, .ref q6), (1, .int a0)] := hl
  unfold cf_X6_colour at hR
  unfold vc_X6_colour at hV
  refine mu_start (A := A) (fun H locs hP hS => ?_) hP
  refine lv_aload_n hx hb dX6_colour_0 rfl (lv_at hl 0 rfl) ?_
  refine lv_iload_n hx hb dX6_colour_1 rfl (lv_at hl 1 rfl) ?_
  refine lv_if_lt (tgt := 13) hx hb dX6_colour_2 (by decide) (fun c_1 => ?_) (fun c_1 => ?_)
  · rw [if_pos c_1] at hR
    have hV := hV.1 c_1
    exact Ks13  m_th g_F g_R g_C g_L m_rl m_lf m_ov a0 H locs ls hP hD hS (lv_sub hl [0, 1] rfl) hV hR
  · rw [if_neg c_1] at hR
    have hV := hV.2 c_1
    refine lv_iload_n hx hb dX6_colour_5 rfl (lv_at hl 1 rfl) ?_
    refine lv_aload_n hx hb dX6_colour_6 rfl (lv_at hl 0 rfl) ?_
    refine va_get (D := (dC, dI)) (ci := 4) (v := .int m_o) (C := RX6) (T := TX6) (N := 25) hx hb hts h1_ hown hK hP 0 rfl rfl 1 (by decide) h3_ (fun _ h9 => h9) rfl dX6_colour_7 ?_
    refine lv_icmp_lt (tgt := 17) hx hb dX6_colour_10 (by decide) (fun c_4 => ?_) (fun c_4 => ?_)
    · rw [if_pos c_4] at hR
      have hV := hV.1 c_4
      refine lv_iconst (v := (0 : Int32)) hx hb dX6_colour_17 (by decide +kernel) ?_
      exact Ks18  m_th g_F g_R g_C g_L m_rl m_lf m_ov a0 (0 : Int32) H locs ls hP hD hS (lv_sub hl [0, 1] rfl) hV hR
    · rw [if_neg c_4] at hR
      have hV := hV.2 c_4
      exact Ks13  m_th g_F g_R g_C g_L m_rl m_lf m_ov a0 H locs ls hP hD hS (lv_sub hl [0, 1] rfl) hV hR
def cf_X6_field_s46  (m_th : Int32) (m_o : Int32) (m_f : Int32) (g_F : Nat → Int32) (g_R : Nat → Int32) (g_C : Nat → Int32) (g_L : Nat → Int32) (m_rl : Int32) (m_lf : Int32) (m_ov : Int32) (m_pl : Int64) (x1 : Int32) (x2 : Int32) : Int32 × (Nat → Int32) × (Nat → Int32) × (Nat → Int32) × (Nat → Int32) × Int32 × Int32 × Int32 × Int32 :=
  (m_th, g_F, g_R, g_C, g_L, m_rl, m_lf, m_ov, (g_F ((((2 : Int32) * x1) + x2)).toNatClampNeg))
def vc_X6_field_s46  (m_th : Int32) (m_o : Int32) (m_f : Int32) (g_F : Nat → Int32) (g_R : Nat → Int32) (g_C : Nat → Int32) (g_L : Nat → Int32) (m_rl : Int32) (m_lf : Int32) (m_ov : Int32) (m_pl : Int64) (x1 : Int32) (x2 : Int32) : Prop :=
  (vp_in (((2 : Int32) * x1) + x2) 8 ∧ True)
def cf_X6_field_s30  (m_th : Int32) (m_o : Int32) (m_f : Int32) (g_F : Nat → Int32) (g_R : Nat → Int32) (g_C : Nat → Int32) (g_L : Nat → Int32) (m_rl : Int32) (m_lf : Int32) (m_ov : Int32) (m_pl : Int64) (x1 : Int32) (x2 : Int32) (y0 : Int32) : Int32 × (Nat → Int32) × (Nat → Int32) × (Nat → Int32) × (Nat → Int32) × Int32 × Int32 × Int32 × Int32 :=
  (if (cf_X6_fails m_th y0).2 = 0 then cf_X6_field_s46  ((cf_X6_fails m_th y0).1) m_o m_f ((cf_X6_take g_F g_R g_C g_L m_rl m_lf m_ov m_pl).1) ((cf_X6_take g_F g_R g_C g_L m_rl m_lf m_ov m_pl).2.1) ((cf_X6_take g_F g_R g_C g_L m_rl m_lf m_ov m_pl).2.2.1) ((cf_X6_take g_F g_R g_C g_L m_rl m_lf m_ov m_pl).2.2.2.1) ((cf_X6_take g_F g_R g_C g_L m_rl m_lf m_ov m_pl).2.2.2.2.1) ((cf_X6_take g_F g_R g_C g_L m_rl m_lf m_ov m_pl).2.2.2.2.2.1) ((cf_X6_take g_F g_R g_C g_L m_rl m_lf m_ov m_pl).2.2.2.2.2.2) m_pl x1 x2 else ((cf_X6_fails m_th y0).1, g_F, g_R, g_C, g_L, m_rl, m_lf, m_ov, (0 : Int32)))
def vc_X6_field_s30  (m_th : Int32) (m_o : Int32) (m_f : Int32) (g_F : Nat → Int32) (g_R : Nat → Int32) (g_C : Nat → Int32) (g_L : Nat → Int32) (m_rl : Int32) (m_lf : Int32) (m_ov : Int32) (m_pl : Int64) (x1 : Int32) (x2 : Int32) (y0 : Int32) : Prop :=
  (((cf_X6_fails m_th y0).2 = 0 → vc_X6_field_s46  ((cf_X6_fails m_th y0).1) m_o m_f ((cf_X6_take g_F g_R g_C g_L m_rl m_lf m_ov m_pl).1) ((cf_X6_take g_F g_R g_C g_L m_rl m_lf m_ov m_pl).2.1) ((cf_X6_take g_F g_R g_C g_L m_rl m_lf m_ov m_pl).2.2.1) ((cf_X6_take g_F g_R g_C g_L m_rl m_lf m_ov m_pl).2.2.2.1) ((cf_X6_take g_F g_R g_C g_L m_rl m_lf m_ov m_pl).2.2.2.2.1) ((cf_X6_take g_F g_R g_C g_L m_rl m_lf m_ov m_pl).2.2.2.2.2.1) ((cf_X6_take g_F g_R g_C g_L m_rl m_lf m_ov m_pl).2.2.2.2.2.2) m_pl x1 x2) ∧ (¬ (cf_X6_fails m_th y0).2 = 0 → True))
def cf_X6_field_s25  (m_th : Int32) (m_o : Int32) (m_f : Int32) (g_F : Nat → Int32) (g_R : Nat → Int32) (g_C : Nat → Int32) (g_L : Nat → Int32) (m_rl : Int32) (m_lf : Int32) (m_ov : Int32) (m_pl : Int64) (x1 : Int32) (x2 : Int32) : Int32 × (Nat → Int32) × (Nat → Int32) × (Nat → Int32) × (Nat → Int32) × Int32 × Int32 × Int32 × Int32 :=
  cf_X6_field_s30  m_th m_o m_f g_F g_R g_C g_L m_rl m_lf m_ov m_pl x1 x2 (1 : Int32)
def vc_X6_field_s25  (m_th : Int32) (m_o : Int32) (m_f : Int32) (g_F : Nat → Int32) (g_R : Nat → Int32) (g_C : Nat → Int32) (g_L : Nat → Int32) (m_rl : Int32) (m_lf : Int32) (m_ov : Int32) (m_pl : Int64) (x1 : Int32) (x2 : Int32) : Prop :=
  vc_X6_field_s30  m_th m_o m_f g_F g_R g_C g_L m_rl m_lf m_ov m_pl x1 x2 (1 : Int32)
def cf_X6_field (m_th : Int32) (m_o : Int32) (m_f : Int32) (g_F : Nat → Int32) (g_R : Nat → Int32) (g_C : Nat → Int32) (g_L : Nat → Int32) (m_rl : Int32) (m_lf : Int32) (m_ov : Int32) (m_pl : Int64) (a0 : Int32) (a1 : Int32) : Int32 × (Nat → Int32) × (Nat → Int32) × (Nat → Int32) × (Nat → Int32) × Int32 × Int32 × Int32 × Int32 :=
  (if a0 < 0 then cf_X6_field_s25  m_th m_o m_f g_F g_R g_C g_L m_rl m_lf m_ov m_pl a0 a1 else (if m_o ≤ a0 then cf_X6_field_s25  m_th m_o m_f g_F g_R g_C g_L m_rl m_lf m_ov m_pl a0 a1 else (if a1 < 0 then cf_X6_field_s25  m_th m_o m_f g_F g_R g_C g_L m_rl m_lf m_ov m_pl a0 a1 else (if a1 < m_f then cf_X6_field_s30  m_th m_o m_f g_F g_R g_C g_L m_rl m_lf m_ov m_pl a0 a1 (0 : Int32) else cf_X6_field_s25  m_th m_o m_f g_F g_R g_C g_L m_rl m_lf m_ov m_pl a0 a1))))
def vc_X6_field (m_th : Int32) (m_o : Int32) (m_f : Int32) (g_F : Nat → Int32) (g_R : Nat → Int32) (g_C : Nat → Int32) (g_L : Nat → Int32) (m_rl : Int32) (m_lf : Int32) (m_ov : Int32) (m_pl : Int64) (a0 : Int32) (a1 : Int32) : Prop :=
  ((a0 < 0 → vc_X6_field_s25  m_th m_o m_f g_F g_R g_C g_L m_rl m_lf m_ov m_pl a0 a1) ∧ (¬ a0 < 0 → ((m_o ≤ a0 → vc_X6_field_s25  m_th m_o m_f g_F g_R g_C g_L m_rl m_lf m_ov m_pl a0 a1) ∧ (¬ m_o ≤ a0 → ((a1 < 0 → vc_X6_field_s25  m_th m_o m_f g_F g_R g_C g_L m_rl m_lf m_ov m_pl a0 a1) ∧ (¬ a1 < 0 → ((a1 < m_f → vc_X6_field_s30  m_th m_o m_f g_F g_R g_C g_L m_rl m_lf m_ov m_pl a0 a1 (0 : Int32)) ∧ (¬ a1 < m_f → vc_X6_field_s25  m_th m_o m_f g_F g_R g_C g_L m_rl m_lf m_ov m_pl a0 a1))))))))
set_option maxHeartbeats 4000000 in
set_option maxRecDepth 100000 in
theorem c_X6_field (l : Launch) (dC : Nat → ClassId) (dI : Nat → Nat → Nat) (q6 qA qB qF qR qC qL qS qO qY qH qW qM : Nat) (cyI cyJ cyZ : ClassId) (m_th : Int32) (m_o : Int32) (m_f : Int32) (m_r : Int32) (m_b : Int32) (m_a : Int32) (u_F : Nat → Int32) (u_R : Nat → Int32) (g_F : Nat → Int32) (g_R : Nat → Int32) (g_C : Nat → Int32) (g_L : Nat → Int32) (m_rl : Int32) (m_lf : Int32) (m_ov : Int32) (m_pl : Int64) (g_S : Nat → Int64) (g_O : Nat → Int32) (g_Y : Nat → Int32) (g_H : Nat → Int32) (m_st : Int32) (g_W : Nat → Int32) (m_rm : Int32) (m_fs : Int32) (g_M : Nat → Int32) (sz : Nat) (a0 : Int32) (a1 : Int32)  (hV : vc_X6_field m_th m_o m_f g_F g_R g_C g_L m_rl m_lf m_ov m_pl a0 a1) : Met l yX6_field wsX6_field ({ frames := 1, cells := 0, slots := 0, locals := 25 }) (mu_P [.ref q6, .int a0, .int a1] sz (dC, dI) kcl (mo_W q6 qA qB qF qR qC qL qS qO qY qH qW qM cyI cyJ cyZ m_th m_o m_f m_r m_b m_a u_F u_R g_F g_R g_C g_L m_rl m_lf m_ov m_pl g_S g_O g_Y g_H m_st g_W m_rm m_fs g_M) [(cyI, .int), (cyJ, .long), (cyZ, .boolean)]) (mu_Q (some (.int ((cf_X6_field m_th m_o m_f g_F g_R g_C g_L m_rl m_lf m_ov m_pl a0 a1).2.2.2.2.2.2.2.2))) (dC, dI) kcl (mo_W q6 qA qB qF qR qC qL qS qO qY qH qW qM cyI cyJ cyZ ((cf_X6_field m_th m_o m_f g_F g_R g_C g_L m_rl m_lf m_ov m_pl a0 a1).1) m_o m_f m_r m_b m_a u_F u_R ((cf_X6_field m_th m_o m_f g_F g_R g_C g_L m_rl m_lf m_ov m_pl a0 a1).2.1) ((cf_X6_field m_th m_o m_f g_F g_R g_C g_L m_rl m_lf m_ov m_pl a0 a1).2.2.1) ((cf_X6_field m_th m_o m_f g_F g_R g_C g_L m_rl m_lf m_ov m_pl a0 a1).2.2.2.1) ((cf_X6_field m_th m_o m_f g_F g_R g_C g_L m_rl m_lf m_ov m_pl a0 a1).2.2.2.2.1) ((cf_X6_field m_th m_o m_f g_F g_R g_C g_L m_rl m_lf m_ov m_pl a0 a1).2.2.2.2.2.1) ((cf_X6_field m_th m_o m_f g_F g_R g_C g_L m_rl m_lf m_ov m_pl a0 a1).2.2.2.2.2.2.1) ((cf_X6_field m_th m_o m_f g_F g_R g_C g_L m_rl m_lf m_ov m_pl a0 a1).2.2.2.2.2.2.2.1) m_pl g_S g_O g_Y g_H m_st g_W m_rm m_fs g_M) (va_A (mo_W q6 qA qB qF qR qC qL qS qO qY qH qW qM cyI cyJ cyZ m_th m_o m_f m_r m_b m_a u_F u_R g_F g_R g_C g_L m_rl m_lf m_ov m_pl g_S g_O g_Y g_H m_st g_W m_rm m_fs g_M) sz)) 0 0 (va_A (mo_W q6 qA qB qF qR qC qL qS qO qY qH qW qM cyI cyJ cyZ m_th m_o m_f m_r m_b m_a u_F u_R g_F g_R g_C g_L m_rl m_lf m_ov m_pl g_S g_O g_Y g_H m_st g_W m_rm m_fs g_M) sz) := by
  refine Met.ofW (cc := cX6_field) (maxL := 3) (ret := (some .int)) (by decide) rfl ?_
  intro p e s m args below meth c s₁ B hml hv
  obtain ⟨rfl, hsz, hP, hK, hD0⟩ := hv
  have hx := B.exec
  have hb := B.bytes
  have hr := B.returns
  have hts := atoms_spec (ws := wsX6_field) B.pre
  have hown : s.vm.findClass RX6 = some m.cls := findClass_of_methodNamed B.named
  have hlocks := B.notSynchronized
  subst hsz
  have hD := hD0.self (sz := s.heap.size)
  generalize hAe : va_A (mo_W q6 qA qB qF qR qC qL qS qO qY qH qW qM cyI cyJ cyZ m_th m_o m_f m_r m_b m_a u_F u_R g_F g_R g_C g_L m_rl m_lf m_ov m_pl g_S g_O g_Y g_H m_st g_W m_rm m_fs g_M) s.heap.size = A at hD ⊢
  have hA : ∀ q : Nat, s.heap.size ≤ q → A q := fun q h => by rw [← hAe]; exact Or.inr h
  have hP : va_P (dC, dI) kcl (mo_W q6 qA qB qF qR qC qL qS qO qY qH qW qM cyI cyJ cyZ m_th m_o m_f m_r m_b m_a u_F u_R g_F g_R g_C g_L m_rl m_lf m_ov m_pl g_S g_O g_Y g_H m_st g_W m_rm m_fs g_M) s.heap := hP
  have h0_ : (Cond.fieldLink RX6 66 "ColourTrierModel" "played" "J").before _ s = true := hts _ (by decide +kernel)
  have h1_ : ∀ w ∈ u_ws RX6 TX6 25, w ∈ wsX6_field := fun w h => List.mem_cons_of_mem _ (List.mem_append_right _ h)
  have h2_ : (Cond.fieldLink RX6 29 "ColourTrierModel" "field" "[I").before _ s = true := hts _ (by decide +kernel)
  have h3_ : (Cond.fieldLink RX6 13 "ColourTrierModel" "objects" "I").before _ s = true := hts _ (by decide +kernel)
  have h4_ : (Cond.fieldLink RX6 16 "ColourTrierModel" "fields" "I").before _ s = true := hts _ (by decide +kernel)
  generalize hR : (cf_X6_field m_th m_o m_f g_F g_R g_C g_L m_rl m_lf m_ov m_pl a0 a1) = R
  have Ks46 : ∀  (m_th : Int32) (g_F : Nat → Int32) (g_R : Nat → Int32) (g_C : Nat → Int32) (g_L : Nat → Int32) (m_rl : Int32) (m_lf : Int32) (m_ov : Int32) (x1 : Int32) (x2 : Int32) (H : Heap) (locs : List Loc) (ls : Array Slot), va_P (dC, dI) kcl (mo_W q6 qA qB qF qR qC qL qS qO qY qH qW qM cyI cyJ cyZ m_th m_o m_f m_r m_b m_a u_F u_R g_F g_R g_C g_L m_rl m_lf m_ov m_pl g_S g_O g_Y g_H m_st g_W m_rm m_fs g_M) H → va_D A (mo_W q6 qA qB qF qR qC qL qS qO qY qH qW qM cyI cyJ cyZ m_th m_o m_f m_r m_b m_a u_F u_R g_F g_R g_C g_L m_rl m_lf m_ov m_pl g_S g_O g_Y g_H m_st g_W m_rm m_fs g_M) → va_S A s.heap H locs → lv_has ls 3 [(0, .ref q6), (1, .int x1), (2, .int x2)] → vc_X6_field_s46  m_th m_o m_f g_F g_R g_C g_L m_rl m_lf m_ov m_pl x1 x2 → cf_X6_field_s46  m_th m_o m_f g_F g_R g_C g_L m_rl m_lf m_ov m_pl x1 x2 = R → W p l e (headSpec wsX6_field ({ frames := 1, cells := 0, slots := 0, locals := 25 })).room s m ([.ref q6, .int a0, .int a1] : List Value).toArray below meth c H locs 0 0 (MQ below (mu_Q (some (.int R.2.2.2.2.2.2.2.2)) (dC, dI) kcl (mo_W q6 qA qB qF qR qC qL qS qO qY qH qW qM cyI cyJ cyZ R.1 m_o m_f m_r m_b m_a u_F u_R R.2.1 R.2.2.1 R.2.2.2.1 R.2.2.2.2.1 R.2.2.2.2.2.1 R.2.2.2.2.2.2.1 R.2.2.2.2.2.2.2.1 m_pl g_S g_O g_Y g_H m_st g_W m_rm m_fs g_M) A) ([.ref q6, .int a0, .int a1] : List Value).toArray s 0 0 A) (F0 m 46 ls []) := by
    intro  m_th g_F g_R g_C g_L m_rl m_lf m_ov x1 x2 H locs ls hP hD hS hl hV hR
    unfold cf_X6_field_s46 at hR
    unfold vc_X6_field_s46 at hV
    refine lv_aload_n hx hb dX6_field_46 rfl (lv_at hl 0 rfl) ?_
    refine va_get (D := (dC, dI)) (ci := 4) (v := .ref qF) (C := RX6) (T := TX6) (N := 25) hx hb hts h1_ hown hK hP 0 rfl rfl 8 (by decide) h2_ (fun _ h9 => h9) rfl dX6_field_47 ?_
    refine lv_iconst (v := (2 : Int32)) hx hb dX6_field_50 (by decide +kernel) ?_
    refine lv_iload_n hx hb dX6_field_51 rfl (lv_at hl 1 rfl) ?_
    refine lv_imul hx hb dX6_field_52 ?_
    refine lv_iload_n hx hb dX6_field_53 rfl (lv_at hl 2 rfl) ?_
    refine lv_iadd hx hb dX6_field_54 ?_
    obtain ⟨hi3, hV⟩ := hV
    refine va_iald hx hb hK hP 3 0 rfl rfl hi3 dX6_field_55 ?_
    rw [← hR]
    exact W.iret (v := (g_F ((((2 : Int32) * x1) + x2)).toNatClampNeg)) hx hb hr (fun t ht _ => ⟨rfl, by rw [ht]; exact hP, hS.F ht⟩) hS.2.2 dX6_field_56
  have Ks30 : ∀  (m_th : Int32) (g_F : Nat → Int32) (g_R : Nat → Int32) (g_C : Nat → Int32) (g_L : Nat → Int32) (m_rl : Int32) (m_lf : Int32) (m_ov : Int32) (x1 : Int32) (x2 : Int32) (y0 : Int32) (H : Heap) (locs : List Loc) (ls : Array Slot), va_P (dC, dI) kcl (mo_W q6 qA qB qF qR qC qL qS qO qY qH qW qM cyI cyJ cyZ m_th m_o m_f m_r m_b m_a u_F u_R g_F g_R g_C g_L m_rl m_lf m_ov m_pl g_S g_O g_Y g_H m_st g_W m_rm m_fs g_M) H → va_D A (mo_W q6 qA qB qF qR qC qL qS qO qY qH qW qM cyI cyJ cyZ m_th m_o m_f m_r m_b m_a u_F u_R g_F g_R g_C g_L m_rl m_lf m_ov m_pl g_S g_O g_Y g_H m_st g_W m_rm m_fs g_M) → va_S A s.heap H locs → lv_has ls 3 [(0, .ref q6), (1, .int x1), (2, .int x2)] → vc_X6_field_s30  m_th m_o m_f g_F g_R g_C g_L m_rl m_lf m_ov m_pl x1 x2 y0 → cf_X6_field_s30  m_th m_o m_f g_F g_R g_C g_L m_rl m_lf m_ov m_pl x1 x2 y0 = R → W p l e (headSpec wsX6_field ({ frames := 1, cells := 0, slots := 0, locals := 25 })).room s m ([.ref q6, .int a0, .int a1] : List Value).toArray below meth c H locs 0 0 (MQ below (mu_Q (some (.int R.2.2.2.2.2.2.2.2)) (dC, dI) kcl (mo_W q6 qA qB qF qR qC qL qS qO qY qH qW qM cyI cyJ cyZ R.1 m_o m_f m_r m_b m_a u_F u_R R.2.1 R.2.2.1 R.2.2.2.1 R.2.2.2.2.1 R.2.2.2.2.2.1 R.2.2.2.2.2.2.1 R.2.2.2.2.2.2.2.1 m_pl g_S g_O g_Y g_H m_st g_W m_rm m_fs g_M) A) ([.ref q6, .int a0, .int a1] : List Value).toArray s 0 0 A) (F0 m 30 ls [.int y0, .ref q6]) := by
    intro  m_th g_F g_R g_C g_L m_rl m_lf m_ov x1 x2 y0 H locs ls hP hD hS hl hV hR
    unfold cf_X6_field_s30 at hR
    unfold vc_X6_field_s30 at hV
    refine mu_call (ws' := (mo_W q6 qA qB qF qR qC qL qS qO qY qH qW qM cyI cyJ cyZ ((cf_X6_fails m_th y0).1) m_o m_f m_r m_b m_a u_F u_R g_F g_R g_C g_L m_rl m_lf m_ov m_pl g_S g_O g_Y g_H m_st g_W m_rm m_fs g_M)) (wr := []) (va_runV (As := [.int y0]) (rest := []) ⟨hx, hb, hml, hown, hts⟩ (c_X6_fails l dC dI q6 qA qB qF qR qC qL qS qO qY qH qW qM cyI cyJ cyZ m_th m_o m_f m_r m_b m_a u_F u_R g_F g_R g_C g_L m_rl m_lf m_ov m_pl g_S g_O g_Y g_H m_st g_W m_rm m_fs g_M H.size y0  ) (cwV 1 hts gX6_field_X6_fails rfl rfl rfl (by decide +kernel) ⟨Nat.le_of_ble_eq_true rfl, Nat.le_of_ble_eq_true rfl⟩) ⟨mu_blind, va_recv hK hP (ci := 4) (q0 := 0) rfl rfl, fun U hU hW => ⟨rfl, by rw [hU], by rw [hU]; exact hP, va_K.moved hW.alike (hK.sub [0, 1, 2] rfl), hD.weaken (fun _ _ _ _ => trivial)⟩⟩ rfl rfl hl.1 rfl (lv_room (Nat.le_of_ble_eq_true rfl)) dX6_field_30 ⟨Nat.le_refl _, Nat.le_refl _⟩) hP hD hS hA [0, 1, 2, 3, 4, 5, 6, 7, 8, 9, 10, 11, 12] [] [0, 1, 2, 3, 4, 5, 6, 7, 8, 9, 10, 11, 12] rfl rfl (by decide) (by decide) (by decide) rfl (by decide) rfl (fun H locs hP hD hS => ?_)
    refine W.eq (g2 := F0 m 33 ls [.int ((cf_X6_fails m_th y0).2)]) rfl ?_
    refine lv_if_eq (tgt := 38) hx hb dX6_field_33 (by decide) (fun c_2 => ?_) (fun c_2 => ?_)
    · rw [if_pos c_2] at hR
      have hV := hV.1 c_2
      refine lv_aload_n hx hb dX6_field_38 rfl (lv_at hl 0 rfl) ?_
      refine lv_aload_n hx hb dX6_field_39 rfl (lv_at hl 0 rfl) ?_
      refine va_get (D := (dC, dI)) (ci := 4) (v := .long m_pl) (C := RX6) (T := TX6) (N := 25) hx hb hts h1_ hown hK hP 0 rfl rfl 15 (by decide) h0_ (fun _ h9 => h9) rfl dX6_field_40 ?_
      refine mu_call (ws' := (mo_W q6 qA qB qF qR qC qL qS qO qY qH qW qM cyI cyJ cyZ ((cf_X6_fails m_th y0).1) m_o m_f m_r m_b m_a u_F u_R ((cf_X6_take g_F g_R g_C g_L m_rl m_lf m_ov m_pl).1) ((cf_X6_take g_F g_R g_C g_L m_rl m_lf m_ov m_pl).2.1) ((cf_X6_take g_F g_R g_C g_L m_rl m_lf m_ov m_pl).2.2.1) ((cf_X6_take g_F g_R g_C g_L m_rl m_lf m_ov m_pl).2.2.2.1) ((cf_X6_take g_F g_R g_C g_L m_rl m_lf m_ov m_pl).2.2.2.2.1) ((cf_X6_take g_F g_R g_C g_L m_rl m_lf m_ov m_pl).2.2.2.2.2.1) ((cf_X6_take g_F g_R g_C g_L m_rl m_lf m_ov m_pl).2.2.2.2.2.2) m_pl g_S g_O g_Y g_H m_st g_W m_rm m_fs g_M)) (wr := []) (va_runV (As := [.long m_pl]) (rest := []) ⟨hx, hb, hml, hown, hts⟩ (c_X6_take l dC dI q6 qA qB qF qR qC qL qS qO qY qH qW qM cyI cyJ cyZ ((cf_X6_fails m_th y0).1) m_o m_f m_r m_b m_a u_F u_R g_F g_R g_C g_L m_rl m_lf m_ov m_pl g_S g_O g_Y g_H m_st g_W m_rm m_fs g_M H.size m_pl  ) (cwV 1 hts gX6_field_X6_take rfl rfl rfl (by decide +kernel) ⟨Nat.le_of_ble_eq_true rfl, Nat.le_of_ble_eq_true rfl⟩) ⟨mu_blind, va_recv hK hP (ci := 4) (q0 := 0) rfl rfl, fun U hU hW => ⟨rfl, by rw [hU], by rw [hU]; exact hP, va_K.moved hW.alike (hK.sub [0, 1, 2] rfl), hD.weaken (fun _ _ _ _ => trivial)⟩⟩ rfl rfl hl.1 rfl (lv_room (Nat.le_of_ble_eq_true rfl)) dX6_field_43 ⟨Nat.le_refl _, Nat.le_refl _⟩) hP hD hS hA [0, 1, 2, 3, 4, 5, 6, 7, 8, 9, 10, 11, 12] [] [0, 1, 2, 3, 4, 5, 6, 7, 8, 9, 10, 11, 12] rfl rfl (by decide) (by decide) (by decide) rfl (by decide) rfl (fun H locs hP hD hS => ?_)
      refine W.eq (g2 := F0 m 46 ls []) rfl ?_
      exact Ks46  ((cf_X6_fails m_th y0).1) ((cf_X6_take g_F g_R g_C g_L m_rl m_lf m_ov m_pl).1) ((cf_X6_take g_F g_R g_C g_L m_rl m_lf m_ov m_pl).2.1) ((cf_X6_take g_F g_R g_C g_L m_rl m_lf m_ov m_pl).2.2.1) ((cf_X6_take g_F g_R g_C g_L m_rl m_lf m_ov m_pl).2.2.2.1) ((cf_X6_take g_F g_R g_C g_L m_rl m_lf m_ov m_pl).2.2.2.2.1) ((cf_X6_take g_F g_R g_C g_L m_rl m_lf m_ov m_pl).2.2.2.2.2.1) ((cf_X6_take g_F g_R g_C g_L m_rl m_lf m_ov m_pl).2.2.2.2.2.2) x1 x2 H locs ls hP hD hS (lv_sub hl [0, 1, 2] rfl) hV hR
    · rw [if_neg c_2] at hR
      refine lv_iconst (v := (0 : Int32)) hx hb dX6_field_36 (by decide +kernel) ?_
      rw [← hR]
      exact W.iret (v := (0 : Int32)) hx hb hr (fun t ht _ => ⟨rfl, by rw [ht]; exact hP, hS.F ht⟩) hS.2.2 dX6_field_37
  have Ks25 : ∀  (m_th : Int32) (g_F : Nat → Int32) (g_R : Nat → Int32) (g_C : Nat → Int32) (g_L : Nat → Int32) (m_rl : Int32) (m_lf : Int32) (m_ov : Int32) (x1 : Int32) (x2 : Int32) (H : Heap) (locs : List Loc) (ls : Array Slot), va_P (dC, dI) kcl (mo_W q6 qA qB qF qR qC qL qS qO qY qH qW qM cyI cyJ cyZ m_th m_o m_f m_r m_b m_a u_F u_R g_F g_R g_C g_L m_rl m_lf m_ov m_pl g_S g_O g_Y g_H m_st g_W m_rm m_fs g_M) H → va_D A (mo_W q6 qA qB qF qR qC qL qS qO qY qH qW qM cyI cyJ cyZ m_th m_o m_f m_r m_b m_a u_F u_R g_F g_R g_C g_L m_rl m_lf m_ov m_pl g_S g_O g_Y g_H m_st g_W m_rm m_fs g_M) → va_S A s.heap H locs → lv_has ls 3 [(0, .ref q6), (1, .int x1), (2, .int x2)] → vc_X6_field_s25  m_th m_o m_f g_F g_R g_C g_L m_rl m_lf m_ov m_pl x1 x2 → cf_X6_field_s25  m_th m_o m_f g_F g_R g_C g_L m_rl m_lf m_ov m_pl x1 x2 = R → W p l e (headSpec wsX6_field ({ frames := 1, cells := 0, slots := 0, locals := 25 })).room s m ([.ref q6, .int a0, .int a1] : List Value).toArray below meth c H locs 0 0 (MQ below (mu_Q (some (.int R.2.2.2.2.2.2.2.2)) (dC, dI) kcl (mo_W q6 qA qB qF qR qC qL qS qO qY qH qW qM cyI cyJ cyZ R.1 m_o m_f m_r m_b m_a u_F u_R R.2.1 R.2.2.1 R.2.2.2.1 R.2.2.2.2.1 R.2.2.2.2.2.1 R.2.2.2.2.2.2.1 R.2.2.2.2.2.2.2.1 m_pl g_S g_O g_Y g_H m_st g_W m_rm m_fs g_M) A) ([.ref q6, .int a0, .int a1] : List Value).toArray s 0 0 A) (F0 m 25 ls [.ref q6]) := by
    intro  m_th g_F g_R g_C g_L m_rl m_lf m_ov x1 x2 H locs ls hP hD hS hl hV hR
    unfold cf_X6_field_s25 at hR
    unfold vc_X6_field_s25 at hV
    refine lv_iconst (v := (1 : Int32)) hx hb dX6_field_25 (by decide +kernel) ?_
    refine lv_goto (tgt := 30) hx hb dX6_field_26 (by decide) ?_
    exact Ks30  m_th g_F g_R g_C g_L m_rl m_lf m_ov x1 x2 (1 : Int32) H locs ls hP hD hS (lv_sub hl [0, 1, 2] rfl) hV hR
  have hl := lv_entry ([.ref q6, .int a0, .int a1]) (n := 3) (Nat.le_of_ble_eq_true rfl)
  rw [lg_entry_eq]
  generalize (lg_sl ([.ref q6, .int a0, .int a1]) ++ List.replicate (3 - (lg_sl ([.ref q6, .int a0, .int a1])).length) Slot.unset).toArray = ls at hl ⊢
  have hl : lv_has ls 3 [(0, .ref q6), (1, .int a0), (2, .int a1)] := hl
  unfold cf_X6_field at hR
  unfold vc_X6_field at hV
  refine mu_start (A := A) (fun H locs hP hS => ?_) hP
  refine lv_aload_n hx hb dX6_field_0 rfl (lv_at hl 0 rfl) ?_
  refine lv_iload_n hx hb dX6_field_1 rfl (lv_at hl 1 rfl) ?_
  refine lv_if_lt (tgt := 25) hx hb dX6_field_2 (by decide) (fun c_1 => ?_) (fun c_1 => ?_)
  · rw [if_pos c_1] at hR
    have hV := hV.1 c_1
    exact Ks25  m_th g_F g_R g_C g_L m_rl m_lf m_ov a0 a1 H locs ls hP hD hS (lv_sub hl [0, 1, 2] rfl) hV hR
  · rw [if_neg c_1] at hR
    have hV := hV.2 c_1
    refine lv_iload_n hx hb dX6_field_5 rfl (lv_at hl 1 rfl) ?_
    refine lv_aload_n hx hb dX6_field_6 rfl (lv_at hl 0 rfl) ?_
    refine va_get (D := (dC, dI)) (ci := 4) (v := .int m_o) (C := RX6) (T := TX6) (N := 25) hx hb hts h1_ hown hK hP 0 rfl rfl 1 (by decide) h3_ (fun _ h9 => h9) rfl dX6_field_7 ?_
    refine lv_icmp_ge (tgt := 25) hx hb dX6_field_10 (by decide) (fun c_4 => ?_) (fun c_4 => ?_)
    · rw [if_pos c_4] at hR
      have hV := hV.1 c_4
      exact Ks25  m_th g_F g_R g_C g_L m_rl m_lf m_ov a0 a1 H locs ls hP hD hS (lv_sub hl [0, 1, 2] rfl) hV hR
    · rw [if_neg c_4] at hR
      have hV := hV.2 c_4
      refine lv_iload_n hx hb dX6_field_13 rfl (lv_at hl 2 rfl) ?_
      refine lv_if_lt (tgt := 25) hx hb dX6_field_14 (by decide) (fun c_5 => ?_) (fun c_5 => ?_)
      · rw [if_pos c_5] at hR
        have hV := hV.1 c_5
        exact Ks25  m_th g_F g_R g_C g_L m_rl m_lf m_ov a0 a1 H locs ls hP hD hS (lv_sub hl [0, 1, 2] rfl) hV hR
      · rw [if_neg c_5] at hR
        have hV := hV.2 c_5
        refine lv_iload_n hx hb dX6_field_17 rfl (lv_at hl 2 rfl) ?_
        refine lv_aload_n hx hb dX6_field_18 rfl (lv_at hl 0 rfl) ?_
        refine va_get (D := (dC, dI)) (ci := 4) (v := .int m_f) (C := RX6) (T := TX6) (N := 25) hx hb hts h1_ hown hK hP 0 rfl rfl 2 (by decide) h4_ (fun _ h9 => h9) rfl dX6_field_19 ?_
        refine lv_icmp_lt (tgt := 29) hx hb dX6_field_22 (by decide) (fun c_6 => ?_) (fun c_6 => ?_)
        · rw [if_pos c_6] at hR
          have hV := hV.1 c_6
          refine lv_iconst (v := (0 : Int32)) hx hb dX6_field_29 (by decide +kernel) ?_
          exact Ks30  m_th g_F g_R g_C g_L m_rl m_lf m_ov a0 a1 (0 : Int32) H locs ls hP hD hS (lv_sub hl [0, 1, 2] rfl) hV hR
        · rw [if_neg c_6] at hR
          have hV := hV.2 c_6
          exact Ks25  m_th g_F g_R g_C g_L m_rl m_lf m_ov a0 a1 H locs ls hP hD hS (lv_sub hl [0, 1, 2] rfl) hV hR
def cf_X6_has_s34  (m_th : Int32) (m_r : Int32) (g_F : Nat → Int32) (g_R : Nat → Int32) (g_C : Nat → Int32) (g_L : Nat → Int32) (m_rl : Int32) (m_lf : Int32) (m_ov : Int32) (m_pl : Int64) (x1 : Int32) : Int32 × (Nat → Int32) × (Nat → Int32) × (Nat → Int32) × (Nat → Int32) × Int32 × Int32 × Int32 × Int32 :=
  (m_th, g_F, g_R, g_C, g_L, m_rl, m_lf, m_ov, (g_R (x1).toNatClampNeg))
def vc_X6_has_s34  (m_th : Int32) (m_r : Int32) (g_F : Nat → Int32) (g_R : Nat → Int32) (g_C : Nat → Int32) (g_L : Nat → Int32) (m_rl : Int32) (m_lf : Int32) (m_ov : Int32) (m_pl : Int64) (x1 : Int32) : Prop :=
  (vp_in x1 3 ∧ True)
def cf_X6_has_s18  (m_th : Int32) (m_r : Int32) (g_F : Nat → Int32) (g_R : Nat → Int32) (g_C : Nat → Int32) (g_L : Nat → Int32) (m_rl : Int32) (m_lf : Int32) (m_ov : Int32) (m_pl : Int64) (x1 : Int32) (y0 : Int32) : Int32 × (Nat → Int32) × (Nat → Int32) × (Nat → Int32) × (Nat → Int32) × Int32 × Int32 × Int32 × Int32 :=
  (if (cf_X6_fails m_th y0).2 = 0 then cf_X6_has_s34  ((cf_X6_fails m_th y0).1) m_r ((cf_X6_take g_F g_R g_C g_L m_rl m_lf m_ov m_pl).1) ((cf_X6_take g_F g_R g_C g_L m_rl m_lf m_ov m_pl).2.1) ((cf_X6_take g_F g_R g_C g_L m_rl m_lf m_ov m_pl).2.2.1) ((cf_X6_take g_F g_R g_C g_L m_rl m_lf m_ov m_pl).2.2.2.1) ((cf_X6_take g_F g_R g_C g_L m_rl m_lf m_ov m_pl).2.2.2.2.1) ((cf_X6_take g_F g_R g_C g_L m_rl m_lf m_ov m_pl).2.2.2.2.2.1) ((cf_X6_take g_F g_R g_C g_L m_rl m_lf m_ov m_pl).2.2.2.2.2.2) m_pl x1 else ((cf_X6_fails m_th y0).1, g_F, g_R, g_C, g_L, m_rl, m_lf, m_ov, (0 : Int32)))
def vc_X6_has_s18  (m_th : Int32) (m_r : Int32) (g_F : Nat → Int32) (g_R : Nat → Int32) (g_C : Nat → Int32) (g_L : Nat → Int32) (m_rl : Int32) (m_lf : Int32) (m_ov : Int32) (m_pl : Int64) (x1 : Int32) (y0 : Int32) : Prop :=
  (((cf_X6_fails m_th y0).2 = 0 → vc_X6_has_s34  ((cf_X6_fails m_th y0).1) m_r ((cf_X6_take g_F g_R g_C g_L m_rl m_lf m_ov m_pl).1) ((cf_X6_take g_F g_R g_C g_L m_rl m_lf m_ov m_pl).2.1) ((cf_X6_take g_F g_R g_C g_L m_rl m_lf m_ov m_pl).2.2.1) ((cf_X6_take g_F g_R g_C g_L m_rl m_lf m_ov m_pl).2.2.2.1) ((cf_X6_take g_F g_R g_C g_L m_rl m_lf m_ov m_pl).2.2.2.2.1) ((cf_X6_take g_F g_R g_C g_L m_rl m_lf m_ov m_pl).2.2.2.2.2.1) ((cf_X6_take g_F g_R g_C g_L m_rl m_lf m_ov m_pl).2.2.2.2.2.2) m_pl x1) ∧ (¬ (cf_X6_fails m_th y0).2 = 0 → True))
def cf_X6_has_s13  (m_th : Int32) (m_r : Int32) (g_F : Nat → Int32) (g_R : Nat → Int32) (g_C : Nat → Int32) (g_L : Nat → Int32) (m_rl : Int32) (m_lf : Int32) (m_ov : Int32) (m_pl : Int64) (x1 : Int32) : Int32 × (Nat → Int32) × (Nat → Int32) × (Nat → Int32) × (Nat → Int32) × Int32 × Int32 × Int32 × Int32 :=
  cf_X6_has_s18  m_th m_r g_F g_R g_C g_L m_rl m_lf m_ov m_pl x1 (1 : Int32)
def vc_X6_has_s13  (m_th : Int32) (m_r : Int32) (g_F : Nat → Int32) (g_R : Nat → Int32) (g_C : Nat → Int32) (g_L : Nat → Int32) (m_rl : Int32) (m_lf : Int32) (m_ov : Int32) (m_pl : Int64) (x1 : Int32) : Prop :=
  vc_X6_has_s18  m_th m_r g_F g_R g_C g_L m_rl m_lf m_ov m_pl x1 (1 : Int32)
def cf_X6_has (m_th : Int32) (m_r : Int32) (g_F : Nat → Int32) (g_R : Nat → Int32) (g_C : Nat → Int32) (g_L : Nat → Int32) (m_rl : Int32) (m_lf : Int32) (m_ov : Int32) (m_pl : Int64) (a0 : Int32) : Int32 × (Nat → Int32) × (Nat → Int32) × (Nat → Int32) × (Nat → Int32) × Int32 × Int32 × Int32 × Int32 :=
  (if a0 < 0 then cf_X6_has_s13  m_th m_r g_F g_R g_C g_L m_rl m_lf m_ov m_pl a0 else (if a0 < m_r then cf_X6_has_s18  m_th m_r g_F g_R g_C g_L m_rl m_lf m_ov m_pl a0 (0 : Int32) else cf_X6_has_s13  m_th m_r g_F g_R g_C g_L m_rl m_lf m_ov m_pl a0))
def vc_X6_has (m_th : Int32) (m_r : Int32) (g_F : Nat → Int32) (g_R : Nat → Int32) (g_C : Nat → Int32) (g_L : Nat → Int32) (m_rl : Int32) (m_lf : Int32) (m_ov : Int32) (m_pl : Int64) (a0 : Int32) : Prop :=
  ((a0 < 0 → vc_X6_has_s13  m_th m_r g_F g_R g_C g_L m_rl m_lf m_ov m_pl a0) ∧ (¬ a0 < 0 → ((a0 < m_r → vc_X6_has_s18  m_th m_r g_F g_R g_C g_L m_rl m_lf m_ov m_pl a0 (0 : Int32)) ∧ (¬ a0 < m_r → vc_X6_has_s13  m_th m_r g_F g_R g_C g_L m_rl m_lf m_ov m_pl a0))))
set_option maxHeartbeats 4000000 in
set_option maxRecDepth 100000 in
theorem c_X6_has (l : Launch) (dC : Nat → ClassId) (dI : Nat → Nat → Nat) (q6 qA qB qF qR qC qL qS qO qY qH qW qM : Nat) (cyI cyJ cyZ : ClassId) (m_th : Int32) (m_o : Int32) (m_f : Int32) (m_r : Int32) (m_b : Int32) (m_a : Int32) (u_F : Nat → Int32) (u_R : Nat → Int32) (g_F : Nat → Int32) (g_R : Nat → Int32) (g_C : Nat → Int32) (g_L : Nat → Int32) (m_rl : Int32) (m_lf : Int32) (m_ov : Int32) (m_pl : Int64) (g_S : Nat → Int64) (g_O : Nat → Int32) (g_Y : Nat → Int32) (g_H : Nat → Int32) (m_st : Int32) (g_W : Nat → Int32) (m_rm : Int32) (m_fs : Int32) (g_M : Nat → Int32) (sz : Nat) (a0 : Int32)  (hV : vc_X6_has m_th m_r g_F g_R g_C g_L m_rl m_lf m_ov m_pl a0) : Met l yX6_has wsX6_has ({ frames := 1, cells := 0, slots := 0, locals := 25 }) (mu_P [.ref q6, .int a0] sz (dC, dI) kcl (mo_W q6 qA qB qF qR qC qL qS qO qY qH qW qM cyI cyJ cyZ m_th m_o m_f m_r m_b m_a u_F u_R g_F g_R g_C g_L m_rl m_lf m_ov m_pl g_S g_O g_Y g_H m_st g_W m_rm m_fs g_M) [(cyI, .int), (cyJ, .long), (cyZ, .boolean)]) (mu_Q (some (.int ((cf_X6_has m_th m_r g_F g_R g_C g_L m_rl m_lf m_ov m_pl a0).2.2.2.2.2.2.2.2))) (dC, dI) kcl (mo_W q6 qA qB qF qR qC qL qS qO qY qH qW qM cyI cyJ cyZ ((cf_X6_has m_th m_r g_F g_R g_C g_L m_rl m_lf m_ov m_pl a0).1) m_o m_f m_r m_b m_a u_F u_R ((cf_X6_has m_th m_r g_F g_R g_C g_L m_rl m_lf m_ov m_pl a0).2.1) ((cf_X6_has m_th m_r g_F g_R g_C g_L m_rl m_lf m_ov m_pl a0).2.2.1) ((cf_X6_has m_th m_r g_F g_R g_C g_L m_rl m_lf m_ov m_pl a0).2.2.2.1) ((cf_X6_has m_th m_r g_F g_R g_C g_L m_rl m_lf m_ov m_pl a0).2.2.2.2.1) ((cf_X6_has m_th m_r g_F g_R g_C g_L m_rl m_lf m_ov m_pl a0).2.2.2.2.2.1) ((cf_X6_has m_th m_r g_F g_R g_C g_L m_rl m_lf m_ov m_pl a0).2.2.2.2.2.2.1) ((cf_X6_has m_th m_r g_F g_R g_C g_L m_rl m_lf m_ov m_pl a0).2.2.2.2.2.2.2.1) m_pl g_S g_O g_Y g_H m_st g_W m_rm m_fs g_M) (va_A (mo_W q6 qA qB qF qR qC qL qS qO qY qH qW qM cyI cyJ cyZ m_th m_o m_f m_r m_b m_a u_F u_R g_F g_R g_C g_L m_rl m_lf m_ov m_pl g_S g_O g_Y g_H m_st g_W m_rm m_fs g_M) sz)) 0 0 (va_A (mo_W q6 qA qB qF qR qC qL qS qO qY qH qW qM cyI cyJ cyZ m_th m_o m_f m_r m_b m_a u_F u_R g_F g_R g_C g_L m_rl m_lf m_ov m_pl g_S g_O g_Y g_H m_st g_W m_rm m_fs g_M) sz) := by
  refine Met.ofW (cc := cX6_has) (maxL := 2) (ret := (some .int)) (by decide) rfl ?_
  intro p e s m args below meth c s₁ B hml hv
  obtain ⟨rfl, hsz, hP, hK, hD0⟩ := hv
  have hx := B.exec
  have hb := B.bytes
  have hr := B.returns
  have hts := atoms_spec (ws := wsX6_has) B.pre
  have hown : s.vm.findClass RX6 = some m.cls := findClass_of_methodNamed B.named
  have hlocks := B.notSynchronized
  subst hsz
  have hD := hD0.self (sz := s.heap.size)
  generalize hAe : va_A (mo_W q6 qA qB qF qR qC qL qS qO qY qH qW qM cyI cyJ cyZ m_th m_o m_f m_r m_b m_a u_F u_R g_F g_R g_C g_L m_rl m_lf m_ov m_pl g_S g_O g_Y g_H m_st g_W m_rm m_fs g_M) s.heap.size = A at hD ⊢
  have hA : ∀ q : Nat, s.heap.size ≤ q → A q := fun q h => by rw [← hAe]; exact Or.inr h
  have hP : va_P (dC, dI) kcl (mo_W q6 qA qB qF qR qC qL qS qO qY qH qW qM cyI cyJ cyZ m_th m_o m_f m_r m_b m_a u_F u_R g_F g_R g_C g_L m_rl m_lf m_ov m_pl g_S g_O g_Y g_H m_st g_W m_rm m_fs g_M) s.heap := hP
  have h0_ : (Cond.fieldLink RX6 66 "ColourTrierModel" "played" "J").before _ s = true := hts _ (by decide +kernel)
  have h1_ : ∀ w ∈ u_ws RX6 TX6 25, w ∈ wsX6_has := fun w h => List.mem_cons_of_mem _ (List.mem_append_right _ h)
  have h2_ : (Cond.fieldLink RX6 32 "ColourTrierModel" "root" "[I").before _ s = true := hts _ (by decide +kernel)
  have h3_ : (Cond.fieldLink RX6 19 "ColourTrierModel" "roots" "I").before _ s = true := hts _ (by decide +kernel)
  generalize hR : (cf_X6_has m_th m_r g_F g_R g_C g_L m_rl m_lf m_ov m_pl a0) = R
  have Ks34 : ∀  (m_th : Int32) (g_F : Nat → Int32) (g_R : Nat → Int32) (g_C : Nat → Int32) (g_L : Nat → Int32) (m_rl : Int32) (m_lf : Int32) (m_ov : Int32) (x1 : Int32) (H : Heap) (locs : List Loc) (ls : Array Slot), va_P (dC, dI) kcl (mo_W q6 qA qB qF qR qC qL qS qO qY qH qW qM cyI cyJ cyZ m_th m_o m_f m_r m_b m_a u_F u_R g_F g_R g_C g_L m_rl m_lf m_ov m_pl g_S g_O g_Y g_H m_st g_W m_rm m_fs g_M) H → va_D A (mo_W q6 qA qB qF qR qC qL qS qO qY qH qW qM cyI cyJ cyZ m_th m_o m_f m_r m_b m_a u_F u_R g_F g_R g_C g_L m_rl m_lf m_ov m_pl g_S g_O g_Y g_H m_st g_W m_rm m_fs g_M) → va_S A s.heap H locs → lv_has ls 2 [(0, .ref q6), (1, .int x1)] → vc_X6_has_s34  m_th m_r g_F g_R g_C g_L m_rl m_lf m_ov m_pl x1 → cf_X6_has_s34  m_th m_r g_F g_R g_C g_L m_rl m_lf m_ov m_pl x1 = R → W p l e (headSpec wsX6_has ({ frames := 1, cells := 0, slots := 0, locals := 25 })).room s m ([.ref q6, .int a0] : List Value).toArray below meth c H locs 0 0 (MQ below (mu_Q (some (.int R.2.2.2.2.2.2.2.2)) (dC, dI) kcl (mo_W q6 qA qB qF qR qC qL qS qO qY qH qW qM cyI cyJ cyZ R.1 m_o m_f m_r m_b m_a u_F u_R R.2.1 R.2.2.1 R.2.2.2.1 R.2.2.2.2.1 R.2.2.2.2.2.1 R.2.2.2.2.2.2.1 R.2.2.2.2.2.2.2.1 m_pl g_S g_O g_Y g_H m_st g_W m_rm m_fs g_M) A) ([.ref q6, .int a0] : List Value).toArray s 0 0 A) (F0 m 34 ls []) := by
    intro  m_th g_F g_R g_C g_L m_rl m_lf m_ov x1 H locs ls hP hD hS hl hV hR
    unfold cf_X6_has_s34 at hR
    unfold vc_X6_has_s34 at hV
    refine lv_aload_n hx hb dX6_has_34 rfl (lv_at hl 0 rfl) ?_
    refine va_get (D := (dC, dI)) (ci := 4) (v := .ref qR) (C := RX6) (T := TX6) (N := 25) hx hb hts h1_ hown hK hP 0 rfl rfl 9 (by decide) h2_ (fun _ h9 => h9) rfl dX6_has_35 ?_
    refine lv_iload_n hx hb dX6_has_38 rfl (lv_at hl 1 rfl) ?_
    obtain ⟨hi3, hV⟩ := hV
    refine va_iald hx hb hK hP 4 0 rfl rfl hi3 dX6_has_39 ?_
    rw [← hR]
    exact W.iret (v := (g_R (x1).toNatClampNeg)) hx hb hr (fun t ht _ => ⟨rfl, by rw [ht]; exact hP, hS.F ht⟩) hS.2.2 dX6_has_40
  have Ks18 : ∀  (m_th : Int32) (g_F : Nat → Int32) (g_R : Nat → Int32) (g_C : Nat → Int32) (g_L : Nat → Int32) (m_rl : Int32) (m_lf : Int32) (m_ov : Int32) (x1 : Int32) (y0 : Int32) (H : Heap) (locs : List Loc) (ls : Array Slot), va_P (dC, dI) kcl (mo_W q6 qA qB qF qR qC qL qS qO qY qH qW qM cyI cyJ cyZ m_th m_o m_f m_r m_b m_a u_F u_R g_F g_R g_C g_L m_rl m_lf m_ov m_pl g_S g_O g_Y g_H m_st g_W m_rm m_fs g_M) H → va_D A (mo_W q6 qA qB qF qR qC qL qS qO qY qH qW qM cyI cyJ cyZ m_th m_o m_f m_r m_b m_a u_F u_R g_F g_R g_C g_L m_rl m_lf m_ov m_pl g_S g_O g_Y g_H m_st g_W m_rm m_fs g_M) → va_S A s.heap H locs → lv_has ls 2 [(0, .ref q6), (1, .int x1)] → vc_X6_has_s18  m_th m_r g_F g_R g_C g_L m_rl m_lf m_ov m_pl x1 y0 → cf_X6_has_s18  m_th m_r g_F g_R g_C g_L m_rl m_lf m_ov m_pl x1 y0 = R → W p l e (headSpec wsX6_has ({ frames := 1, cells := 0, slots := 0, locals := 25 })).room s m ([.ref q6, .int a0] : List Value).toArray below meth c H locs 0 0 (MQ below (mu_Q (some (.int R.2.2.2.2.2.2.2.2)) (dC, dI) kcl (mo_W q6 qA qB qF qR qC qL qS qO qY qH qW qM cyI cyJ cyZ R.1 m_o m_f m_r m_b m_a u_F u_R R.2.1 R.2.2.1 R.2.2.2.1 R.2.2.2.2.1 R.2.2.2.2.2.1 R.2.2.2.2.2.2.1 R.2.2.2.2.2.2.2.1 m_pl g_S g_O g_Y g_H m_st g_W m_rm m_fs g_M) A) ([.ref q6, .int a0] : List Value).toArray s 0 0 A) (F0 m 18 ls [.int y0, .ref q6]) := by
    intro  m_th g_F g_R g_C g_L m_rl m_lf m_ov x1 y0 H locs ls hP hD hS hl hV hR
    unfold cf_X6_has_s18 at hR
    unfold vc_X6_has_s18 at hV
    refine mu_call (ws' := (mo_W q6 qA qB qF qR qC qL qS qO qY qH qW qM cyI cyJ cyZ ((cf_X6_fails m_th y0).1) m_o m_f m_r m_b m_a u_F u_R g_F g_R g_C g_L m_rl m_lf m_ov m_pl g_S g_O g_Y g_H m_st g_W m_rm m_fs g_M)) (wr := []) (va_runV (As := [.int y0]) (rest := []) ⟨hx, hb, hml, hown, hts⟩ (c_X6_fails l dC dI q6 qA qB qF qR qC qL qS qO qY qH qW qM cyI cyJ cyZ m_th m_o m_f m_r m_b m_a u_F u_R g_F g_R g_C g_L m_rl m_lf m_ov m_pl g_S g_O g_Y g_H m_st g_W m_rm m_fs g_M H.size y0  ) (cwV 1 hts gX6_has_X6_fails rfl rfl rfl (by decide +kernel) ⟨Nat.le_of_ble_eq_true rfl, Nat.le_of_ble_eq_true rfl⟩) ⟨mu_blind, va_recv hK hP (ci := 4) (q0 := 0) rfl rfl, fun U hU hW => ⟨rfl, by rw [hU], by rw [hU]; exact hP, va_K.moved hW.alike (hK.sub [0, 1, 2] rfl), hD.weaken (fun _ _ _ _ => trivial)⟩⟩ rfl rfl hl.1 rfl (lv_room (Nat.le_of_ble_eq_true rfl)) dX6_has_18 ⟨Nat.le_refl _, Nat.le_refl _⟩) hP hD hS hA [0, 1, 2, 3, 4, 5, 6, 7, 8, 9, 10, 11, 12] [] [0, 1, 2, 3, 4, 5, 6, 7, 8, 9, 10, 11, 12] rfl rfl (by decide) (by decide) (by decide) rfl (by decide) rfl (fun H locs hP hD hS => ?_)
    refine W.eq (g2 := F0 m 21 ls [.int ((cf_X6_fails m_th y0).2)]) rfl ?_
    refine lv_if_eq (tgt := 26) hx hb dX6_has_21 (by decide) (fun c_2 => ?_) (fun c_2 => ?_)
    · rw [if_pos c_2] at hR
      have hV := hV.1 c_2
      refine lv_aload_n hx hb dX6_has_26 rfl (lv_at hl 0 rfl) ?_
      refine lv_aload_n hx hb dX6_has_27 rfl (lv_at hl 0 rfl) ?_
      refine va_get (D := (dC, dI)) (ci := 4) (v := .long m_pl) (C := RX6) (T := TX6) (N := 25) hx hb hts h1_ hown hK hP 0 rfl rfl 15 (by decide) h0_ (fun _ h9 => h9) rfl dX6_has_28 ?_
      refine mu_call (ws' := (mo_W q6 qA qB qF qR qC qL qS qO qY qH qW qM cyI cyJ cyZ ((cf_X6_fails m_th y0).1) m_o m_f m_r m_b m_a u_F u_R ((cf_X6_take g_F g_R g_C g_L m_rl m_lf m_ov m_pl).1) ((cf_X6_take g_F g_R g_C g_L m_rl m_lf m_ov m_pl).2.1) ((cf_X6_take g_F g_R g_C g_L m_rl m_lf m_ov m_pl).2.2.1) ((cf_X6_take g_F g_R g_C g_L m_rl m_lf m_ov m_pl).2.2.2.1) ((cf_X6_take g_F g_R g_C g_L m_rl m_lf m_ov m_pl).2.2.2.2.1) ((cf_X6_take g_F g_R g_C g_L m_rl m_lf m_ov m_pl).2.2.2.2.2.1) ((cf_X6_take g_F g_R g_C g_L m_rl m_lf m_ov m_pl).2.2.2.2.2.2) m_pl g_S g_O g_Y g_H m_st g_W m_rm m_fs g_M)) (wr := []) (va_runV (As := [.long m_pl]) (rest := []) ⟨hx, hb, hml, hown, hts⟩ (c_X6_take l dC dI q6 qA qB qF qR qC qL qS qO qY qH qW qM cyI cyJ cyZ ((cf_X6_fails m_th y0).1) m_o m_f m_r m_b m_a u_F u_R g_F g_R g_C g_L m_rl m_lf m_ov m_pl g_S g_O g_Y g_H m_st g_W m_rm m_fs g_M H.size m_pl  ) (cwV 1 hts gX6_has_X6_take rfl rfl rfl (by decide +kernel) ⟨Nat.le_of_ble_eq_true rfl, Nat.le_of_ble_eq_true rfl⟩) ⟨mu_blind, va_recv hK hP (ci := 4) (q0 := 0) rfl rfl, fun U hU hW => ⟨rfl, by rw [hU], by rw [hU]; exact hP, va_K.moved hW.alike (hK.sub [0, 1, 2] rfl), hD.weaken (fun _ _ _ _ => trivial)⟩⟩ rfl rfl hl.1 rfl (lv_room (Nat.le_of_ble_eq_true rfl)) dX6_has_31 ⟨Nat.le_refl _, Nat.le_refl _⟩) hP hD hS hA [0, 1, 2, 3, 4, 5, 6, 7, 8, 9, 10, 11, 12] [] [0, 1, 2, 3, 4, 5, 6, 7, 8, 9, 10, 11, 12] rfl rfl (by decide) (by decide) (by decide) rfl (by decide) rfl (fun H locs hP hD hS => ?_)
      refine W.eq (g2 := F0 m 34 ls []) rfl ?_
      exact Ks34  ((cf_X6_fails m_th y0).1) ((cf_X6_take g_F g_R g_C g_L m_rl m_lf m_ov m_pl).1) ((cf_X6_take g_F g_R g_C g_L m_rl m_lf m_ov m_pl).2.1) ((cf_X6_take g_F g_R g_C g_L m_rl m_lf m_ov m_pl).2.2.1) ((cf_X6_take g_F g_R g_C g_L m_rl m_lf m_ov m_pl).2.2.2.1) ((cf_X6_take g_F g_R g_C g_L m_rl m_lf m_ov m_pl).2.2.2.2.1) ((cf_X6_take g_F g_R g_C g_L m_rl m_lf m_ov m_pl).2.2.2.2.2.1) ((cf_X6_take g_F g_R g_C g_L m_rl m_lf m_ov m_pl).2.2.2.2.2.2) x1 H locs ls hP hD hS (lv_sub hl [0, 1] rfl) hV hR
    · rw [if_neg c_2] at hR
      refine lv_iconst (v := (0 : Int32)) hx hb dX6_has_24 (by decide +kernel) ?_
      rw [← hR]
      exact W.iret (v := (0 : Int32)) hx hb hr (fun t ht _ => ⟨rfl, by rw [ht]; exact hP, hS.F ht⟩) hS.2.2 dX6_has_25
  have Ks13 : ∀  (m_th : Int32) (g_F : Nat → Int32) (g_R : Nat → Int32) (g_C : Nat → Int32) (g_L : Nat → Int32) (m_rl : Int32) (m_lf : Int32) (m_ov : Int32) (x1 : Int32) (H : Heap) (locs : List Loc) (ls : Array Slot), va_P (dC, dI) kcl (mo_W q6 qA qB qF qR qC qL qS qO qY qH qW qM cyI cyJ cyZ m_th m_o m_f m_r m_b m_a u_F u_R g_F g_R g_C g_L m_rl m_lf m_ov m_pl g_S g_O g_Y g_H m_st g_W m_rm m_fs g_M) H → va_D A (mo_W q6 qA qB qF qR qC qL qS qO qY qH qW qM cyI cyJ cyZ m_th m_o m_f m_r m_b m_a u_F u_R g_F g_R g_C g_L m_rl m_lf m_ov m_pl g_S g_O g_Y g_H m_st g_W m_rm m_fs g_M) → va_S A s.heap H locs → lv_has ls 2 [(0, .ref q6), (1, .int x1)] → vc_X6_has_s13  m_th m_r g_F g_R g_C g_L m_rl m_lf m_ov m_pl x1 → cf_X6_has_s13  m_th m_r g_F g_R g_C g_L m_rl m_lf m_ov m_pl x1 = R → W p l e (headSpec wsX6_has ({ frames := 1, cells := 0, slots := 0, locals := 25 })).room s m ([.ref q6, .int a0] : List Value).toArray below meth c H locs 0 0 (MQ below (mu_Q (some (.int R.2.2.2.2.2.2.2.2)) (dC, dI) kcl (mo_W q6 qA qB qF qR qC qL qS qO qY qH qW qM cyI cyJ cyZ R.1 m_o m_f m_r m_b m_a u_F u_R R.2.1 R.2.2.1 R.2.2.2.1 R.2.2.2.2.1 R.2.2.2.2.2.1 R.2.2.2.2.2.2.1 R.2.2.2.2.2.2.2.1 m_pl g_S g_O g_Y g_H m_st g_W m_rm m_fs g_M) A) ([.ref q6, .int a0] : List Value).toArray s 0 0 A) (F0 m 13 ls [.ref q6]) := by
    intro  m_th g_F g_R g_C g_L m_rl m_lf m_ov x1 H locs ls hP hD hS hl hV hR
    unfold cf_X6_has_s13 at hR
    unfold vc_X6_has_s13 at hV
    refine lv_iconst (v := (1 : Int32)) hx hb dX6_has_13 (by decide +kernel) ?_
    refine lv_goto (tgt := 18) hx hb dX6_has_14 (by decide) ?_
    exact Ks18  m_th g_F g_R g_C g_L m_rl m_lf m_ov x1 (1 : Int32) H locs ls hP hD hS (lv_sub hl [0, 1] rfl) hV hR
  have hl := lv_entry ([.ref q6, .int a0]) (n := 2) (Nat.le_of_ble_eq_true rfl)
  rw [lg_entry_eq]
  generalize (lg_sl ([.ref q6, .int a0]) ++ List.replicate (2 - (lg_sl ([.ref q6, .int a0])).length) Slot.unset).toArray = ls at hl ⊢
  have hl : lv_has ls 2 [(0, .ref q6), (1, .int a0)] := hl
  unfold cf_X6_has at hR
  unfold vc_X6_has at hV
  refine mu_start (A := A) (fun H locs hP hS => ?_) hP
  refine lv_aload_n hx hb dX6_has_0 rfl (lv_at hl 0 rfl) ?_
  refine lv_iload_n hx hb dX6_has_1 rfl (lv_at hl 1 rfl) ?_
  refine lv_if_lt (tgt := 13) hx hb dX6_has_2 (by decide) (fun c_1 => ?_) (fun c_1 => ?_)
  · rw [if_pos c_1] at hR
    have hV := hV.1 c_1
    exact Ks13  m_th g_F g_R g_C g_L m_rl m_lf m_ov a0 H locs ls hP hD hS (lv_sub hl [0, 1] rfl) hV hR
  · rw [if_neg c_1] at hR
    have hV := hV.2 c_1
    refine lv_iload_n hx hb dX6_has_5 rfl (lv_at hl 1 rfl) ?_
    refine lv_aload_n hx hb dX6_has_6 rfl (lv_at hl 0 rfl) ?_
    refine va_get (D := (dC, dI)) (ci := 4) (v := .int m_r) (C := RX6) (T := TX6) (N := 25) hx hb hts h1_ hown hK hP 0 rfl rfl 3 (by decide) h3_ (fun _ h9 => h9) rfl dX6_has_7 ?_
    refine lv_icmp_lt (tgt := 17) hx hb dX6_has_10 (by decide) (fun c_4 => ?_) (fun c_4 => ?_)
    · rw [if_pos c_4] at hR
      have hV := hV.1 c_4
      refine lv_iconst (v := (0 : Int32)) hx hb dX6_has_17 (by decide +kernel) ?_
      exact Ks18  m_th g_F g_R g_C g_L m_rl m_lf m_ov a0 (0 : Int32) H locs ls hP hD hS (lv_sub hl [0, 1] rfl) hV hR
    · rw [if_neg c_4] at hR
      have hV := hV.2 c_4
      exact Ks13  m_th g_F g_R g_C g_L m_rl m_lf m_ov a0 H locs ls hP hD hS (lv_sub hl [0, 1] rfl) hV hR
def cf_X6_count_s32  (m_th : Int32) (m_o : Int32) (m_f : Int32) (m_r : Int32) (m_b : Int32) (m_a : Int32) (g_F : Nat → Int32) (g_R : Nat → Int32) (g_C : Nat → Int32) (g_L : Nat → Int32) (m_rl : Int32) (m_lf : Int32) (m_ov : Int32) (m_pl : Int64) (m_rm : Int32) (m_fs : Int32) (x1 : Int32) : Int32 × (Nat → Int32) × (Nat → Int32) × (Nat → Int32) × (Nat → Int32) × Int32 × Int32 × Int32 × Int32 :=
  (if x1 = 0 then (m_th, g_F, g_R, g_C, g_L, m_rl, m_lf, m_ov, m_o) else (if x1 = 1 then (m_th, g_F, g_R, g_C, g_L, m_rl, m_lf, m_ov, m_f) else (if x1 = 2 then (m_th, g_F, g_R, g_C, g_L, m_rl, m_lf, m_ov, m_r) else (if x1 = 3 then (m_th, g_F, g_R, g_C, g_L, m_rl, m_lf, m_ov, m_b) else (if x1 = 4 then (m_th, g_F, g_R, g_C, g_L, m_rl, m_lf, m_ov, m_a) else (if x1 = 5 then (m_th, g_F, g_R, g_C, g_L, m_rl, m_lf, m_ov, m_fs) else (if x1 = 6 then (m_th, g_F, g_R, g_C, g_L, m_rl, m_lf, m_ov, m_rm) else (if x1 = 7 then (if m_ov = 0 then (m_th, g_F, g_R, g_C, g_L, m_rl, m_lf, m_ov, (0 : Int32)) else (m_th, g_F, g_R, g_C, g_L, m_rl, m_lf, m_ov, (1 : Int32))) else (m_th, g_F, g_R, g_C, g_L, m_rl, m_lf, m_ov, m_lf)))))))))
def cf_X6_count_s16  (m_th : Int32) (m_o : Int32) (m_f : Int32) (m_r : Int32) (m_b : Int32) (m_a : Int32) (g_F : Nat → Int32) (g_R : Nat → Int32) (g_C : Nat → Int32) (g_L : Nat → Int32) (m_rl : Int32) (m_lf : Int32) (m_ov : Int32) (m_pl : Int64) (m_rm : Int32) (m_fs : Int32) (x1 : Int32) (y0 : Int32) : Int32 × (Nat → Int32) × (Nat → Int32) × (Nat → Int32) × (Nat → Int32) × Int32 × Int32 × Int32 × Int32 :=
  (if (cf_X6_fails m_th y0).2 = 0 then cf_X6_count_s32  ((cf_X6_fails m_th y0).1) m_o m_f m_r m_b m_a ((cf_X6_take g_F g_R g_C g_L m_rl m_lf m_ov m_pl).1) ((cf_X6_take g_F g_R g_C g_L m_rl m_lf m_ov m_pl).2.1) ((cf_X6_take g_F g_R g_C g_L m_rl m_lf m_ov m_pl).2.2.1) ((cf_X6_take g_F g_R g_C g_L m_rl m_lf m_ov m_pl).2.2.2.1) ((cf_X6_take g_F g_R g_C g_L m_rl m_lf m_ov m_pl).2.2.2.2.1) ((cf_X6_take g_F g_R g_C g_L m_rl m_lf m_ov m_pl).2.2.2.2.2.1) ((cf_X6_take g_F g_R g_C g_L m_rl m_lf m_ov m_pl).2.2.2.2.2.2) m_pl m_rm m_fs x1 else ((cf_X6_fails m_th y0).1, g_F, g_R, g_C, g_L, m_rl, m_lf, m_ov, (0 : Int32)))
def cf_X6_count_s11  (m_th : Int32) (m_o : Int32) (m_f : Int32) (m_r : Int32) (m_b : Int32) (m_a : Int32) (g_F : Nat → Int32) (g_R : Nat → Int32) (g_C : Nat → Int32) (g_L : Nat → Int32) (m_rl : Int32) (m_lf : Int32) (m_ov : Int32) (m_pl : Int64) (m_rm : Int32) (m_fs : Int32) (x1 : Int32) : Int32 × (Nat → Int32) × (Nat → Int32) × (Nat → Int32) × (Nat → Int32) × Int32 × Int32 × Int32 × Int32 :=
  cf_X6_count_s16  m_th m_o m_f m_r m_b m_a g_F g_R g_C g_L m_rl m_lf m_ov m_pl m_rm m_fs x1 (1 : Int32)
def cf_X6_count (m_th : Int32) (m_o : Int32) (m_f : Int32) (m_r : Int32) (m_b : Int32) (m_a : Int32) (g_F : Nat → Int32) (g_R : Nat → Int32) (g_C : Nat → Int32) (g_L : Nat → Int32) (m_rl : Int32) (m_lf : Int32) (m_ov : Int32) (m_pl : Int64) (m_rm : Int32) (m_fs : Int32) (a0 : Int32) : Int32 × (Nat → Int32) × (Nat → Int32) × (Nat → Int32) × (Nat → Int32) × Int32 × Int32 × Int32 × Int32 :=
  (if a0 < 0 then cf_X6_count_s11  m_th m_o m_f m_r m_b m_a g_F g_R g_C g_L m_rl m_lf m_ov m_pl m_rm m_fs a0 else (if a0 ≤ (8 : Int32) then cf_X6_count_s16  m_th m_o m_f m_r m_b m_a g_F g_R g_C g_L m_rl m_lf m_ov m_pl m_rm m_fs a0 (0 : Int32) else cf_X6_count_s11  m_th m_o m_f m_r m_b m_a g_F g_R g_C g_L m_rl m_lf m_ov m_pl m_rm m_fs a0))
set_option maxHeartbeats 4000000 in
set_option maxRecDepth 100000 in
theorem c_X6_count (l : Launch) (dC : Nat → ClassId) (dI : Nat → Nat → Nat) (q6 qA qB qF qR qC qL qS qO qY qH qW qM : Nat) (cyI cyJ cyZ : ClassId) (m_th : Int32) (m_o : Int32) (m_f : Int32) (m_r : Int32) (m_b : Int32) (m_a : Int32) (u_F : Nat → Int32) (u_R : Nat → Int32) (g_F : Nat → Int32) (g_R : Nat → Int32) (g_C : Nat → Int32) (g_L : Nat → Int32) (m_rl : Int32) (m_lf : Int32) (m_ov : Int32) (m_pl : Int64) (g_S : Nat → Int64) (g_O : Nat → Int32) (g_Y : Nat → Int32) (g_H : Nat → Int32) (m_st : Int32) (g_W : Nat → Int32) (m_rm : Int32) (m_fs : Int32) (g_M : Nat → Int32) (sz : Nat) (a0 : Int32)   : Met l yX6_count wsX6_count ({ frames := 1, cells := 0, slots := 0, locals := 25 }) (mu_P [.ref q6, .int a0] sz (dC, dI) kcl (mo_W q6 qA qB qF qR qC qL qS qO qY qH qW qM cyI cyJ cyZ m_th m_o m_f m_r m_b m_a u_F u_R g_F g_R g_C g_L m_rl m_lf m_ov m_pl g_S g_O g_Y g_H m_st g_W m_rm m_fs g_M) [(cyI, .int), (cyJ, .long), (cyZ, .boolean)]) (mu_Q (some (.int ((cf_X6_count m_th m_o m_f m_r m_b m_a g_F g_R g_C g_L m_rl m_lf m_ov m_pl m_rm m_fs a0).2.2.2.2.2.2.2.2))) (dC, dI) kcl (mo_W q6 qA qB qF qR qC qL qS qO qY qH qW qM cyI cyJ cyZ ((cf_X6_count m_th m_o m_f m_r m_b m_a g_F g_R g_C g_L m_rl m_lf m_ov m_pl m_rm m_fs a0).1) m_o m_f m_r m_b m_a u_F u_R ((cf_X6_count m_th m_o m_f m_r m_b m_a g_F g_R g_C g_L m_rl m_lf m_ov m_pl m_rm m_fs a0).2.1) ((cf_X6_count m_th m_o m_f m_r m_b m_a g_F g_R g_C g_L m_rl m_lf m_ov m_pl m_rm m_fs a0).2.2.1) ((cf_X6_count m_th m_o m_f m_r m_b m_a g_F g_R g_C g_L m_rl m_lf m_ov m_pl m_rm m_fs a0).2.2.2.1) ((cf_X6_count m_th m_o m_f m_r m_b m_a g_F g_R g_C g_L m_rl m_lf m_ov m_pl m_rm m_fs a0).2.2.2.2.1) ((cf_X6_count m_th m_o m_f m_r m_b m_a g_F g_R g_C g_L m_rl m_lf m_ov m_pl m_rm m_fs a0).2.2.2.2.2.1) ((cf_X6_count m_th m_o m_f m_r m_b m_a g_F g_R g_C g_L m_rl m_lf m_ov m_pl m_rm m_fs a0).2.2.2.2.2.2.1) ((cf_X6_count m_th m_o m_f m_r m_b m_a g_F g_R g_C g_L m_rl m_lf m_ov m_pl m_rm m_fs a0).2.2.2.2.2.2.2.1) m_pl g_S g_O g_Y g_H m_st g_W m_rm m_fs g_M) (va_A (mo_W q6 qA qB qF qR qC qL qS qO qY qH qW qM cyI cyJ cyZ m_th m_o m_f m_r m_b m_a u_F u_R g_F g_R g_C g_L m_rl m_lf m_ov m_pl g_S g_O g_Y g_H m_st g_W m_rm m_fs g_M) sz)) 0 0 (va_A (mo_W q6 qA qB qF qR qC qL qS qO qY qH qW qM cyI cyJ cyZ m_th m_o m_f m_r m_b m_a u_F u_R g_F g_R g_C g_L m_rl m_lf m_ov m_pl g_S g_O g_Y g_H m_st g_W m_rm m_fs g_M) sz) := by
  refine Met.ofW (cc := cX6_count) (maxL := 2) (ret := (some .int)) (by decide) rfl ?_
  intro p e s m args below meth c s₁ B hml hv
  obtain ⟨rfl, hsz, hP, hK, hD0⟩ := hv
  have hx := B.exec
  have hb := B.bytes
  have hr := B.returns
  have hts := atoms_spec (ws := wsX6_count) B.pre
  have hown : s.vm.findClass RX6 = some m.cls := findClass_of_methodNamed B.named
  have hlocks := B.notSynchronized
  subst hsz
  have hD := hD0.self (sz := s.heap.size)
  generalize hAe : va_A (mo_W q6 qA qB qF qR qC qL qS qO qY qH qW qM cyI cyJ cyZ m_th m_o m_f m_r m_b m_a u_F u_R g_F g_R g_C g_L m_rl m_lf m_ov m_pl g_S g_O g_Y g_H m_st g_W m_rm m_fs g_M) s.heap.size = A at hD ⊢
  have hA : ∀ q : Nat, s.heap.size ≤ q → A q := fun q h => by rw [← hAe]; exact Or.inr h
  have hP : va_P (dC, dI) kcl (mo_W q6 qA qB qF qR qC qL qS qO qY qH qW qM cyI cyJ cyZ m_th m_o m_f m_r m_b m_a u_F u_R g_F g_R g_C g_L m_rl m_lf m_ov m_pl g_S g_O g_Y g_H m_st g_W m_rm m_fs g_M) s.heap := hP
  have h0_ : (Cond.fieldLink RX6 66 "ColourTrierModel" "played" "J").before _ s = true := hts _ (by decide +kernel)
  have h1_ : ∀ w ∈ u_ws RX6 TX6 25, w ∈ wsX6_count := fun w h => List.mem_cons_of_mem _ (List.mem_append_right _ h)
  have h2_ : (Cond.fieldLink RX6 13 "ColourTrierModel" "objects" "I").before _ s = true := hts _ (by decide +kernel)
  have h3_ : (Cond.fieldLink RX6 16 "ColourTrierModel" "fields" "I").before _ s = true := hts _ (by decide +kernel)
  have h4_ : (Cond.fieldLink RX6 19 "ColourTrierModel" "roots" "I").before _ s = true := hts _ (by decide +kernel)
  have h5_ : (Cond.fieldLink RX6 94 "ColourTrierModel" "barriers" "I").before _ s = true := hts _ (by decide +kernel)
  have h6_ : (Cond.fieldLink RX6 73 "ColourTrierModel" "acts" "I").before _ s = true := hts _ (by decide +kernel)
  have h7_ : (Cond.fieldLink RX6 166 "ColourTrierModel" "foundStates" "I").before _ s = true := hts _ (by decide +kernel)
  have h8_ : (Cond.fieldLink RX6 139 "ColourTrierModel" "rowMany" "I").before _ s = true := hts _ (by decide +kernel)
  have h9_ : (Cond.fieldLink RX6 79 "ColourTrierModel" "isOver" "Z").before _ s = true := hts _ (by decide +kernel)
  have h10_ : (Cond.fieldLink RX6 76 "ColourTrierModel" "left" "I").before _ s = true := hts _ (by decide +kernel)
  generalize hR : (cf_X6_count m_th m_o m_f m_r m_b m_a g_F g_R g_C g_L m_rl m_lf m_ov m_pl m_rm m_fs a0) = R
  have Ks32 : ∀  (m_th : Int32) (g_F : Nat → Int32) (g_R : Nat → Int32) (g_C : Nat → Int32) (g_L : Nat → Int32) (m_rl : Int32) (m_lf : Int32) (m_ov : Int32) (x1 : Int32) (H : Heap) (locs : List Loc) (ls : Array Slot), va_P (dC, dI) kcl (mo_W q6 qA qB qF qR qC qL qS qO qY qH qW qM cyI cyJ cyZ m_th m_o m_f m_r m_b m_a u_F u_R g_F g_R g_C g_L m_rl m_lf m_ov m_pl g_S g_O g_Y g_H m_st g_W m_rm m_fs g_M) H → va_D A (mo_W q6 qA qB qF qR qC qL qS qO qY qH qW qM cyI cyJ cyZ m_th m_o m_f m_r m_b m_a u_F u_R g_F g_R g_C g_L m_rl m_lf m_ov m_pl g_S g_O g_Y g_H m_st g_W m_rm m_fs g_M) → va_S A s.heap H locs → lv_has ls 2 [(0, .ref q6), (1, .int x1)] → cf_X6_count_s32  m_th m_o m_f m_r m_b m_a g_F g_R g_C g_L m_rl m_lf m_ov m_pl m_rm m_fs x1 = R → W p l e (headSpec wsX6_count ({ frames := 1, cells := 0, slots := 0, locals := 25 })).room s m ([.ref q6, .int a0] : List Value).toArray below meth c H locs 0 0 (MQ below (mu_Q (some (.int R.2.2.2.2.2.2.2.2)) (dC, dI) kcl (mo_W q6 qA qB qF qR qC qL qS qO qY qH qW qM cyI cyJ cyZ R.1 m_o m_f m_r m_b m_a u_F u_R R.2.1 R.2.2.1 R.2.2.2.1 R.2.2.2.2.1 R.2.2.2.2.2.1 R.2.2.2.2.2.2.1 R.2.2.2.2.2.2.2.1 m_pl g_S g_O g_Y g_H m_st g_W m_rm m_fs g_M) A) ([.ref q6, .int a0] : List Value).toArray s 0 0 A) (F0 m 32 ls []) := by
    intro  m_th g_F g_R g_C g_L m_rl m_lf m_ov x1 H locs ls hP hD hS hl hR
    unfold cf_X6_count_s32 at hR
    refine lv_iload_n hx hb dX6_count_32 rfl (lv_at hl 1 rfl) ?_
    by_cases c_3 : x1 = 0
    · rw [if_pos c_3] at hR
      refine lv_tableIn (off := 47) (tgt := 80) hx hb dX6_count_33 (by rw [c_3]; decide +kernel) (by rw [c_3]; decide +kernel) (by rw [c_3]; decide +kernel) (by decide) ?_
      refine lv_aload_n hx hb dX6_count_80 rfl (lv_at hl 0 rfl) ?_
      refine va_get (D := (dC, dI)) (ci := 4) (v := .int m_o) (C := RX6) (T := TX6) (N := 25) hx hb hts h1_ hown hK hP 0 rfl rfl 1 (by decide) h2_ (fun _ h9 => h9) rfl dX6_count_81 ?_
      rw [← hR]
      exact W.iret (v := m_o) hx hb hr (fun t ht _ => ⟨rfl, by rw [ht]; exact hP, hS.F ht⟩) hS.2.2 dX6_count_84
    · rw [if_neg c_3] at hR
      by_cases c_4 : x1 = 1
      · rw [if_pos c_4] at hR
        refine lv_tableIn (off := 52) (tgt := 85) hx hb dX6_count_33 (by rw [c_4]; decide +kernel) (by rw [c_4]; decide +kernel) (by rw [c_4]; decide +kernel) (by decide) ?_
        refine lv_aload_n hx hb dX6_count_85 rfl (lv_at hl 0 rfl) ?_
        refine va_get (D := (dC, dI)) (ci := 4) (v := .int m_f) (C := RX6) (T := TX6) (N := 25) hx hb hts h1_ hown hK hP 0 rfl rfl 2 (by decide) h3_ (fun _ h9 => h9) rfl dX6_count_86 ?_
        rw [← hR]
        exact W.iret (v := m_f) hx hb hr (fun t ht _ => ⟨rfl, by rw [ht]; exact hP, hS.F ht⟩) hS.2.2 dX6_count_89
      · rw [if_neg c_4] at hR
        by_cases c_5 : x1 = 2
        · rw [if_pos c_5] at hR
          refine lv_tableIn (off := 57) (tgt := 90) hx hb dX6_count_33 (by rw [c_5]; decide +kernel) (by rw [c_5]; decide +kernel) (by rw [c_5]; decide +kernel) (by decide) ?_
          refine lv_aload_n hx hb dX6_count_90 rfl (lv_at hl 0 rfl) ?_
          refine va_get (D := (dC, dI)) (ci := 4) (v := .int m_r) (C := RX6) (T := TX6) (N := 25) hx hb hts h1_ hown hK hP 0 rfl rfl 3 (by decide) h4_ (fun _ h9 => h9) rfl dX6_count_91 ?_
          rw [← hR]
          exact W.iret (v := m_r) hx hb hr (fun t ht _ => ⟨rfl, by rw [ht]; exact hP, hS.F ht⟩) hS.2.2 dX6_count_94
        · rw [if_neg c_5] at hR
          by_cases c_6 : x1 = 3
          · rw [if_pos c_6] at hR
            refine lv_tableIn (off := 62) (tgt := 95) hx hb dX6_count_33 (by rw [c_6]; decide +kernel) (by rw [c_6]; decide +kernel) (by rw [c_6]; decide +kernel) (by decide) ?_
            refine lv_aload_n hx hb dX6_count_95 rfl (lv_at hl 0 rfl) ?_
            refine va_get (D := (dC, dI)) (ci := 4) (v := .int m_b) (C := RX6) (T := TX6) (N := 25) hx hb hts h1_ hown hK hP 0 rfl rfl 4 (by decide) h5_ (fun _ h9 => h9) rfl dX6_count_96 ?_
            rw [← hR]
            exact W.iret (v := m_b) hx hb hr (fun t ht _ => ⟨rfl, by rw [ht]; exact hP, hS.F ht⟩) hS.2.2 dX6_count_99
          · rw [if_neg c_6] at hR
            by_cases c_7 : x1 = 4
            · rw [if_pos c_7] at hR
              refine lv_tableIn (off := 67) (tgt := 100) hx hb dX6_count_33 (by rw [c_7]; decide +kernel) (by rw [c_7]; decide +kernel) (by rw [c_7]; decide +kernel) (by decide) ?_
              refine lv_aload_n hx hb dX6_count_100 rfl (lv_at hl 0 rfl) ?_
              refine va_get (D := (dC, dI)) (ci := 4) (v := .int m_a) (C := RX6) (T := TX6) (N := 25) hx hb hts h1_ hown hK hP 0 rfl rfl 5 (by decide) h6_ (fun _ h9 => h9) rfl dX6_count_101 ?_
              rw [← hR]
              exact W.iret (v := m_a) hx hb hr (fun t ht _ => ⟨rfl, by rw [ht]; exact hP, hS.F ht⟩) hS.2.2 dX6_count_104
            · rw [if_neg c_7] at hR
              by_cases c_8 : x1 = 5
              · rw [if_pos c_8] at hR
                refine lv_tableIn (off := 72) (tgt := 105) hx hb dX6_count_33 (by rw [c_8]; decide +kernel) (by rw [c_8]; decide +kernel) (by rw [c_8]; decide +kernel) (by decide) ?_
                refine lv_aload_n hx hb dX6_count_105 rfl (lv_at hl 0 rfl) ?_
                refine va_get (D := (dC, dI)) (ci := 4) (v := .int m_fs) (C := RX6) (T := TX6) (N := 25) hx hb hts h1_ hown hK hP 0 rfl rfl 23 (by decide) h7_ (fun _ h9 => h9) rfl dX6_count_106 ?_
                rw [← hR]
                exact W.iret (v := m_fs) hx hb hr (fun t ht _ => ⟨rfl, by rw [ht]; exact hP, hS.F ht⟩) hS.2.2 dX6_count_109
              · rw [if_neg c_8] at hR
                by_cases c_9 : x1 = 6
                · rw [if_pos c_9] at hR
                  refine lv_tableIn (off := 77) (tgt := 110) hx hb dX6_count_33 (by rw [c_9]; decide +kernel) (by rw [c_9]; decide +kernel) (by rw [c_9]; decide +kernel) (by decide) ?_
                  refine lv_aload_n hx hb dX6_count_110 rfl (lv_at hl 0 rfl) ?_
                  refine va_get (D := (dC, dI)) (ci := 4) (v := .int m_rm) (C := RX6) (T := TX6) (N := 25) hx hb hts h1_ hown hK hP 0 rfl rfl 22 (by decide) h8_ (fun _ h9 => h9) rfl dX6_count_111 ?_
                  rw [← hR]
                  exact W.iret (v := m_rm) hx hb hr (fun t ht _ => ⟨rfl, by rw [ht]; exact hP, hS.F ht⟩) hS.2.2 dX6_count_114
                · rw [if_neg c_9] at hR
                  by_cases c_10 : x1 = 7
                  · rw [if_pos c_10] at hR
                    refine lv_tableIn (off := 82) (tgt := 115) hx hb dX6_count_33 (by rw [c_10]; decide +kernel) (by rw [c_10]; decide +kernel) (by rw [c_10]; decide +kernel) (by decide) ?_
                    refine lv_aload_n hx hb dX6_count_115 rfl (lv_at hl 0 rfl) ?_
                    refine va_get (D := (dC, dI)) (ci := 4) (v := .int m_ov) (C := RX6) (T := TX6) (N := 25) hx hb hts h1_ hown hK hP 0 rfl rfl 14 (by decide) h9_ (fun _ h9 => h9) rfl dX6_count_116 ?_
                    refine lv_if_eq (tgt := 126) hx hb dX6_count_119 (by decide) (fun c_11 => ?_) (fun c_11 => ?_)
                    · rw [if_pos c_11] at hR
                      refine lv_iconst (v := (0 : Int32)) hx hb dX6_count_126 (by decide +kernel) ?_
                      rw [← hR]
                      exact W.iret (v := (0 : Int32)) hx hb hr (fun t ht _ => ⟨rfl, by rw [ht]; exact hP, hS.F ht⟩) hS.2.2 dX6_count_127
                    · rw [if_neg c_11] at hR
                      refine lv_iconst (v := (1 : Int32)) hx hb dX6_count_122 (by decide +kernel) ?_
                      refine lv_goto (tgt := 127) hx hb dX6_count_123 (by decide) ?_
                      rw [← hR]
                      exact W.iret (v := (1 : Int32)) hx hb hr (fun t ht _ => ⟨rfl, by rw [ht]; exact hP, hS.F ht⟩) hS.2.2 dX6_count_127
                  · rw [if_neg c_10] at hR
                    refine lv_tableOut (tgt := 128) hx hb dX6_count_33 (by have q0 := lv_neT (a := 0) c_3 (by decide +kernel); have q1 := lv_neT (a := 1) c_4 (by decide +kernel); have q2 := lv_neT (a := 2) c_5 (by decide +kernel); have q3 := lv_neT (a := 3) c_6 (by decide +kernel); have q4 := lv_neT (a := 4) c_7 (by decide +kernel); have q5 := lv_neT (a := 5) c_8 (by decide +kernel); have q6 := lv_neT (a := 6) c_9 (by decide +kernel); have q7 := lv_neT (a := 7) c_10 (by decide +kernel); omega) (by decide) ?_
                    refine lv_aload_n hx hb dX6_count_128 rfl (lv_at hl 0 rfl) ?_
                    refine va_get (D := (dC, dI)) (ci := 4) (v := .int m_lf) (C := RX6) (T := TX6) (N := 25) hx hb hts h1_ hown hK hP 0 rfl rfl 13 (by decide) h10_ (fun _ h9 => h9) rfl dX6_count_129 ?_
                    rw [← hR]
                    exact W.iret (v := m_lf) hx hb hr (fun t ht _ => ⟨rfl, by rw [ht]; exact hP, hS.F ht⟩) hS.2.2 dX6_count_132
  have Ks16 : ∀  (m_th : Int32) (g_F : Nat → Int32) (g_R : Nat → Int32) (g_C : Nat → Int32) (g_L : Nat → Int32) (m_rl : Int32) (m_lf : Int32) (m_ov : Int32) (x1 : Int32) (y0 : Int32) (H : Heap) (locs : List Loc) (ls : Array Slot), va_P (dC, dI) kcl (mo_W q6 qA qB qF qR qC qL qS qO qY qH qW qM cyI cyJ cyZ m_th m_o m_f m_r m_b m_a u_F u_R g_F g_R g_C g_L m_rl m_lf m_ov m_pl g_S g_O g_Y g_H m_st g_W m_rm m_fs g_M) H → va_D A (mo_W q6 qA qB qF qR qC qL qS qO qY qH qW qM cyI cyJ cyZ m_th m_o m_f m_r m_b m_a u_F u_R g_F g_R g_C g_L m_rl m_lf m_ov m_pl g_S g_O g_Y g_H m_st g_W m_rm m_fs g_M) → va_S A s.heap H locs → lv_has ls 2 [(0, .ref q6), (1, .int x1)] → cf_X6_count_s16  m_th m_o m_f m_r m_b m_a g_F g_R g_C g_L m_rl m_lf m_ov m_pl m_rm m_fs x1 y0 = R → W p l e (headSpec wsX6_count ({ frames := 1, cells := 0, slots := 0, locals := 25 })).room s m ([.ref q6, .int a0] : List Value).toArray below meth c H locs 0 0 (MQ below (mu_Q (some (.int R.2.2.2.2.2.2.2.2)) (dC, dI) kcl (mo_W q6 qA qB qF qR qC qL qS qO qY qH qW qM cyI cyJ cyZ R.1 m_o m_f m_r m_b m_a u_F u_R R.2.1 R.2.2.1 R.2.2.2.1 R.2.2.2.2.1 R.2.2.2.2.2.1 R.2.2.2.2.2.2.1 R.2.2.2.2.2.2.2.1 m_pl g_S g_O g_Y g_H m_st g_W m_rm m_fs g_M) A) ([.ref q6, .int a0] : List Value).toArray s 0 0 A) (F0 m 16 ls [.int y0, .ref q6]) := by
    intro  m_th g_F g_R g_C g_L m_rl m_lf m_ov x1 y0 H locs ls hP hD hS hl hR
    unfold cf_X6_count_s16 at hR
    refine mu_call (ws' := (mo_W q6 qA qB qF qR qC qL qS qO qY qH qW qM cyI cyJ cyZ ((cf_X6_fails m_th y0).1) m_o m_f m_r m_b m_a u_F u_R g_F g_R g_C g_L m_rl m_lf m_ov m_pl g_S g_O g_Y g_H m_st g_W m_rm m_fs g_M)) (wr := []) (va_runV (As := [.int y0]) (rest := []) ⟨hx, hb, hml, hown, hts⟩ (c_X6_fails l dC dI q6 qA qB qF qR qC qL qS qO qY qH qW qM cyI cyJ cyZ m_th m_o m_f m_r m_b m_a u_F u_R g_F g_R g_C g_L m_rl m_lf m_ov m_pl g_S g_O g_Y g_H m_st g_W m_rm m_fs g_M H.size y0  ) (cwV 1 hts gX6_count_X6_fails rfl rfl rfl (by decide +kernel) ⟨Nat.le_of_ble_eq_true rfl, Nat.le_of_ble_eq_true rfl⟩) ⟨mu_blind, va_recv hK hP (ci := 4) (q0 := 0) rfl rfl, fun U hU hW => ⟨rfl, by rw [hU], by rw [hU]; exact hP, va_K.moved hW.alike (hK.sub [0, 1, 2] rfl), hD.weaken (fun _ _ _ _ => trivial)⟩⟩ rfl rfl hl.1 rfl (lv_room (Nat.le_of_ble_eq_true rfl)) dX6_count_16 ⟨Nat.le_refl _, Nat.le_refl _⟩) hP hD hS hA [0, 1, 2, 3, 4, 5, 6, 7, 8, 9, 10, 11, 12] [] [0, 1, 2, 3, 4, 5, 6, 7, 8, 9, 10, 11, 12] rfl rfl (by decide) (by decide) (by decide) rfl (by decide) rfl (fun H locs hP hD hS => ?_)
    refine W.eq (g2 := F0 m 19 ls [.int ((cf_X6_fails m_th y0).2)]) rfl ?_
    refine lv_if_eq (tgt := 24) hx hb dX6_count_19 (by decide) (fun c_2 => ?_) (fun c_2 => ?_)
    · rw [if_pos c_2] at hR
      refine lv_aload_n hx hb dX6_count_24 rfl (lv_at hl 0 rfl) ?_
      refine lv_aload_n hx hb dX6_count_25 rfl (lv_at hl 0 rfl) ?_
      refine va_get (D := (dC, dI)) (ci := 4) (v := .long m_pl) (C := RX6) (T := TX6) (N := 25) hx hb hts h1_ hown hK hP 0 rfl rfl 15 (by decide) h0_ (fun _ h9 => h9) rfl dX6_count_26 ?_
      refine mu_call (ws' := (mo_W q6 qA qB qF qR qC qL qS qO qY qH qW qM cyI cyJ cyZ ((cf_X6_fails m_th y0).1) m_o m_f m_r m_b m_a u_F u_R ((cf_X6_take g_F g_R g_C g_L m_rl m_lf m_ov m_pl).1) ((cf_X6_take g_F g_R g_C g_L m_rl m_lf m_ov m_pl).2.1) ((cf_X6_take g_F g_R g_C g_L m_rl m_lf m_ov m_pl).2.2.1) ((cf_X6_take g_F g_R g_C g_L m_rl m_lf m_ov m_pl).2.2.2.1) ((cf_X6_take g_F g_R g_C g_L m_rl m_lf m_ov m_pl).2.2.2.2.1) ((cf_X6_take g_F g_R g_C g_L m_rl m_lf m_ov m_pl).2.2.2.2.2.1) ((cf_X6_take g_F g_R g_C g_L m_rl m_lf m_ov m_pl).2.2.2.2.2.2) m_pl g_S g_O g_Y g_H m_st g_W m_rm m_fs g_M)) (wr := []) (va_runV (As := [.long m_pl]) (rest := []) ⟨hx, hb, hml, hown, hts⟩ (c_X6_take l dC dI q6 qA qB qF qR qC qL qS qO qY qH qW qM cyI cyJ cyZ ((cf_X6_fails m_th y0).1) m_o m_f m_r m_b m_a u_F u_R g_F g_R g_C g_L m_rl m_lf m_ov m_pl g_S g_O g_Y g_H m_st g_W m_rm m_fs g_M H.size m_pl  ) (cwV 1 hts gX6_count_X6_take rfl rfl rfl (by decide +kernel) ⟨Nat.le_of_ble_eq_true rfl, Nat.le_of_ble_eq_true rfl⟩) ⟨mu_blind, va_recv hK hP (ci := 4) (q0 := 0) rfl rfl, fun U hU hW => ⟨rfl, by rw [hU], by rw [hU]; exact hP, va_K.moved hW.alike (hK.sub [0, 1, 2] rfl), hD.weaken (fun _ _ _ _ => trivial)⟩⟩ rfl rfl hl.1 rfl (lv_room (Nat.le_of_ble_eq_true rfl)) dX6_count_29 ⟨Nat.le_refl _, Nat.le_refl _⟩) hP hD hS hA [0, 1, 2, 3, 4, 5, 6, 7, 8, 9, 10, 11, 12] [] [0, 1, 2, 3, 4, 5, 6, 7, 8, 9, 10, 11, 12] rfl rfl (by decide) (by decide) (by decide) rfl (by decide) rfl (fun H locs hP hD hS => ?_)
      refine W.eq (g2 := F0 m 32 ls []) rfl ?_
      exact Ks32  ((cf_X6_fails m_th y0).1) ((cf_X6_take g_F g_R g_C g_L m_rl m_lf m_ov m_pl).1) ((cf_X6_take g_F g_R g_C g_L m_rl m_lf m_ov m_pl).2.1) ((cf_X6_take g_F g_R g_C g_L m_rl m_lf m_ov m_pl).2.2.1) ((cf_X6_take g_F g_R g_C g_L m_rl m_lf m_ov m_pl).2.2.2.1) ((cf_X6_take g_F g_R g_C g_L m_rl m_lf m_ov m_pl).2.2.2.2.1) ((cf_X6_take g_F g_R g_C g_L m_rl m_lf m_ov m_pl).2.2.2.2.2.1) ((cf_X6_take g_F g_R g_C g_L m_rl m_lf m_ov m_pl).2.2.2.2.2.2) x1 H locs ls hP hD hS (lv_sub hl [0, 1] rfl) hR
    · rw [if_neg c_2] at hR
      refine lv_iconst (v := (0 : Int32)) hx hb dX6_count_22 (by decide +kernel) ?_
      rw [← hR]
      exact W.iret (v := (0 : Int32)) hx hb hr (fun t ht _ => ⟨rfl, by rw [ht]; exact hP, hS.F ht⟩) hS.2.2 dX6_count_23
  have Ks11 : ∀  (m_th : Int32) (g_F : Nat → Int32) (g_R : Nat → Int32) (g_C : Nat → Int32) (g_L : Nat → Int32) (m_rl : Int32) (m_lf : Int32) (m_ov : Int32) (x1 : Int32) (H : Heap) (locs : List Loc) (ls : Array Slot), va_P (dC, dI) kcl (mo_W q6 qA qB qF qR qC qL qS qO qY qH qW qM cyI cyJ cyZ m_th m_o m_f m_r m_b m_a u_F u_R g_F g_R g_C g_L m_rl m_lf m_ov m_pl g_S g_O g_Y g_H m_st g_W m_rm m_fs g_M) H → va_D A (mo_W q6 qA qB qF qR qC qL qS qO qY qH qW qM cyI cyJ cyZ m_th m_o m_f m_r m_b m_a u_F u_R g_F g_R g_C g_L m_rl m_lf m_ov m_pl g_S g_O g_Y g_H m_st g_W m_rm m_fs g_M) → va_S A s.heap H locs → lv_has ls 2 [(0, .ref q6), (1, .int x1)] → cf_X6_count_s11  m_th m_o m_f m_r m_b m_a g_F g_R g_C g_L m_rl m_lf m_ov m_pl m_rm m_fs x1 = R → W p l e (headSpec wsX6_count ({ frames := 1, cells := 0, slots := 0, locals := 25 })).room s m ([.ref q6, .int a0] : List Value).toArray below meth c H locs 0 0 (MQ below (mu_Q (some (.int R.2.2.2.2.2.2.2.2)) (dC, dI) kcl (mo_W q6 qA qB qF qR qC qL qS qO qY qH qW qM cyI cyJ cyZ R.1 m_o m_f m_r m_b m_a u_F u_R R.2.1 R.2.2.1 R.2.2.2.1 R.2.2.2.2.1 R.2.2.2.2.2.1 R.2.2.2.2.2.2.1 R.2.2.2.2.2.2.2.1 m_pl g_S g_O g_Y g_H m_st g_W m_rm m_fs g_M) A) ([.ref q6, .int a0] : List Value).toArray s 0 0 A) (F0 m 11 ls [.ref q6]) := by
    intro  m_th g_F g_R g_C g_L m_rl m_lf m_ov x1 H locs ls hP hD hS hl hR
    unfold cf_X6_count_s11 at hR
    refine lv_iconst (v := (1 : Int32)) hx hb dX6_count_11 (by decide +kernel) ?_
    refine lv_goto (tgt := 16) hx hb dX6_count_12 (by decide) ?_
    exact Ks16  m_th g_F g_R g_C g_L m_rl m_lf m_ov x1 (1 : Int32) H locs ls hP hD hS (lv_sub hl [0, 1] rfl) hR
  have hl := lv_entry ([.ref q6, .int a0]) (n := 2) (Nat.le_of_ble_eq_true rfl)
  rw [lg_entry_eq]
  generalize (lg_sl ([.ref q6, .int a0]) ++ List.replicate (2 - (lg_sl ([.ref q6, .int a0])).length) Slot.unset).toArray = ls at hl ⊢
  have hl : lv_has ls 2 [(0, .ref q6), (1, .int a0)] := hl
  unfold cf_X6_count at hR
  refine mu_start (A := A) (fun H locs hP hS => ?_) hP
  refine lv_aload_n hx hb dX6_count_0 rfl (lv_at hl 0 rfl) ?_
  refine lv_iload_n hx hb dX6_count_1 rfl (lv_at hl 1 rfl) ?_
  refine lv_if_lt (tgt := 11) hx hb dX6_count_2 (by decide) (fun c_1 => ?_) (fun c_1 => ?_)
  · rw [if_pos c_1] at hR
    exact Ks11  m_th g_F g_R g_C g_L m_rl m_lf m_ov a0 H locs ls hP hD hS (lv_sub hl [0, 1] rfl) hR
  · rw [if_neg c_1] at hR
    refine lv_iload_n hx hb dX6_count_5 rfl (lv_at hl 1 rfl) ?_
    refine lv_bipush (v := (8 : Int32)) hx hb dX6_count_6 (by decide +kernel) ?_
    refine lv_icmp_le (tgt := 15) hx hb dX6_count_8 (by decide) (fun c_12 => ?_) (fun c_12 => ?_)
    · rw [if_pos c_12] at hR
      refine lv_iconst (v := (0 : Int32)) hx hb dX6_count_15 (by decide +kernel) ?_
      exact Ks16  m_th g_F g_R g_C g_L m_rl m_lf m_ov a0 (0 : Int32) H locs ls hP hD hS (lv_sub hl [0, 1] rfl) hR
    · rw [if_neg c_12] at hR
      exact Ks11  m_th g_F g_R g_C g_L m_rl m_lf m_ov a0 H locs ls hP hD hS (lv_sub hl [0, 1] rfl) hR

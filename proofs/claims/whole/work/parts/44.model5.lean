def cf_X6_act0_s131  (m_o : Int32) (m_f : Int32) (m_r : Int32) (m_b : Int32) (g_F : Nat → Int32) (g_R : Nat → Int32) (g_C : Nat → Int32) (g_L : Nat → Int32) (m_rl : Int32) (m_lf : Int32) (m_ov : Int32)  : (Nat → Int32) × (Nat → Int32) × (Nat → Int32) × (Nat → Int32) × Int32 × Int32 × Int32 :=
  (g_F, g_R, g_C, g_L, m_rl, m_lf, m_ov)
def cf_X6_act0_s100  (m_o : Int32) (m_f : Int32) (m_r : Int32) (m_b : Int32) (g_F : Nat → Int32) (g_R : Nat → Int32) (g_C : Nat → Int32) (g_L : Nat → Int32) (m_rl : Int32) (m_lf : Int32) (m_ov : Int32)  : (Nat → Int32) × (Nat → Int32) × (Nat → Int32) × (Nat → Int32) × Int32 × Int32 × Int32 :=
  (g_F, g_R, g_C, g_L, m_rl, m_lf, m_ov)
def cf_X6_act0_s55  (m_o : Int32) (m_f : Int32) (m_r : Int32) (m_b : Int32) (g_F : Nat → Int32) (g_R : Nat → Int32) (g_C : Nat → Int32) (g_L : Nat → Int32) (m_rl : Int32) (m_lf : Int32) (m_ov : Int32)  : (Nat → Int32) × (Nat → Int32) × (Nat → Int32) × (Nat → Int32) × Int32 × Int32 × Int32 :=
  (g_F, g_R, g_C, g_L, m_rl, m_lf, m_ov)
def cf_X6_act0 (m_o : Int32) (m_f : Int32) (m_r : Int32) (m_b : Int32) (g_F : Nat → Int32) (g_R : Nat → Int32) (g_C : Nat → Int32) (g_L : Nat → Int32) (m_rl : Int32) (m_lf : Int32) (m_ov : Int32) (a0 : Int32) : (Nat → Int32) × (Nat → Int32) × (Nat → Int32) × (Nat → Int32) × Int32 × Int32 × Int32 :=
  (if a0 = 0 then (g_F, g_R, (cf_X6_look m_o m_f m_r g_F g_R g_C g_L m_rl ).1, (cf_X6_look m_o m_f m_r g_F g_R g_C g_L m_rl ).2.1, (cf_X6_look m_o m_f m_r g_F g_R g_C g_L m_rl ).2.2, m_lf, m_ov) else (if a0 = (1 : Int32) then (g_F, g_R, (cf_X6_end m_r m_b g_R g_C g_L m_ov ).1, (cf_X6_end m_r m_b g_R g_C g_L m_ov ).2.1, m_rl, m_lf, (cf_X6_end m_r m_b g_R g_C g_L m_ov ).2.2) else (if (11 : Int32) ≤ a0 then (if (29 : Int32) ≤ a0 then (if (47 : Int32) ≤ a0 then (g_F, (cf_X6_setRoot m_b g_R g_C g_L (a0 - (47 : Int32)) (-1 : Int32) (0 : Int32)).1, (cf_X6_setRoot m_b g_R g_C g_L (a0 - (47 : Int32)) (-1 : Int32) (0 : Int32)).2.1, (cf_X6_setRoot m_b g_R g_C g_L (a0 - (47 : Int32)) (-1 : Int32) (0 : Int32)).2.2, m_rl, (m_lf - (1 : Int32)), m_ov) else cf_X6_act0_s131  m_o m_f m_r m_b ((cf_X6_store m_b g_F g_R g_C g_L ((a0 - (29 : Int32)) / (6 : Int32)) (((a0 - (29 : Int32)) - (a0 - (29 : Int32)) / (6 : Int32) * (6 : Int32)) / (2 : Int32)) ((a0 - (29 : Int32)) - (a0 - (29 : Int32)) / (2 : Int32) * (2 : Int32))).1) g_R ((cf_X6_store m_b g_F g_R g_C g_L ((a0 - (29 : Int32)) / (6 : Int32)) (((a0 - (29 : Int32)) - (a0 - (29 : Int32)) / (6 : Int32) * (6 : Int32)) / (2 : Int32)) ((a0 - (29 : Int32)) - (a0 - (29 : Int32)) / (2 : Int32) * (2 : Int32))).2.1) ((cf_X6_store m_b g_F g_R g_C g_L ((a0 - (29 : Int32)) / (6 : Int32)) (((a0 - (29 : Int32)) - (a0 - (29 : Int32)) / (6 : Int32) * (6 : Int32)) / (2 : Int32)) ((a0 - (29 : Int32)) - (a0 - (29 : Int32)) / (2 : Int32) * (2 : Int32))).2.2) m_rl (m_lf - (1 : Int32)) m_ov ) else cf_X6_act0_s100  m_o m_f m_r m_b g_F ((cf_X6_setRoot m_b g_R g_C g_L ((a0 - (11 : Int32)) / (6 : Int32)) (g_F ((((2 : Int32) * (g_R ((((a0 - (11 : Int32)) - (a0 - (11 : Int32)) / (6 : Int32) * (6 : Int32)) / (2 : Int32))).toNatClampNeg)) + ((a0 - (11 : Int32)) - (a0 - (11 : Int32)) / (2 : Int32) * (2 : Int32)))).toNatClampNeg) (1 : Int32)).1) ((cf_X6_setRoot m_b g_R g_C g_L ((a0 - (11 : Int32)) / (6 : Int32)) (g_F ((((2 : Int32) * (g_R ((((a0 - (11 : Int32)) - (a0 - (11 : Int32)) / (6 : Int32) * (6 : Int32)) / (2 : Int32))).toNatClampNeg)) + ((a0 - (11 : Int32)) - (a0 - (11 : Int32)) / (2 : Int32) * (2 : Int32)))).toNatClampNeg) (1 : Int32)).2.1) ((cf_X6_setRoot m_b g_R g_C g_L ((a0 - (11 : Int32)) / (6 : Int32)) (g_F ((((2 : Int32) * (g_R ((((a0 - (11 : Int32)) - (a0 - (11 : Int32)) / (6 : Int32) * (6 : Int32)) / (2 : Int32))).toNatClampNeg)) + ((a0 - (11 : Int32)) - (a0 - (11 : Int32)) / (2 : Int32) * (2 : Int32)))).toNatClampNeg) (1 : Int32)).2.2) m_rl (m_lf - (1 : Int32)) m_ov ) else cf_X6_act0_s55  m_o m_f m_r m_b g_F ((cf_X6_setRoot m_b g_R g_C g_L ((a0 - (2 : Int32)) / (3 : Int32)) (g_R (((a0 - (2 : Int32)) - (a0 - (2 : Int32)) / (3 : Int32) * (3 : Int32))).toNatClampNeg) (1 : Int32)).1) ((cf_X6_setRoot m_b g_R g_C g_L ((a0 - (2 : Int32)) / (3 : Int32)) (g_R (((a0 - (2 : Int32)) - (a0 - (2 : Int32)) / (3 : Int32) * (3 : Int32))).toNatClampNeg) (1 : Int32)).2.1) ((cf_X6_setRoot m_b g_R g_C g_L ((a0 - (2 : Int32)) / (3 : Int32)) (g_R (((a0 - (2 : Int32)) - (a0 - (2 : Int32)) / (3 : Int32) * (3 : Int32))).toNatClampNeg) (1 : Int32)).2.2) m_rl (m_lf - (1 : Int32)) m_ov )))
def vc_X6_act0 (m_o : Int32) (m_f : Int32) (m_r : Int32) (m_b : Int32) (g_F : Nat → Int32) (g_R : Nat → Int32) (g_C : Nat → Int32) (g_L : Nat → Int32) (m_rl : Int32) (m_lf : Int32) (m_ov : Int32) (a0 : Int32) : Prop :=
  ((a0 = 0 → (vc_X6_look m_o m_f m_r g_F g_R g_C g_L m_rl  ∧ True)) ∧ (¬ a0 = 0 → ((a0 = (1 : Int32) → (vc_X6_end m_r m_b g_R g_C g_L m_ov  ∧ True)) ∧ (¬ a0 = (1 : Int32) → (((11 : Int32) ≤ a0 → (((29 : Int32) ≤ a0 → (((47 : Int32) ≤ a0 → (vc_X6_setRoot m_b g_R g_C g_L (a0 - (47 : Int32)) (-1 : Int32) (0 : Int32) ∧ True)) ∧ (¬ (47 : Int32) ≤ a0 → (vc_X6_store m_b g_F g_R g_C g_L ((a0 - (29 : Int32)) / (6 : Int32)) (((a0 - (29 : Int32)) - (a0 - (29 : Int32)) / (6 : Int32) * (6 : Int32)) / (2 : Int32)) ((a0 - (29 : Int32)) - (a0 - (29 : Int32)) / (2 : Int32) * (2 : Int32)) ∧ True)))) ∧ (¬ (29 : Int32) ≤ a0 → (vp_in (((a0 - (11 : Int32)) - (a0 - (11 : Int32)) / (6 : Int32) * (6 : Int32)) / (2 : Int32)) 3 ∧ (vp_in (((2 : Int32) * (g_R ((((a0 - (11 : Int32)) - (a0 - (11 : Int32)) / (6 : Int32) * (6 : Int32)) / (2 : Int32))).toNatClampNeg)) + ((a0 - (11 : Int32)) - (a0 - (11 : Int32)) / (2 : Int32) * (2 : Int32))) 8 ∧ (vc_X6_setRoot m_b g_R g_C g_L ((a0 - (11 : Int32)) / (6 : Int32)) (g_F ((((2 : Int32) * (g_R ((((a0 - (11 : Int32)) - (a0 - (11 : Int32)) / (6 : Int32) * (6 : Int32)) / (2 : Int32))).toNatClampNeg)) + ((a0 - (11 : Int32)) - (a0 - (11 : Int32)) / (2 : Int32) * (2 : Int32)))).toNatClampNeg) (1 : Int32) ∧ True)))))) ∧ (¬ (11 : Int32) ≤ a0 → (vp_in ((a0 - (2 : Int32)) - (a0 - (2 : Int32)) / (3 : Int32) * (3 : Int32)) 3 ∧ (vc_X6_setRoot m_b g_R g_C g_L ((a0 - (2 : Int32)) / (3 : Int32)) (g_R (((a0 - (2 : Int32)) - (a0 - (2 : Int32)) / (3 : Int32) * (3 : Int32))).toNatClampNeg) (1 : Int32) ∧ True))))))))
set_option maxHeartbeats 4000000 in
set_option maxRecDepth 100000 in
theorem c_X6_act0 (l : Launch) (dC : Nat → ClassId) (dI : Nat → Nat → Nat) (q6 qA qB qF qR qC qL qS qO qY qH qW qM : Nat) (cyI cyJ cyZ : ClassId) (m_th : Int32) (m_o : Int32) (m_f : Int32) (m_r : Int32) (m_b : Int32) (m_a : Int32) (u_F : Nat → Int32) (u_R : Nat → Int32) (g_F : Nat → Int32) (g_R : Nat → Int32) (g_C : Nat → Int32) (g_L : Nat → Int32) (m_rl : Int32) (m_lf : Int32) (m_ov : Int32) (m_pl : Int64) (g_S : Nat → Int64) (g_O : Nat → Int32) (g_Y : Nat → Int32) (g_H : Nat → Int32) (m_st : Int32) (g_W : Nat → Int32) (m_rm : Int32) (m_fs : Int32) (g_M : Nat → Int32) (sz : Nat) (a0 : Int32) (hm_o : m_o ≤ 4) (hm_r : m_r ≤ 3) (hV : vc_X6_act0 m_o m_f m_r m_b g_F g_R g_C g_L m_rl m_lf m_ov a0) : Met l yX6_act0 wsX6_act0 ({ frames := 2, cells := 0, slots := 0, locals := 46 }) (mu_P [.ref q6, .int a0] sz (dC, dI) kcl (mo_W q6 qA qB qF qR qC qL qS qO qY qH qW qM cyI cyJ cyZ m_th m_o m_f m_r m_b m_a u_F u_R g_F g_R g_C g_L m_rl m_lf m_ov m_pl g_S g_O g_Y g_H m_st g_W m_rm m_fs g_M) [(cyI, .int), (cyJ, .long), (cyZ, .boolean)]) (mu_Q none (dC, dI) kcl (mo_W q6 qA qB qF qR qC qL qS qO qY qH qW qM cyI cyJ cyZ m_th m_o m_f m_r m_b m_a u_F u_R ((cf_X6_act0 m_o m_f m_r m_b g_F g_R g_C g_L m_rl m_lf m_ov a0).1) ((cf_X6_act0 m_o m_f m_r m_b g_F g_R g_C g_L m_rl m_lf m_ov a0).2.1) ((cf_X6_act0 m_o m_f m_r m_b g_F g_R g_C g_L m_rl m_lf m_ov a0).2.2.1) ((cf_X6_act0 m_o m_f m_r m_b g_F g_R g_C g_L m_rl m_lf m_ov a0).2.2.2.1) ((cf_X6_act0 m_o m_f m_r m_b g_F g_R g_C g_L m_rl m_lf m_ov a0).2.2.2.2.1) ((cf_X6_act0 m_o m_f m_r m_b g_F g_R g_C g_L m_rl m_lf m_ov a0).2.2.2.2.2.1) ((cf_X6_act0 m_o m_f m_r m_b g_F g_R g_C g_L m_rl m_lf m_ov a0).2.2.2.2.2.2) m_pl g_S g_O g_Y g_H m_st g_W m_rm m_fs g_M) (va_A (mo_W q6 qA qB qF qR qC qL qS qO qY qH qW qM cyI cyJ cyZ m_th m_o m_f m_r m_b m_a u_F u_R g_F g_R g_C g_L m_rl m_lf m_ov m_pl g_S g_O g_Y g_H m_st g_W m_rm m_fs g_M) sz)) 0 0 (va_A (mo_W q6 qA qB qF qR qC qL qS qO qY qH qW qM cyI cyJ cyZ m_th m_o m_f m_r m_b m_a u_F u_R g_F g_R g_C g_L m_rl m_lf m_ov m_pl g_S g_O g_Y g_H m_st g_W m_rm m_fs g_M) sz) := by
  refine Met.ofW (cc := cX6_act0) (maxL := 3) (ret := none) (by decide) rfl ?_
  intro p e s m args below meth c s₁ B hml hv
  obtain ⟨rfl, hsz, hP, hK, hD0⟩ := hv
  have hx := B.exec
  have hb := B.bytes
  have hr := B.returns
  have hts := atoms_spec (ws := wsX6_act0) B.pre
  have hown : s.vm.findClass RX6 = some m.cls := findClass_of_methodNamed B.named
  have hlocks := B.notSynchronized
  subst hsz
  have hD := hD0.self (sz := s.heap.size)
  generalize hAe : va_A (mo_W q6 qA qB qF qR qC qL qS qO qY qH qW qM cyI cyJ cyZ m_th m_o m_f m_r m_b m_a u_F u_R g_F g_R g_C g_L m_rl m_lf m_ov m_pl g_S g_O g_Y g_H m_st g_W m_rm m_fs g_M) s.heap.size = A at hD ⊢
  have hA : ∀ q : Nat, s.heap.size ≤ q → A q := fun q h => by rw [← hAe]; exact Or.inr h
  have hP : va_P (dC, dI) kcl (mo_W q6 qA qB qF qR qC qL qS qO qY qH qW qM cyI cyJ cyZ m_th m_o m_f m_r m_b m_a u_F u_R g_F g_R g_C g_L m_rl m_lf m_ov m_pl g_S g_O g_Y g_H m_st g_W m_rm m_fs g_M) s.heap := hP
  have h0_ : (Cond.fieldLink RX6 76 "ColourTrierModel" "left" "I").before _ s = true := hts _ (by decide +kernel)
  have h1_ : ∀ w ∈ u_ws RX6 TX6 25, w ∈ wsX6_act0 := fun w h => List.mem_cons_of_mem _ (List.mem_append_right _ h)
  have h2_ : (Cond.fieldLink RX6 29 "ColourTrierModel" "field" "[I").before _ s = true := hts _ (by decide +kernel)
  have h3_ : (Cond.fieldLink RX6 32 "ColourTrierModel" "root" "[I").before _ s = true := hts _ (by decide +kernel)
  generalize hR : (cf_X6_act0 m_o m_f m_r m_b g_F g_R g_C g_L m_rl m_lf m_ov a0) = R
  have Ks131 : ∀  (g_F : Nat → Int32) (g_R : Nat → Int32) (g_C : Nat → Int32) (g_L : Nat → Int32) (m_rl : Int32) (m_lf : Int32) (m_ov : Int32)  (H : Heap) (locs : List Loc) (ls : Array Slot), va_P (dC, dI) kcl (mo_W q6 qA qB qF qR qC qL qS qO qY qH qW qM cyI cyJ cyZ m_th m_o m_f m_r m_b m_a u_F u_R g_F g_R g_C g_L m_rl m_lf m_ov m_pl g_S g_O g_Y g_H m_st g_W m_rm m_fs g_M) H → va_D A (mo_W q6 qA qB qF qR qC qL qS qO qY qH qW qM cyI cyJ cyZ m_th m_o m_f m_r m_b m_a u_F u_R g_F g_R g_C g_L m_rl m_lf m_ov m_pl g_S g_O g_Y g_H m_st g_W m_rm m_fs g_M) → va_S A s.heap H locs → lv_has ls 3 [] → cf_X6_act0_s131  m_o m_f m_r m_b g_F g_R g_C g_L m_rl m_lf m_ov  = R → W p l e (headSpec wsX6_act0 ({ frames := 2, cells := 0, slots := 0, locals := 46 })).room s m ([.ref q6, .int a0] : List Value).toArray below meth c H locs 0 0 (MQ below (mu_Q none (dC, dI) kcl (mo_W q6 qA qB qF qR qC qL qS qO qY qH qW qM cyI cyJ cyZ m_th m_o m_f m_r m_b m_a u_F u_R R.1 R.2.1 R.2.2.1 R.2.2.2.1 R.2.2.2.2.1 R.2.2.2.2.2.1 R.2.2.2.2.2.2 m_pl g_S g_O g_Y g_H m_st g_W m_rm m_fs g_M) A) ([.ref q6, .int a0] : List Value).toArray s 0 0 A) (F0 m 131 ls []) := by
    intro  g_F g_R g_C g_L m_rl m_lf m_ov  H locs ls hP hD hS hl hR
    unfold cf_X6_act0_s131 at hR
    refine lv_goto (tgt := 144) hx hb dX6_act0_131 (by decide) ?_
    rw [← hR]
    exact W.vret hx hb hr (fun t ht _ => ⟨rfl, by rw [ht]; exact hP, hS.F ht⟩) hS.2.2 dX6_act0_144
  have Ks100 : ∀  (g_F : Nat → Int32) (g_R : Nat → Int32) (g_C : Nat → Int32) (g_L : Nat → Int32) (m_rl : Int32) (m_lf : Int32) (m_ov : Int32)  (H : Heap) (locs : List Loc) (ls : Array Slot), va_P (dC, dI) kcl (mo_W q6 qA qB qF qR qC qL qS qO qY qH qW qM cyI cyJ cyZ m_th m_o m_f m_r m_b m_a u_F u_R g_F g_R g_C g_L m_rl m_lf m_ov m_pl g_S g_O g_Y g_H m_st g_W m_rm m_fs g_M) H → va_D A (mo_W q6 qA qB qF qR qC qL qS qO qY qH qW qM cyI cyJ cyZ m_th m_o m_f m_r m_b m_a u_F u_R g_F g_R g_C g_L m_rl m_lf m_ov m_pl g_S g_O g_Y g_H m_st g_W m_rm m_fs g_M) → va_S A s.heap H locs → lv_has ls 3 [] → cf_X6_act0_s100  m_o m_f m_r m_b g_F g_R g_C g_L m_rl m_lf m_ov  = R → W p l e (headSpec wsX6_act0 ({ frames := 2, cells := 0, slots := 0, locals := 46 })).room s m ([.ref q6, .int a0] : List Value).toArray below meth c H locs 0 0 (MQ below (mu_Q none (dC, dI) kcl (mo_W q6 qA qB qF qR qC qL qS qO qY qH qW qM cyI cyJ cyZ m_th m_o m_f m_r m_b m_a u_F u_R R.1 R.2.1 R.2.2.1 R.2.2.2.1 R.2.2.2.2.1 R.2.2.2.2.2.1 R.2.2.2.2.2.2 m_pl g_S g_O g_Y g_H m_st g_W m_rm m_fs g_M) A) ([.ref q6, .int a0] : List Value).toArray s 0 0 A) (F0 m 100 ls []) := by
    intro  g_F g_R g_C g_L m_rl m_lf m_ov  H locs ls hP hD hS hl hR
    unfold cf_X6_act0_s100 at hR
    refine lv_goto (tgt := 144) hx hb dX6_act0_100 (by decide) ?_
    rw [← hR]
    exact W.vret hx hb hr (fun t ht _ => ⟨rfl, by rw [ht]; exact hP, hS.F ht⟩) hS.2.2 dX6_act0_144
  have Ks55 : ∀  (g_F : Nat → Int32) (g_R : Nat → Int32) (g_C : Nat → Int32) (g_L : Nat → Int32) (m_rl : Int32) (m_lf : Int32) (m_ov : Int32)  (H : Heap) (locs : List Loc) (ls : Array Slot), va_P (dC, dI) kcl (mo_W q6 qA qB qF qR qC qL qS qO qY qH qW qM cyI cyJ cyZ m_th m_o m_f m_r m_b m_a u_F u_R g_F g_R g_C g_L m_rl m_lf m_ov m_pl g_S g_O g_Y g_H m_st g_W m_rm m_fs g_M) H → va_D A (mo_W q6 qA qB qF qR qC qL qS qO qY qH qW qM cyI cyJ cyZ m_th m_o m_f m_r m_b m_a u_F u_R g_F g_R g_C g_L m_rl m_lf m_ov m_pl g_S g_O g_Y g_H m_st g_W m_rm m_fs g_M) → va_S A s.heap H locs → lv_has ls 3 [] → cf_X6_act0_s55  m_o m_f m_r m_b g_F g_R g_C g_L m_rl m_lf m_ov  = R → W p l e (headSpec wsX6_act0 ({ frames := 2, cells := 0, slots := 0, locals := 46 })).room s m ([.ref q6, .int a0] : List Value).toArray below meth c H locs 0 0 (MQ below (mu_Q none (dC, dI) kcl (mo_W q6 qA qB qF qR qC qL qS qO qY qH qW qM cyI cyJ cyZ m_th m_o m_f m_r m_b m_a u_F u_R R.1 R.2.1 R.2.2.1 R.2.2.2.1 R.2.2.2.2.1 R.2.2.2.2.2.1 R.2.2.2.2.2.2 m_pl g_S g_O g_Y g_H m_st g_W m_rm m_fs g_M) A) ([.ref q6, .int a0] : List Value).toArray s 0 0 A) (F0 m 55 ls []) := by
    intro  g_F g_R g_C g_L m_rl m_lf m_ov  H locs ls hP hD hS hl hR
    unfold cf_X6_act0_s55 at hR
    refine lv_goto (tgt := 144) hx hb dX6_act0_55 (by decide) ?_
    rw [← hR]
    exact W.vret hx hb hr (fun t ht _ => ⟨rfl, by rw [ht]; exact hP, hS.F ht⟩) hS.2.2 dX6_act0_144
  have hl := lv_entry ([.ref q6, .int a0]) (n := 3) (Nat.le_of_ble_eq_true rfl)
  rw [lg_entry_eq]
  generalize (lg_sl ([.ref q6, .int a0]) ++ List.replicate (3 - (lg_sl ([.ref q6, .int a0])).length) Slot.unset).toArray = ls at hl ⊢
  have hl : lv_has ls 3 [(0, .ref q6), (1, .int a0)] := hl
  unfold cf_X6_act0 at hR
  unfold vc_X6_act0 at hV
  refine mu_start (A := A) (fun H locs hP hS => ?_) hP
  refine lv_iload_n hx hb dX6_act0_0 rfl (lv_at hl 1 rfl) ?_
  refine lv_if_ne (tgt := 9) hx hb dX6_act0_1 (by decide) (fun c_1 => ?_) (fun c_1 => ?_)
  · rw [if_neg c_1] at hR
    have hV := hV.2 c_1
    refine lv_iload_n hx hb dX6_act0_9 rfl (lv_at hl 1 rfl) ?_
    refine lv_iconst (v := (1 : Int32)) hx hb dX6_act0_10 (by decide +kernel) ?_
    refine lv_icmp_ne (tgt := 19) hx hb dX6_act0_11 (by decide) (fun c_2 => ?_) (fun c_2 => ?_)
    · rw [if_neg c_2] at hR
      have hV := hV.2 c_2
      refine lv_aload_n hx hb dX6_act0_19 rfl (lv_at hl 0 rfl) ?_
      refine lv_dup hx hb dX6_act0_20 rfl ?_
      refine va_get (D := (dC, dI)) (ci := 4) (v := .int m_lf) (C := RX6) (T := TX6) (N := 25) hx hb hts h1_ hown hK hP 0 rfl rfl 13 (by decide) h0_ (fun _ h9 => h9) rfl dX6_act0_21 ?_
      refine lv_iconst (v := (1 : Int32)) hx hb dX6_act0_24 (by decide +kernel) ?_
      refine lv_isub hx hb dX6_act0_25 ?_
      refine va_put (D := (dC, dI)) (ci := 4) (v := .int (m_lf - (1 : Int32))) (ty := .int) (C := RX6) (T := TX6) (N := 25) hx hb hts h1_ tyX6 tyX6_ok nmX6 hown hK hP hD hS 0 rfl rfl 13 (by decide) h0_ (fun _ h9 => h9) rfl (by decide +kernel) rfl rfl (Nat.le_of_ble_eq_true rfl) dX6_act0_26 (fun H locs hP hD hS => ?_)
      have hP : va_P (dC, dI) kcl (mo_W q6 qA qB qF qR qC qL qS qO qY qH qW qM cyI cyJ cyZ m_th m_o m_f m_r m_b m_a u_F u_R g_F g_R g_C g_L m_rl (m_lf - (1 : Int32)) m_ov m_pl g_S g_O g_Y g_H m_st g_W m_rm m_fs g_M) H := hP
      have hD : va_D A (mo_W q6 qA qB qF qR qC qL qS qO qY qH qW qM cyI cyJ cyZ m_th m_o m_f m_r m_b m_a u_F u_R g_F g_R g_C g_L m_rl (m_lf - (1 : Int32)) m_ov m_pl g_S g_O g_Y g_H m_st g_W m_rm m_fs g_M) := hD
      refine lv_iload_n hx hb dX6_act0_29 rfl (lv_at hl 1 rfl) ?_
      refine lv_bipush (v := (11 : Int32)) hx hb dX6_act0_30 (by decide +kernel) ?_
      refine lv_icmp_ge (tgt := 58) hx hb dX6_act0_32 (by decide) (fun c_3 => ?_) (fun c_3 => ?_)
      · rw [if_pos c_3] at hR
        have hV := hV.1 c_3
        refine lv_iload_n hx hb dX6_act0_58 rfl (lv_at hl 1 rfl) ?_
        refine lv_bipush (v := (29 : Int32)) hx hb dX6_act0_59 (by decide +kernel) ?_
        refine lv_icmp_ge (tgt := 103) hx hb dX6_act0_61 (by decide) (fun c_4 => ?_) (fun c_4 => ?_)
        · rw [if_pos c_4] at hR
          have hV := hV.1 c_4
          refine lv_iload_n hx hb dX6_act0_103 rfl (lv_at hl 1 rfl) ?_
          refine lv_bipush (v := (47 : Int32)) hx hb dX6_act0_104 (by decide +kernel) ?_
          refine lv_icmp_ge (tgt := 134) hx hb dX6_act0_106 (by decide) (fun c_5 => ?_) (fun c_5 => ?_)
          · rw [if_pos c_5] at hR
            have hV := hV.1 c_5
            refine lv_aload_n hx hb dX6_act0_134 rfl (lv_at hl 0 rfl) ?_
            refine lv_iload_n hx hb dX6_act0_135 rfl (lv_at hl 1 rfl) ?_
            refine lv_bipush (v := (47 : Int32)) hx hb dX6_act0_136 (by decide +kernel) ?_
            refine lv_isub hx hb dX6_act0_138 ?_
            refine lv_iconst (v := (-1 : Int32)) hx hb dX6_act0_139 (by decide +kernel) ?_
            refine lv_iconst (v := (0 : Int32)) hx hb dX6_act0_140 (by decide +kernel) ?_
            obtain ⟨hv6, hV⟩ := hV
            refine mu_call (ws' := (mo_W q6 qA qB qF qR qC qL qS qO qY qH qW qM cyI cyJ cyZ m_th m_o m_f m_r m_b m_a u_F u_R g_F ((cf_X6_setRoot m_b g_R g_C g_L (a0 - (47 : Int32)) (-1 : Int32) (0 : Int32)).1) ((cf_X6_setRoot m_b g_R g_C g_L (a0 - (47 : Int32)) (-1 : Int32) (0 : Int32)).2.1) ((cf_X6_setRoot m_b g_R g_C g_L (a0 - (47 : Int32)) (-1 : Int32) (0 : Int32)).2.2) m_rl (m_lf - (1 : Int32)) m_ov m_pl g_S g_O g_Y g_H m_st g_W m_rm m_fs g_M)) (wr := []) (va_runV (As := [.int (a0 - (47 : Int32)), .int (-1 : Int32), .int (0 : Int32)]) (rest := []) ⟨hx, hb, hml, hown, hts⟩ (c_X6_setRoot l dC dI q6 qA qB qF qR qC qL qS qO qY qH qW qM cyI cyJ cyZ m_th m_o m_f m_r m_b m_a u_F u_R g_F g_R g_C g_L m_rl (m_lf - (1 : Int32)) m_ov m_pl g_S g_O g_Y g_H m_st g_W m_rm m_fs g_M H.size (a0 - (47 : Int32)) (-1 : Int32) (0 : Int32)  hv6) (cwV 3 hts gX6_act0_X6_setRoot rfl rfl rfl (by decide +kernel) ⟨Nat.le_of_ble_eq_true rfl, Nat.le_of_ble_eq_true rfl⟩) ⟨mu_blind, va_recv hK hP (ci := 4) (q0 := 0) rfl rfl, fun U hU hW => ⟨rfl, by rw [hU], by rw [hU]; exact hP, va_K.moved hW.alike (hK.sub [0, 1, 2] rfl), hD.weaken (fun _ _ _ _ => trivial)⟩⟩ rfl rfl hl.1 rfl (lv_room (Nat.le_of_ble_eq_true rfl)) dX6_act0_141 ⟨Nat.le_refl _, Nat.le_refl _⟩) hP hD hS hA [0, 1, 2, 3, 4, 5, 6, 7, 8, 9, 10, 11, 12] [] [0, 1, 2, 3, 4, 5, 6, 7, 8, 9, 10, 11, 12] rfl rfl (by decide) (by decide) (by decide) rfl (by decide) rfl (fun H locs hP hD hS => ?_)
            refine W.eq (g2 := F0 m 144 ls []) rfl ?_
            rw [← hR]
            exact W.vret hx hb hr (fun t ht _ => ⟨rfl, by rw [ht]; exact hP, hS.F ht⟩) hS.2.2 dX6_act0_144
          · rw [if_neg c_5] at hR
            have hV := hV.2 c_5
            refine lv_iload_n hx hb dX6_act0_109 rfl (lv_at hl 1 rfl) ?_
            refine lv_bipush (v := (29 : Int32)) hx hb dX6_act0_110 (by decide +kernel) ?_
            refine lv_isub hx hb dX6_act0_112 ?_
            refine lv_istore_n (lv' := [(2, .int (a0 - (29 : Int32))), (0, .ref q6), (1, .int a0)]) hx hb dX6_act0_113 rfl hl (by decide) rfl (fun ls hl => ?_)
            refine lv_aload_n hx hb dX6_act0_114 rfl (lv_at hl 1 rfl) ?_
            refine lv_iload_n hx hb dX6_act0_115 rfl (lv_at hl 0 rfl) ?_
            refine lv_bipush (v := (6 : Int32)) hx hb dX6_act0_116 (by decide +kernel) ?_
            refine lv_idiv hx hb dX6_act0_118 (by decide +kernel) ?_
            refine lv_iload_n hx hb dX6_act0_119 rfl (lv_at hl 0 rfl) ?_
            refine lv_bipush (v := (6 : Int32)) hx hb dX6_act0_120 (by decide +kernel) ?_
            refine lv_irem hx hb dX6_act0_122 (by decide +kernel) ?_
            refine lv_iconst (v := (2 : Int32)) hx hb dX6_act0_123 (by decide +kernel) ?_
            refine lv_idiv hx hb dX6_act0_124 (by decide +kernel) ?_
            refine lv_iload_n hx hb dX6_act0_125 rfl (lv_at hl 0 rfl) ?_
            refine lv_iconst (v := (2 : Int32)) hx hb dX6_act0_126 (by decide +kernel) ?_
            refine lv_irem hx hb dX6_act0_127 (by decide +kernel) ?_
            obtain ⟨hv7, hV⟩ := hV
            refine mu_call (ws' := (mo_W q6 qA qB qF qR qC qL qS qO qY qH qW qM cyI cyJ cyZ m_th m_o m_f m_r m_b m_a u_F u_R ((cf_X6_store m_b g_F g_R g_C g_L ((a0 - (29 : Int32)) / (6 : Int32)) (((a0 - (29 : Int32)) - (a0 - (29 : Int32)) / (6 : Int32) * (6 : Int32)) / (2 : Int32)) ((a0 - (29 : Int32)) - (a0 - (29 : Int32)) / (2 : Int32) * (2 : Int32))).1) g_R ((cf_X6_store m_b g_F g_R g_C g_L ((a0 - (29 : Int32)) / (6 : Int32)) (((a0 - (29 : Int32)) - (a0 - (29 : Int32)) / (6 : Int32) * (6 : Int32)) / (2 : Int32)) ((a0 - (29 : Int32)) - (a0 - (29 : Int32)) / (2 : Int32) * (2 : Int32))).2.1) ((cf_X6_store m_b g_F g_R g_C g_L ((a0 - (29 : Int32)) / (6 : Int32)) (((a0 - (29 : Int32)) - (a0 - (29 : Int32)) / (6 : Int32) * (6 : Int32)) / (2 : Int32)) ((a0 - (29 : Int32)) - (a0 - (29 : Int32)) / (2 : Int32) * (2 : Int32))).2.2) m_rl (m_lf - (1 : Int32)) m_ov m_pl g_S g_O g_Y g_H m_st g_W m_rm m_fs g_M)) (wr := []) (va_runV (As := [.int ((a0 - (29 : Int32)) / (6 : Int32)), .int (((a0 - (29 : Int32)) - (a0 - (29 : Int32)) / (6 : Int32) * (6 : Int32)) / (2 : Int32)), .int ((a0 - (29 : Int32)) - (a0 - (29 : Int32)) / (2 : Int32) * (2 : Int32))]) (rest := []) ⟨hx, hb, hml, hown, hts⟩ (c_X6_store l dC dI q6 qA qB qF qR qC qL qS qO qY qH qW qM cyI cyJ cyZ m_th m_o m_f m_r m_b m_a u_F u_R g_F g_R g_C g_L m_rl (m_lf - (1 : Int32)) m_ov m_pl g_S g_O g_Y g_H m_st g_W m_rm m_fs g_M H.size ((a0 - (29 : Int32)) / (6 : Int32)) (((a0 - (29 : Int32)) - (a0 - (29 : Int32)) / (6 : Int32) * (6 : Int32)) / (2 : Int32)) ((a0 - (29 : Int32)) - (a0 - (29 : Int32)) / (2 : Int32) * (2 : Int32))  hv7) (cwV 3 hts gX6_act0_X6_store rfl rfl rfl (by decide +kernel) ⟨Nat.le_of_ble_eq_true rfl, Nat.le_of_ble_eq_true rfl⟩) ⟨mu_blind, va_recv hK hP (ci := 4) (q0 := 0) rfl rfl, fun U hU hW => ⟨rfl, by rw [hU], by rw [hU]; exact hP, va_K.moved hW.alike (hK.sub [0, 1, 2] rfl), hD.weaken (fun _ _ _ _ => trivial)⟩⟩ rfl rfl hl.1 rfl (lv_room (Nat.le_of_ble_eq_true rfl)) dX6_act0_128 ⟨Nat.le_refl _, Nat.le_refl _⟩) hP hD hS hA [0, 1, 2, 3, 4, 5, 6, 7, 8, 9, 10, 11, 12] [] [0, 1, 2, 3, 4, 5, 6, 7, 8, 9, 10, 11, 12] rfl rfl (by decide) (by decide) (by decide) rfl (by decide) rfl (fun H locs hP hD hS => ?_)
            refine W.eq (g2 := F0 m 131 ls []) rfl ?_
            exact Ks131  ((cf_X6_store m_b g_F g_R g_C g_L ((a0 - (29 : Int32)) / (6 : Int32)) (((a0 - (29 : Int32)) - (a0 - (29 : Int32)) / (6 : Int32) * (6 : Int32)) / (2 : Int32)) ((a0 - (29 : Int32)) - (a0 - (29 : Int32)) / (2 : Int32) * (2 : Int32))).1) g_R ((cf_X6_store m_b g_F g_R g_C g_L ((a0 - (29 : Int32)) / (6 : Int32)) (((a0 - (29 : Int32)) - (a0 - (29 : Int32)) / (6 : Int32) * (6 : Int32)) / (2 : Int32)) ((a0 - (29 : Int32)) - (a0 - (29 : Int32)) / (2 : Int32) * (2 : Int32))).2.1) ((cf_X6_store m_b g_F g_R g_C g_L ((a0 - (29 : Int32)) / (6 : Int32)) (((a0 - (29 : Int32)) - (a0 - (29 : Int32)) / (6 : Int32) * (6 : Int32)) / (2 : Int32)) ((a0 - (29 : Int32)) - (a0 - (29 : Int32)) / (2 : Int32) * (2 : Int32))).2.2) m_rl (m_lf - (1 : Int32)) m_ov  H locs ls hP hD hS (lv_sub hl [] rfl) hR
        · rw [if_neg c_4] at hR
          have hV := hV.2 c_4
          refine lv_iload_n hx hb dX6_act0_64 rfl (lv_at hl 1 rfl) ?_
          refine lv_bipush (v := (11 : Int32)) hx hb dX6_act0_65 (by decide +kernel) ?_
          refine lv_isub hx hb dX6_act0_67 ?_
          refine lv_istore_n (lv' := [(2, .int (a0 - (11 : Int32))), (0, .ref q6), (1, .int a0)]) hx hb dX6_act0_68 rfl hl (by decide) rfl (fun ls hl => ?_)
          refine lv_aload_n hx hb dX6_act0_69 rfl (lv_at hl 1 rfl) ?_
          refine lv_iload_n hx hb dX6_act0_70 rfl (lv_at hl 0 rfl) ?_
          refine lv_bipush (v := (6 : Int32)) hx hb dX6_act0_71 (by decide +kernel) ?_
          refine lv_idiv hx hb dX6_act0_73 (by decide +kernel) ?_
          refine lv_aload_n hx hb dX6_act0_74 rfl (lv_at hl 1 rfl) ?_
          refine va_get (D := (dC, dI)) (ci := 4) (v := .ref qF) (C := RX6) (T := TX6) (N := 25) hx hb hts h1_ hown hK hP 0 rfl rfl 8 (by decide) h2_ (fun _ h9 => h9) rfl dX6_act0_75 ?_
          refine lv_iconst (v := (2 : Int32)) hx hb dX6_act0_78 (by decide +kernel) ?_
          refine lv_aload_n hx hb dX6_act0_79 rfl (lv_at hl 1 rfl) ?_
          refine va_get (D := (dC, dI)) (ci := 4) (v := .ref qR) (C := RX6) (T := TX6) (N := 25) hx hb hts h1_ hown hK hP 0 rfl rfl 9 (by decide) h3_ (fun _ h9 => h9) rfl dX6_act0_80 ?_
          refine lv_iload_n hx hb dX6_act0_83 rfl (lv_at hl 0 rfl) ?_
          refine lv_bipush (v := (6 : Int32)) hx hb dX6_act0_84 (by decide +kernel) ?_
          refine lv_irem hx hb dX6_act0_86 (by decide +kernel) ?_
          refine lv_iconst (v := (2 : Int32)) hx hb dX6_act0_87 (by decide +kernel) ?_
          refine lv_idiv hx hb dX6_act0_88 (by decide +kernel) ?_
          obtain ⟨hi8, hV⟩ := hV
          refine va_iald hx hb hK hP 4 0 rfl rfl hi8 dX6_act0_89 ?_
          refine lv_imul hx hb dX6_act0_90 ?_
          refine lv_iload_n hx hb dX6_act0_91 rfl (lv_at hl 0 rfl) ?_
          refine lv_iconst (v := (2 : Int32)) hx hb dX6_act0_92 (by decide +kernel) ?_
          refine lv_irem hx hb dX6_act0_93 (by decide +kernel) ?_
          refine lv_iadd hx hb dX6_act0_94 ?_
          obtain ⟨hi9, hV⟩ := hV
          refine va_iald hx hb hK hP 3 0 rfl rfl hi9 dX6_act0_95 ?_
          refine lv_iconst (v := (1 : Int32)) hx hb dX6_act0_96 (by decide +kernel) ?_
          obtain ⟨hv10, hV⟩ := hV
          refine mu_call (ws' := (mo_W q6 qA qB qF qR qC qL qS qO qY qH qW qM cyI cyJ cyZ m_th m_o m_f m_r m_b m_a u_F u_R g_F ((cf_X6_setRoot m_b g_R g_C g_L ((a0 - (11 : Int32)) / (6 : Int32)) (g_F ((((2 : Int32) * (g_R ((((a0 - (11 : Int32)) - (a0 - (11 : Int32)) / (6 : Int32) * (6 : Int32)) / (2 : Int32))).toNatClampNeg)) + ((a0 - (11 : Int32)) - (a0 - (11 : Int32)) / (2 : Int32) * (2 : Int32)))).toNatClampNeg) (1 : Int32)).1) ((cf_X6_setRoot m_b g_R g_C g_L ((a0 - (11 : Int32)) / (6 : Int32)) (g_F ((((2 : Int32) * (g_R ((((a0 - (11 : Int32)) - (a0 - (11 : Int32)) / (6 : Int32) * (6 : Int32)) / (2 : Int32))).toNatClampNeg)) + ((a0 - (11 : Int32)) - (a0 - (11 : Int32)) / (2 : Int32) * (2 : Int32)))).toNatClampNeg) (1 : Int32)).2.1) ((cf_X6_setRoot m_b g_R g_C g_L ((a0 - (11 : Int32)) / (6 : Int32)) (g_F ((((2 : Int32) * (g_R ((((a0 - (11 : Int32)) - (a0 - (11 : Int32)) / (6 : Int32) * (6 : Int32)) / (2 : Int32))).toNatClampNeg)) + ((a0 - (11 : Int32)) - (a0 - (11 : Int32)) / (2 : Int32) * (2 : Int32)))).toNatClampNeg) (1 : Int32)).2.2) m_rl (m_lf - (1 : Int32)) m_ov m_pl g_S g_O g_Y g_H m_st g_W m_rm m_fs g_M)) (wr := []) (va_runV (As := [.int ((a0 - (11 : Int32)) / (6 : Int32)), .int (g_F ((((2 : Int32) * (g_R ((((a0 - (11 : Int32)) - (a0 - (11 : Int32)) / (6 : Int32) * (6 : Int32)) / (2 : Int32))).toNatClampNeg)) + ((a0 - (11 : Int32)) - (a0 - (11 : Int32)) / (2 : Int32) * (2 : Int32)))).toNatClampNeg), .int (1 : Int32)]) (rest := []) ⟨hx, hb, hml, hown, hts⟩ (c_X6_setRoot l dC dI q6 qA qB qF qR qC qL qS qO qY qH qW qM cyI cyJ cyZ m_th m_o m_f m_r m_b m_a u_F u_R g_F g_R g_C g_L m_rl (m_lf - (1 : Int32)) m_ov m_pl g_S g_O g_Y g_H m_st g_W m_rm m_fs g_M H.size ((a0 - (11 : Int32)) / (6 : Int32)) (g_F ((((2 : Int32) * (g_R ((((a0 - (11 : Int32)) - (a0 - (11 : Int32)) / (6 : Int32) * (6 : Int32)) / (2 : Int32))).toNatClampNeg)) + ((a0 - (11 : Int32)) - (a0 - (11 : Int32)) / (2 : Int32) * (2 : Int32)))).toNatClampNeg) (1 : Int32)  hv10) (cwV 3 hts gX6_act0_X6_setRoot rfl rfl rfl (by decide +kernel) ⟨Nat.le_of_ble_eq_true rfl, Nat.le_of_ble_eq_true rfl⟩) ⟨mu_blind, va_recv hK hP (ci := 4) (q0 := 0) rfl rfl, fun U hU hW => ⟨rfl, by rw [hU], by rw [hU]; exact hP, va_K.moved hW.alike (hK.sub [0, 1, 2] rfl), hD.weaken (fun _ _ _ _ => trivial)⟩⟩ rfl rfl hl.1 rfl (lv_room (Nat.le_of_ble_eq_true rfl)) dX6_act0_97 ⟨Nat.le_refl _, Nat.le_refl _⟩) hP hD hS hA [0, 1, 2, 3, 4, 5, 6, 7, 8, 9, 10, 11, 12] [] [0, 1, 2, 3, 4, 5, 6, 7, 8, 9, 10, 11, 12] rfl rfl (by decide) (by decide) (by decide) rfl (by decide) rfl (fun H locs hP hD hS => ?_)
          refine W.eq (g2 := F0 m 100 ls []) rfl ?_
          exact Ks100  g_F ((cf_X6_setRoot m_b g_R g_C g_L ((a0 - (11 : Int32)) / (6 : Int32)) (g_F ((((2 : Int32) * (g_R ((((a0 - (11 : Int32)) - (a0 - (11 : Int32)) / (6 : Int32) * (6 : Int32)) / (2 : Int32))).toNatClampNeg)) + ((a0 - (11 : Int32)) - (a0 - (11 : Int32)) / (2 : Int32) * (2 : Int32)))).toNatClampNeg) (1 : Int32)).1) ((cf_X6_setRoot m_b g_R g_C g_L ((a0 - (11 : Int32)) / (6 : Int32)) (g_F ((((2 : Int32) * (g_R ((((a0 - (11 : Int32)) - (a0 - (11 : Int32)) / (6 : Int32) * (6 : Int32)) / (2 : Int32))).toNatClampNeg)) + ((a0 - (11 : Int32)) - (a0 - (11 : Int32)) / (2 : Int32) * (2 : Int32)))).toNatClampNeg) (1 : Int32)).2.1) ((cf_X6_setRoot m_b g_R g_C g_L ((a0 - (11 : Int32)) / (6 : Int32)) (g_F ((((2 : Int32) * (g_R ((((a0 - (11 : Int32)) - (a0 - (11 : Int32)) / (6 : Int32) * (6 : Int32)) / (2 : Int32))).toNatClampNeg)) + ((a0 - (11 : Int32)) - (a0 - (11 : Int32)) / (2 : Int32) * (2 : Int32)))).toNatClampNeg) (1 : Int32)).2.2) m_rl (m_lf - (1 : Int32)) m_ov  H locs ls hP hD hS (lv_sub hl [] rfl) hR
      · rw [if_neg c_3] at hR
        have hV := hV.2 c_3
        refine lv_aload_n hx hb dX6_act0_35 rfl (lv_at hl 0 rfl) ?_
        refine lv_iload_n hx hb dX6_act0_36 rfl (lv_at hl 1 rfl) ?_
        refine lv_iconst (v := (2 : Int32)) hx hb dX6_act0_37 (by decide +kernel) ?_
        refine lv_isub hx hb dX6_act0_38 ?_
        refine lv_iconst (v := (3 : Int32)) hx hb dX6_act0_39 (by decide +kernel) ?_
        refine lv_idiv hx hb dX6_act0_40 (by decide +kernel) ?_
        refine lv_aload_n hx hb dX6_act0_41 rfl (lv_at hl 0 rfl) ?_
        refine va_get (D := (dC, dI)) (ci := 4) (v := .ref qR) (C := RX6) (T := TX6) (N := 25) hx hb hts h1_ hown hK hP 0 rfl rfl 9 (by decide) h3_ (fun _ h9 => h9) rfl dX6_act0_42 ?_
        refine lv_iload_n hx hb dX6_act0_45 rfl (lv_at hl 1 rfl) ?_
        refine lv_iconst (v := (2 : Int32)) hx hb dX6_act0_46 (by decide +kernel) ?_
        refine lv_isub hx hb dX6_act0_47 ?_
        refine lv_iconst (v := (3 : Int32)) hx hb dX6_act0_48 (by decide +kernel) ?_
        refine lv_irem hx hb dX6_act0_49 (by decide +kernel) ?_
        obtain ⟨hi11, hV⟩ := hV
        refine va_iald hx hb hK hP 4 0 rfl rfl hi11 dX6_act0_50 ?_
        refine lv_iconst (v := (1 : Int32)) hx hb dX6_act0_51 (by decide +kernel) ?_
        obtain ⟨hv12, hV⟩ := hV
        refine mu_call (ws' := (mo_W q6 qA qB qF qR qC qL qS qO qY qH qW qM cyI cyJ cyZ m_th m_o m_f m_r m_b m_a u_F u_R g_F ((cf_X6_setRoot m_b g_R g_C g_L ((a0 - (2 : Int32)) / (3 : Int32)) (g_R (((a0 - (2 : Int32)) - (a0 - (2 : Int32)) / (3 : Int32) * (3 : Int32))).toNatClampNeg) (1 : Int32)).1) ((cf_X6_setRoot m_b g_R g_C g_L ((a0 - (2 : Int32)) / (3 : Int32)) (g_R (((a0 - (2 : Int32)) - (a0 - (2 : Int32)) / (3 : Int32) * (3 : Int32))).toNatClampNeg) (1 : Int32)).2.1) ((cf_X6_setRoot m_b g_R g_C g_L ((a0 - (2 : Int32)) / (3 : Int32)) (g_R (((a0 - (2 : Int32)) - (a0 - (2 : Int32)) / (3 : Int32) * (3 : Int32))).toNatClampNeg) (1 : Int32)).2.2) m_rl (m_lf - (1 : Int32)) m_ov m_pl g_S g_O g_Y g_H m_st g_W m_rm m_fs g_M)) (wr := []) (va_runV (As := [.int ((a0 - (2 : Int32)) / (3 : Int32)), .int (g_R (((a0 - (2 : Int32)) - (a0 - (2 : Int32)) / (3 : Int32) * (3 : Int32))).toNatClampNeg), .int (1 : Int32)]) (rest := []) ⟨hx, hb, hml, hown, hts⟩ (c_X6_setRoot l dC dI q6 qA qB qF qR qC qL qS qO qY qH qW qM cyI cyJ cyZ m_th m_o m_f m_r m_b m_a u_F u_R g_F g_R g_C g_L m_rl (m_lf - (1 : Int32)) m_ov m_pl g_S g_O g_Y g_H m_st g_W m_rm m_fs g_M H.size ((a0 - (2 : Int32)) / (3 : Int32)) (g_R (((a0 - (2 : Int32)) - (a0 - (2 : Int32)) / (3 : Int32) * (3 : Int32))).toNatClampNeg) (1 : Int32)  hv12) (cwV 3 hts gX6_act0_X6_setRoot rfl rfl rfl (by decide +kernel) ⟨Nat.le_of_ble_eq_true rfl, Nat.le_of_ble_eq_true rfl⟩) ⟨mu_blind, va_recv hK hP (ci := 4) (q0 := 0) rfl rfl, fun U hU hW => ⟨rfl, by rw [hU], by rw [hU]; exact hP, va_K.moved hW.alike (hK.sub [0, 1, 2] rfl), hD.weaken (fun _ _ _ _ => trivial)⟩⟩ rfl rfl hl.1 rfl (lv_room (Nat.le_of_ble_eq_true rfl)) dX6_act0_52 ⟨Nat.le_refl _, Nat.le_refl _⟩) hP hD hS hA [0, 1, 2, 3, 4, 5, 6, 7, 8, 9, 10, 11, 12] [] [0, 1, 2, 3, 4, 5, 6, 7, 8, 9, 10, 11, 12] rfl rfl (by decide) (by decide) (by decide) rfl (by decide) rfl (fun H locs hP hD hS => ?_)
        refine W.eq (g2 := F0 m 55 ls []) rfl ?_
        exact Ks55  g_F ((cf_X6_setRoot m_b g_R g_C g_L ((a0 - (2 : Int32)) / (3 : Int32)) (g_R (((a0 - (2 : Int32)) - (a0 - (2 : Int32)) / (3 : Int32) * (3 : Int32))).toNatClampNeg) (1 : Int32)).1) ((cf_X6_setRoot m_b g_R g_C g_L ((a0 - (2 : Int32)) / (3 : Int32)) (g_R (((a0 - (2 : Int32)) - (a0 - (2 : Int32)) / (3 : Int32) * (3 : Int32))).toNatClampNeg) (1 : Int32)).2.1) ((cf_X6_setRoot m_b g_R g_C g_L ((a0 - (2 : Int32)) / (3 : Int32)) (g_R (((a0 - (2 : Int32)) - (a0 - (2 : Int32)) / (3 : Int32) * (3 : Int32))).toNatClampNeg) (1 : Int32)).2.2) m_rl (m_lf - (1 : Int32)) m_ov  H locs ls hP hD hS (lv_sub hl [] rfl) hR
    · rw [if_pos c_2] at hR
      have hV := hV.1 c_2
      refine lv_aload_n hx hb dX6_act0_14 rfl (lv_at hl 0 rfl) ?_
      obtain ⟨hv13, hV⟩ := hV
      refine mu_call (ws' := (mo_W q6 qA qB qF qR qC qL qS qO qY qH qW qM cyI cyJ cyZ m_th m_o m_f m_r m_b m_a u_F u_R g_F g_R ((cf_X6_end m_r m_b g_R g_C g_L m_ov ).1) ((cf_X6_end m_r m_b g_R g_C g_L m_ov ).2.1) m_rl m_lf ((cf_X6_end m_r m_b g_R g_C g_L m_ov ).2.2) m_pl g_S g_O g_Y g_H m_st g_W m_rm m_fs g_M)) (wr := []) (va_runV (As := []) (rest := []) ⟨hx, hb, hml, hown, hts⟩ (c_X6_end l dC dI q6 qA qB qF qR qC qL qS qO qY qH qW qM cyI cyJ cyZ m_th m_o m_f m_r m_b m_a u_F u_R g_F g_R g_C g_L m_rl m_lf m_ov m_pl g_S g_O g_Y g_H m_st g_W m_rm m_fs g_M H.size  hm_r hv13) (cwV 0 hts gX6_act0_X6_end rfl rfl rfl (by decide +kernel) ⟨Nat.le_of_ble_eq_true rfl, Nat.le_of_ble_eq_true rfl⟩) ⟨mu_blind, va_recv hK hP (ci := 4) (q0 := 0) rfl rfl, fun U hU hW => ⟨rfl, by rw [hU], by rw [hU]; exact hP, va_K.moved hW.alike (hK.sub [0, 1, 2] rfl), hD.weaken (fun _ _ _ _ => trivial)⟩⟩ rfl rfl hl.1 rfl (lv_room (Nat.le_of_ble_eq_true rfl)) dX6_act0_15 ⟨Nat.le_refl _, Nat.le_refl _⟩) hP hD hS hA [0, 1, 2, 3, 4, 5, 6, 7, 8, 9, 10, 11, 12] [] [0, 1, 2, 3, 4, 5, 6, 7, 8, 9, 10, 11, 12] rfl rfl (by decide) (by decide) (by decide) rfl (by decide) rfl (fun H locs hP hD hS => ?_)
      refine W.eq (g2 := F0 m 18 ls []) rfl ?_
      rw [← hR]
      exact W.vret hx hb hr (fun t ht _ => ⟨rfl, by rw [ht]; exact hP, hS.F ht⟩) hS.2.2 dX6_act0_18
  · rw [if_pos c_1] at hR
    have hV := hV.1 c_1
    refine lv_aload_n hx hb dX6_act0_4 rfl (lv_at hl 0 rfl) ?_
    obtain ⟨hv14, hV⟩ := hV
    refine mu_call (ws' := (mo_W q6 qA qB qF qR qC qL qS qO qY qH qW qM cyI cyJ cyZ m_th m_o m_f m_r m_b m_a u_F u_R g_F g_R ((cf_X6_look m_o m_f m_r g_F g_R g_C g_L m_rl ).1) ((cf_X6_look m_o m_f m_r g_F g_R g_C g_L m_rl ).2.1) ((cf_X6_look m_o m_f m_r g_F g_R g_C g_L m_rl ).2.2) m_lf m_ov m_pl g_S g_O g_Y g_H m_st g_W m_rm m_fs g_M)) (wr := []) (va_runV (As := []) (rest := []) ⟨hx, hb, hml, hown, hts⟩ (c_X6_look l dC dI q6 qA qB qF qR qC qL qS qO qY qH qW qM cyI cyJ cyZ m_th m_o m_f m_r m_b m_a u_F u_R g_F g_R g_C g_L m_rl m_lf m_ov m_pl g_S g_O g_Y g_H m_st g_W m_rm m_fs g_M H.size  hm_o hv14) (cwV 0 hts gX6_act0_X6_look rfl rfl rfl (by decide +kernel) ⟨Nat.le_of_ble_eq_true rfl, Nat.le_of_ble_eq_true rfl⟩) ⟨mu_blind, va_recv hK hP (ci := 4) (q0 := 0) rfl rfl, fun U hU hW => ⟨rfl, by rw [hU], by rw [hU]; exact hP, va_K.moved hW.alike (hK.sub [0, 1, 2] rfl), hD.weaken (fun _ _ _ _ => trivial)⟩⟩ rfl rfl hl.1 rfl (lv_room (Nat.le_of_ble_eq_true rfl)) dX6_act0_5 ⟨Nat.le_refl _, Nat.le_refl _⟩) hP hD hS hA [0, 1, 2, 3, 4, 5, 6, 7, 8, 9, 10, 11, 12] [] [0, 1, 2, 3, 4, 5, 6, 7, 8, 9, 10, 11, 12] rfl rfl (by decide) (by decide) (by decide) rfl (by decide) rfl (fun H locs hP hD hS => ?_)
    refine W.eq (g2 := F0 m 8 ls []) rfl ?_
    rw [← hR]
    exact W.vret hx hb hr (fun t ht _ => ⟨rfl, by rw [ht]; exact hP, hS.F ht⟩) hS.2.2 dX6_act0_8

def cf_X6_canDo_s197  (m_o : Int32) (m_f : Int32) (m_r : Int32) (g_R : Nat → Int32) (g_C : Nat → Int32) (m_rl : Int32) (m_lf : Int32) (m_ov : Int32)  : Int32 :=
  (0 : Int32)
def cf_X6_canDo_s215  (m_o : Int32) (m_f : Int32) (m_r : Int32) (g_R : Nat → Int32) (g_C : Nat → Int32) (m_rl : Int32) (m_lf : Int32) (m_ov : Int32) (y0 : Int32) : Int32 :=
  (if (g_R (y0).toNatClampNeg) < 0 then (0 : Int32) else (1 : Int32))
def vc_X6_canDo_s215  (m_o : Int32) (m_f : Int32) (m_r : Int32) (g_R : Nat → Int32) (g_C : Nat → Int32) (m_rl : Int32) (m_lf : Int32) (m_ov : Int32) (y0 : Int32) : Prop :=
  (vp_in y0 3 ∧ True)
def cf_X6_canDo_s156  (m_o : Int32) (m_f : Int32) (m_r : Int32) (g_R : Nat → Int32) (g_C : Nat → Int32) (m_rl : Int32) (m_lf : Int32) (m_ov : Int32) (x1 : Int32) (y0 : Int32) : Int32 :=
  (if (cf_X6_isRoot m_r (y0 / (6 : Int32))) = 0 then cf_X6_canDo_s197  m_o m_f m_r g_R g_C m_rl m_lf m_ov  else (if (cf_X6_isRoot m_r ((y0 - y0 / (6 : Int32) * (6 : Int32)) / (2 : Int32))) = 0 then cf_X6_canDo_s197  m_o m_f m_r g_R g_C m_rl m_lf m_ov  else (if (y0 - y0 / (2 : Int32) * (2 : Int32)) < m_f then (if (29 : Int32) ≤ x1 then cf_X6_canDo_s215  m_o m_f m_r g_R g_C m_rl m_lf m_ov (y0 / (6 : Int32)) else cf_X6_canDo_s215  m_o m_f m_r g_R g_C m_rl m_lf m_ov ((y0 - y0 / (6 : Int32) * (6 : Int32)) / (2 : Int32))) else cf_X6_canDo_s197  m_o m_f m_r g_R g_C m_rl m_lf m_ov )))
def vc_X6_canDo_s156  (m_o : Int32) (m_f : Int32) (m_r : Int32) (g_R : Nat → Int32) (g_C : Nat → Int32) (m_rl : Int32) (m_lf : Int32) (m_ov : Int32) (x1 : Int32) (y0 : Int32) : Prop :=
  (((cf_X6_isRoot m_r (y0 / (6 : Int32))) = 0 → True) ∧ (¬ (cf_X6_isRoot m_r (y0 / (6 : Int32))) = 0 → (((cf_X6_isRoot m_r ((y0 - y0 / (6 : Int32) * (6 : Int32)) / (2 : Int32))) = 0 → True) ∧ (¬ (cf_X6_isRoot m_r ((y0 - y0 / (6 : Int32) * (6 : Int32)) / (2 : Int32))) = 0 → (((y0 - y0 / (2 : Int32) * (2 : Int32)) < m_f → (((29 : Int32) ≤ x1 → vc_X6_canDo_s215  m_o m_f m_r g_R g_C m_rl m_lf m_ov (y0 / (6 : Int32))) ∧ (¬ (29 : Int32) ≤ x1 → vc_X6_canDo_s215  m_o m_f m_r g_R g_C m_rl m_lf m_ov ((y0 - y0 / (6 : Int32) * (6 : Int32)) / (2 : Int32))))) ∧ (¬ (y0 - y0 / (2 : Int32) * (2 : Int32)) < m_f → True))))))
def cf_X6_canDo_s122  (m_o : Int32) (m_f : Int32) (m_r : Int32) (g_R : Nat → Int32) (g_C : Nat → Int32) (m_rl : Int32) (m_lf : Int32) (m_ov : Int32)  : Int32 :=
  (0 : Int32)
def cf_X6_canDo_s64  (m_o : Int32) (m_f : Int32) (m_r : Int32) (g_R : Nat → Int32) (g_C : Nat → Int32) (m_rl : Int32) (m_lf : Int32) (m_ov : Int32)  : Int32 :=
  (0 : Int32)
def cf_X6_canDo_s31  (m_o : Int32) (m_f : Int32) (m_r : Int32) (g_R : Nat → Int32) (g_C : Nat → Int32) (m_rl : Int32) (m_lf : Int32) (m_ov : Int32)  : Int32 :=
  (1 : Int32)
def cf_X6_canDo (m_o : Int32) (m_f : Int32) (m_r : Int32) (g_R : Nat → Int32) (g_C : Nat → Int32) (m_rl : Int32) (m_lf : Int32) (m_ov : Int32) (a0 : Int32) : Int32 :=
  (if m_ov = 0 then (if a0 = 0 then (if m_rl < m_r then cf_X6_canDo_s31  m_o m_f m_r g_R g_C m_rl m_lf m_ov  else (if (cf_X6_leastGrey m_o g_C ) < 0 then (0 : Int32) else cf_X6_canDo_s31  m_o m_f m_r g_R g_C m_rl m_lf m_ov )) else (if a0 = (1 : Int32) then (if m_rl = m_r then (if 0 ≤ (cf_X6_leastGrey m_o g_C ) then cf_X6_canDo_s64  m_o m_f m_r g_R g_C m_rl m_lf m_ov  else (1 : Int32)) else cf_X6_canDo_s64  m_o m_f m_r g_R g_C m_rl m_lf m_ov ) else (if m_lf = 0 then (0 : Int32) else (if (11 : Int32) ≤ a0 then (if a0 < (47 : Int32) then (if (29 : Int32) ≤ a0 then cf_X6_canDo_s156  m_o m_f m_r g_R g_C m_rl m_lf m_ov a0 (a0 - (29 : Int32)) else cf_X6_canDo_s156  m_o m_f m_r g_R g_C m_rl m_lf m_ov a0 (a0 - (11 : Int32))) else (cf_X6_isRoot m_r (a0 - (47 : Int32)))) else (if (cf_X6_isRoot m_r ((a0 - (2 : Int32)) / (3 : Int32))) = 0 then cf_X6_canDo_s122  m_o m_f m_r g_R g_C m_rl m_lf m_ov  else (if (cf_X6_isRoot m_r ((a0 - (2 : Int32)) - (a0 - (2 : Int32)) / (3 : Int32) * (3 : Int32))) = 0 then cf_X6_canDo_s122  m_o m_f m_r g_R g_C m_rl m_lf m_ov  else (if ((a0 - (2 : Int32)) / (3 : Int32)) = ((a0 - (2 : Int32)) - (a0 - (2 : Int32)) / (3 : Int32) * (3 : Int32)) then cf_X6_canDo_s122  m_o m_f m_r g_R g_C m_rl m_lf m_ov  else (1 : Int32)))))))) else (0 : Int32))
def vc_X6_canDo (m_o : Int32) (m_f : Int32) (m_r : Int32) (g_R : Nat → Int32) (g_C : Nat → Int32) (m_rl : Int32) (m_lf : Int32) (m_ov : Int32) (a0 : Int32) : Prop :=
  ((m_ov = 0 → ((a0 = 0 → True) ∧ (¬ a0 = 0 → ((a0 = (1 : Int32) → True) ∧ (¬ a0 = (1 : Int32) → ((m_lf = 0 → True) ∧ (¬ m_lf = 0 → (((11 : Int32) ≤ a0 → ((a0 < (47 : Int32) → (((29 : Int32) ≤ a0 → vc_X6_canDo_s156  m_o m_f m_r g_R g_C m_rl m_lf m_ov a0 (a0 - (29 : Int32))) ∧ (¬ (29 : Int32) ≤ a0 → vc_X6_canDo_s156  m_o m_f m_r g_R g_C m_rl m_lf m_ov a0 (a0 - (11 : Int32))))) ∧ (¬ a0 < (47 : Int32) → True))) ∧ (¬ (11 : Int32) ≤ a0 → True))))))))) ∧ (¬ m_ov = 0 → True))
set_option maxHeartbeats 4000000 in
set_option maxRecDepth 100000 in
theorem c_X6_canDo (l : Launch) (dC : Nat → ClassId) (dI : Nat → Nat → Nat) (q6 qA qB qF qR qC qL qS qO qY qH qW qM : Nat) (cyI cyJ cyZ : ClassId) (m_th : Int32) (m_o : Int32) (m_f : Int32) (m_r : Int32) (m_b : Int32) (m_a : Int32) (u_F : Nat → Int32) (u_R : Nat → Int32) (g_F : Nat → Int32) (g_R : Nat → Int32) (g_C : Nat → Int32) (g_L : Nat → Int32) (m_rl : Int32) (m_lf : Int32) (m_ov : Int32) (m_pl : Int64) (g_S : Nat → Int64) (g_O : Nat → Int32) (g_Y : Nat → Int32) (g_H : Nat → Int32) (m_st : Int32) (g_W : Nat → Int32) (m_rm : Int32) (m_fs : Int32) (g_M : Nat → Int32) (a0 : Int32) (hm_o : m_o ≤ 4) (hV : vc_X6_canDo m_o m_f m_r g_R g_C m_rl m_lf m_ov a0) : Met l yX6_canDo wsX6_canDo ({ frames := 1, cells := 0, slots := 0, locals := 21 }) (rd_P [.ref q6, .int a0] (dC, dI) kcl (mo_W q6 qA qB qF qR qC qL qS qO qY qH qW qM cyI cyJ cyZ m_th m_o m_f m_r m_b m_a u_F u_R g_F g_R g_C g_L m_rl m_lf m_ov m_pl g_S g_O g_Y g_H m_st g_W m_rm m_fs g_M) [(cyI, .int), (cyJ, .long), (cyZ, .boolean)]) (rd_Q (some (.int (cf_X6_canDo m_o m_f m_r g_R g_C m_rl m_lf m_ov a0)))) 0 0 (fun _ => False) := by
  refine Met.ofW (cc := cX6_canDo) (maxL := 5) (ret := (some .boolean)) (by decide) rfl ?_
  intro p e s m args below meth c s₁ B hml hv
  obtain ⟨rfl, hP, hK⟩ := hv
  have hx := B.exec
  have hb := B.bytes
  have hr := B.returns
  have hts := atoms_spec (ws := wsX6_canDo) B.pre
  have hown : s.vm.findClass RX6 = some m.cls := findClass_of_methodNamed B.named
  have hlocks := B.notSynchronized
  have hP : va_P (dC, dI) kcl (mo_W q6 qA qB qF qR qC qL qS qO qY qH qW qM cyI cyJ cyZ m_th m_o m_f m_r m_b m_a u_F u_R g_F g_R g_C g_L m_rl m_lf m_ov m_pl g_S g_O g_Y g_H m_st g_W m_rm m_fs g_M) s.heap := hP
  have h0_ : (Cond.fieldLink RX6 79 "ColourTrierModel" "isOver" "Z").before _ s = true := hts _ (by decide +kernel)
  have h1_ : ∀ w ∈ u_ws RX6 TX6 25, w ∈ wsX6_canDo := fun w h => List.mem_cons_of_mem _ (List.mem_append_right _ h)
  have h2_ : (Cond.fieldLink RX6 76 "ColourTrierModel" "left" "I").before _ s = true := hts _ (by decide +kernel)
  have h3_ : (Cond.fieldLink RX6 16 "ColourTrierModel" "fields" "I").before _ s = true := hts _ (by decide +kernel)
  have h4_ : (Cond.fieldLink RX6 32 "ColourTrierModel" "root" "[I").before _ s = true := hts _ (by decide +kernel)
  have h5_ : (Cond.fieldLink RX6 70 "ColourTrierModel" "rootsLooked" "I").before _ s = true := hts _ (by decide +kernel)
  have h6_ : (Cond.fieldLink RX6 19 "ColourTrierModel" "roots" "I").before _ s = true := hts _ (by decide +kernel)
  generalize hR : (cf_X6_canDo m_o m_f m_r g_R g_C m_rl m_lf m_ov a0) = R
  have Ks197 : ∀   (ls : Array Slot), lv_has ls 5 [] → cf_X6_canDo_s197  m_o m_f m_r g_R g_C m_rl m_lf m_ov  = R → W p l e (headSpec wsX6_canDo ({ frames := 1, cells := 0, slots := 0, locals := 21 })).room s m ([.ref q6, .int a0] : List Value).toArray below meth c s.heap [] 0 0 (MQ below (rd_Q (some (.int R))) ([.ref q6, .int a0] : List Value).toArray s 0 0 (fun _ => False)) (F0 m 197 ls []) := by
    intro   ls hl hR
    unfold cf_X6_canDo_s197 at hR
    refine lv_iconst (v := (0 : Int32)) hx hb dX6_canDo_197 (by decide +kernel) ?_
    exact W.zret (ty := .boolean) (v := (0 : Int32)) hx hb hr (by decide +kernel) (fun t ht _ => ⟨congrArg (fun z => Outcome.returned (some (Value.int z))) hR, ht⟩) t_nil dX6_canDo_198
  have Ks215 : ∀  (y0 : Int32) (ls : Array Slot), lv_has ls 5 [] → vc_X6_canDo_s215  m_o m_f m_r g_R g_C m_rl m_lf m_ov y0 → cf_X6_canDo_s215  m_o m_f m_r g_R g_C m_rl m_lf m_ov y0 = R → W p l e (headSpec wsX6_canDo ({ frames := 1, cells := 0, slots := 0, locals := 21 })).room s m ([.ref q6, .int a0] : List Value).toArray below meth c s.heap [] 0 0 (MQ below (rd_Q (some (.int R))) ([.ref q6, .int a0] : List Value).toArray s 0 0 (fun _ => False)) (F0 m 215 ls [.int y0, .ref qR]) := by
    intro  y0 ls hl hV hR
    unfold cf_X6_canDo_s215 at hR
    unfold vc_X6_canDo_s215 at hV
    obtain ⟨hi12, hV⟩ := hV
    refine va_iald hx hb hK hP 4 0 rfl rfl hi12 dX6_canDo_215 ?_
    refine lv_if_lt (tgt := 223) hx hb dX6_canDo_216 (by decide) (fun c_13 => ?_) (fun c_13 => ?_)
    · rw [if_pos c_13] at hR
      refine lv_iconst (v := (0 : Int32)) hx hb dX6_canDo_223 (by decide +kernel) ?_
      exact W.zret (ty := .boolean) (v := (0 : Int32)) hx hb hr (by decide +kernel) (fun t ht _ => ⟨congrArg (fun z => Outcome.returned (some (Value.int z))) hR, ht⟩) t_nil dX6_canDo_224
    · rw [if_neg c_13] at hR
      refine lv_iconst (v := (1 : Int32)) hx hb dX6_canDo_219 (by decide +kernel) ?_
      refine lv_goto (tgt := 224) hx hb dX6_canDo_220 (by decide) ?_
      exact W.zret (ty := .boolean) (v := (1 : Int32)) hx hb hr (by decide +kernel) (fun t ht _ => ⟨congrArg (fun z => Outcome.returned (some (Value.int z))) hR, ht⟩) t_nil dX6_canDo_224
  have Ks156 : ∀  (x1 : Int32) (y0 : Int32) (ls : Array Slot), lv_has ls 5 [(0, .ref q6), (1, .int x1)] → vc_X6_canDo_s156  m_o m_f m_r g_R g_C m_rl m_lf m_ov x1 y0 → cf_X6_canDo_s156  m_o m_f m_r g_R g_C m_rl m_lf m_ov x1 y0 = R → W p l e (headSpec wsX6_canDo ({ frames := 1, cells := 0, slots := 0, locals := 21 })).room s m ([.ref q6, .int a0] : List Value).toArray below meth c s.heap [] 0 0 (MQ below (rd_Q (some (.int R))) ([.ref q6, .int a0] : List Value).toArray s 0 0 (fun _ => False)) (F0 m 156 ls [.int y0]) := by
    intro  x1 y0 ls hl hV hR
    unfold cf_X6_canDo_s156 at hR
    unfold vc_X6_canDo_s156 at hV
    refine lv_istore_n (lv' := [(2, .int y0), (0, .ref q6), (1, .int x1)]) hx hb dX6_canDo_156 rfl hl (by decide) rfl (fun ls hl => ?_)
    refine lv_iload_n hx hb dX6_canDo_157 rfl (lv_at hl 0 rfl) ?_
    refine lv_bipush (v := (6 : Int32)) hx hb dX6_canDo_158 (by decide +kernel) ?_
    refine lv_idiv hx hb dX6_canDo_160 (by decide +kernel) ?_
    refine lv_istore_n (lv' := [(3, .int (y0 / (6 : Int32))), (2, .int y0), (0, .ref q6), (1, .int x1)]) hx hb dX6_canDo_161 rfl hl (by decide) rfl (fun ls hl => ?_)
    refine lv_iload_n hx hb dX6_canDo_162 rfl (lv_at hl 1 rfl) ?_
    refine lv_bipush (v := (6 : Int32)) hx hb dX6_canDo_163 (by decide +kernel) ?_
    refine lv_irem hx hb dX6_canDo_165 (by decide +kernel) ?_
    refine lv_iconst (v := (2 : Int32)) hx hb dX6_canDo_166 (by decide +kernel) ?_
    refine lv_idiv hx hb dX6_canDo_167 (by decide +kernel) ?_
    refine lv_istore (lv' := [(4, .int ((y0 - y0 / (6 : Int32) * (6 : Int32)) / (2 : Int32))), (3, .int (y0 / (6 : Int32))), (2, .int y0), (0, .ref q6), (1, .int x1)]) hx hb dX6_canDo_168 hl (by decide) rfl (fun ls hl => ?_)
    refine lv_aload_n hx hb dX6_canDo_170 rfl (lv_at hl 3 rfl) ?_
    refine lv_iload_n hx hb dX6_canDo_171 rfl (lv_at hl 1 rfl) ?_
    refine rd_calli (va_runV (As := [.int (y0 / (6 : Int32))]) (rest := []) ⟨hx, hb, hml, hown, hts⟩ (c_X6_isRoot l dC dI q6 qA qB qF qR qC qL qS qO qY qH qW qM cyI cyJ cyZ m_th m_o m_f m_r m_b m_a u_F u_R g_F g_R g_C g_L m_rl m_lf m_ov m_pl g_S g_O g_Y g_H m_st g_W m_rm m_fs g_M (y0 / (6 : Int32))  ) (cwV 1 hts gX6_canDo_X6_isRoot rfl rfl rfl (by decide +kernel) ⟨Nat.le_of_ble_eq_true rfl, Nat.le_of_ble_eq_true rfl⟩) ⟨rd_blind, va_recv hK hP (ci := 4) (q0 := 0) rfl rfl, fun U hU hW => ⟨rfl, by rw [hU]; exact hP, va_K.moved hW.alike (hK.sub [0, 1, 2] rfl)⟩⟩ rfl rfl hl.1 rfl (lv_room (Nat.le_of_ble_eq_true rfl)) dX6_canDo_172 ⟨Nat.le_refl _, Nat.le_refl _⟩) ?_
    refine lv_if_eq (tgt := 197) hx hb dX6_canDo_175 (by decide) (fun c_8 => ?_) (fun c_8 => ?_)
    · rw [if_pos c_8] at hR
      exact Ks197   ls (lv_sub hl [] rfl) hR
    · rw [if_neg c_8] at hR
      have hV := hV.2 c_8
      refine lv_aload_n hx hb dX6_canDo_178 rfl (lv_at hl 3 rfl) ?_
      refine lv_iload hx hb dX6_canDo_179 (lv_at hl 0 rfl) ?_
      refine rd_calli (va_runV (As := [.int ((y0 - y0 / (6 : Int32) * (6 : Int32)) / (2 : Int32))]) (rest := []) ⟨hx, hb, hml, hown, hts⟩ (c_X6_isRoot l dC dI q6 qA qB qF qR qC qL qS qO qY qH qW qM cyI cyJ cyZ m_th m_o m_f m_r m_b m_a u_F u_R g_F g_R g_C g_L m_rl m_lf m_ov m_pl g_S g_O g_Y g_H m_st g_W m_rm m_fs g_M ((y0 - y0 / (6 : Int32) * (6 : Int32)) / (2 : Int32))  ) (cwV 1 hts gX6_canDo_X6_isRoot rfl rfl rfl (by decide +kernel) ⟨Nat.le_of_ble_eq_true rfl, Nat.le_of_ble_eq_true rfl⟩) ⟨rd_blind, va_recv hK hP (ci := 4) (q0 := 0) rfl rfl, fun U hU hW => ⟨rfl, by rw [hU]; exact hP, va_K.moved hW.alike (hK.sub [0, 1, 2] rfl)⟩⟩ rfl rfl hl.1 rfl (lv_room (Nat.le_of_ble_eq_true rfl)) dX6_canDo_181 ⟨Nat.le_refl _, Nat.le_refl _⟩) ?_
      refine lv_if_eq (tgt := 197) hx hb dX6_canDo_184 (by decide) (fun c_9 => ?_) (fun c_9 => ?_)
      · rw [if_pos c_9] at hR
        exact Ks197   ls (lv_sub hl [] rfl) hR
      · rw [if_neg c_9] at hR
        have hV := hV.2 c_9
        refine lv_iload_n hx hb dX6_canDo_187 rfl (lv_at hl 2 rfl) ?_
        refine lv_iconst (v := (2 : Int32)) hx hb dX6_canDo_188 (by decide +kernel) ?_
        refine lv_irem hx hb dX6_canDo_189 (by decide +kernel) ?_
        refine lv_aload_n hx hb dX6_canDo_190 rfl (lv_at hl 3 rfl) ?_
        refine va_get (D := (dC, dI)) (ci := 4) (v := .int m_f) (C := RX6) (T := TX6) (N := 25) hx hb hts h1_ hown hK hP 0 rfl rfl 2 (by decide) h3_ (fun _ h9 => h9) rfl dX6_canDo_191 ?_
        refine lv_icmp_lt (tgt := 199) hx hb dX6_canDo_194 (by decide) (fun c_10 => ?_) (fun c_10 => ?_)
        · rw [if_pos c_10] at hR
          have hV := hV.1 c_10
          refine lv_aload_n hx hb dX6_canDo_199 rfl (lv_at hl 3 rfl) ?_
          refine va_get (D := (dC, dI)) (ci := 4) (v := .ref qR) (C := RX6) (T := TX6) (N := 25) hx hb hts h1_ hown hK hP 0 rfl rfl 9 (by decide) h4_ (fun _ h9 => h9) rfl dX6_canDo_200 ?_
          refine lv_iload_n hx hb dX6_canDo_203 rfl (lv_at hl 4 rfl) ?_
          refine lv_bipush (v := (29 : Int32)) hx hb dX6_canDo_204 (by decide +kernel) ?_
          refine lv_icmp_ge (tgt := 214) hx hb dX6_canDo_206 (by decide) (fun c_11 => ?_) (fun c_11 => ?_)
          · rw [if_pos c_11] at hR
            have hV := hV.1 c_11
            refine lv_iload_n hx hb dX6_canDo_214 rfl (lv_at hl 1 rfl) ?_
            exact Ks215  (y0 / (6 : Int32)) ls (lv_sub hl [] rfl) hV hR
          · rw [if_neg c_11] at hR
            have hV := hV.2 c_11
            refine lv_iload hx hb dX6_canDo_209 (lv_at hl 0 rfl) ?_
            refine lv_goto (tgt := 215) hx hb dX6_canDo_211 (by decide) ?_
            exact Ks215  ((y0 - y0 / (6 : Int32) * (6 : Int32)) / (2 : Int32)) ls (lv_sub hl [] rfl) hV hR
        · rw [if_neg c_10] at hR
          exact Ks197   ls (lv_sub hl [] rfl) hR
  have Ks122 : ∀   (ls : Array Slot), lv_has ls 5 [] → cf_X6_canDo_s122  m_o m_f m_r g_R g_C m_rl m_lf m_ov  = R → W p l e (headSpec wsX6_canDo ({ frames := 1, cells := 0, slots := 0, locals := 21 })).room s m ([.ref q6, .int a0] : List Value).toArray below meth c s.heap [] 0 0 (MQ below (rd_Q (some (.int R))) ([.ref q6, .int a0] : List Value).toArray s 0 0 (fun _ => False)) (F0 m 122 ls []) := by
    intro   ls hl hR
    unfold cf_X6_canDo_s122 at hR
    refine lv_iconst (v := (0 : Int32)) hx hb dX6_canDo_122 (by decide +kernel) ?_
    exact W.zret (ty := .boolean) (v := (0 : Int32)) hx hb hr (by decide +kernel) (fun t ht _ => ⟨congrArg (fun z => Outcome.returned (some (Value.int z))) hR, ht⟩) t_nil dX6_canDo_123
  have Ks64 : ∀   (ls : Array Slot), lv_has ls 5 [] → cf_X6_canDo_s64  m_o m_f m_r g_R g_C m_rl m_lf m_ov  = R → W p l e (headSpec wsX6_canDo ({ frames := 1, cells := 0, slots := 0, locals := 21 })).room s m ([.ref q6, .int a0] : List Value).toArray below meth c s.heap [] 0 0 (MQ below (rd_Q (some (.int R))) ([.ref q6, .int a0] : List Value).toArray s 0 0 (fun _ => False)) (F0 m 64 ls []) := by
    intro   ls hl hR
    unfold cf_X6_canDo_s64 at hR
    refine lv_iconst (v := (0 : Int32)) hx hb dX6_canDo_64 (by decide +kernel) ?_
    exact W.zret (ty := .boolean) (v := (0 : Int32)) hx hb hr (by decide +kernel) (fun t ht _ => ⟨congrArg (fun z => Outcome.returned (some (Value.int z))) hR, ht⟩) t_nil dX6_canDo_65
  have Ks31 : ∀   (ls : Array Slot), lv_has ls 5 [] → cf_X6_canDo_s31  m_o m_f m_r g_R g_C m_rl m_lf m_ov  = R → W p l e (headSpec wsX6_canDo ({ frames := 1, cells := 0, slots := 0, locals := 21 })).room s m ([.ref q6, .int a0] : List Value).toArray below meth c s.heap [] 0 0 (MQ below (rd_Q (some (.int R))) ([.ref q6, .int a0] : List Value).toArray s 0 0 (fun _ => False)) (F0 m 31 ls []) := by
    intro   ls hl hR
    unfold cf_X6_canDo_s31 at hR
    refine lv_iconst (v := (1 : Int32)) hx hb dX6_canDo_31 (by decide +kernel) ?_
    refine lv_goto (tgt := 36) hx hb dX6_canDo_32 (by decide) ?_
    exact W.zret (ty := .boolean) (v := (1 : Int32)) hx hb hr (by decide +kernel) (fun t ht _ => ⟨congrArg (fun z => Outcome.returned (some (Value.int z))) hR, ht⟩) t_nil dX6_canDo_36
  have hl := lv_entry ([.ref q6, .int a0]) (n := 5) (Nat.le_of_ble_eq_true rfl)
  rw [lg_entry_eq]
  generalize (lg_sl ([.ref q6, .int a0]) ++ List.replicate (5 - (lg_sl ([.ref q6, .int a0])).length) Slot.unset).toArray = ls at hl ⊢
  have hl : lv_has ls 5 [(0, .ref q6), (1, .int a0)] := hl
  unfold cf_X6_canDo at hR
  unfold vc_X6_canDo at hV
  refine lv_aload_n hx hb dX6_canDo_0 rfl (lv_at hl 0 rfl) ?_
  refine va_get (D := (dC, dI)) (ci := 4) (v := .int m_ov) (C := RX6) (T := TX6) (N := 25) hx hb hts h1_ hown hK hP 0 rfl rfl 14 (by decide) h0_ (fun _ h9 => h9) rfl dX6_canDo_1 ?_
  refine lv_if_eq (tgt := 9) hx hb dX6_canDo_4 (by decide) (fun c_1 => ?_) (fun c_1 => ?_)
  · rw [if_pos c_1] at hR
    have hV := hV.1 c_1
    refine lv_iload_n hx hb dX6_canDo_9 rfl (lv_at hl 1 rfl) ?_
    refine lv_if_ne (tgt := 37) hx hb dX6_canDo_10 (by decide) (fun c_2 => ?_) (fun c_2 => ?_)
    · rw [if_neg c_2] at hR
      have hV := hV.2 c_2
      refine lv_iload_n hx hb dX6_canDo_37 rfl (lv_at hl 1 rfl) ?_
      refine lv_iconst (v := (1 : Int32)) hx hb dX6_canDo_38 (by decide +kernel) ?_
      refine lv_icmp_ne (tgt := 66) hx hb dX6_canDo_39 (by decide) (fun c_3 => ?_) (fun c_3 => ?_)
      · rw [if_neg c_3] at hR
        have hV := hV.2 c_3
        refine lv_aload_n hx hb dX6_canDo_66 rfl (lv_at hl 0 rfl) ?_
        refine va_get (D := (dC, dI)) (ci := 4) (v := .int m_lf) (C := RX6) (T := TX6) (N := 25) hx hb hts h1_ hown hK hP 0 rfl rfl 13 (by decide) h2_ (fun _ h9 => h9) rfl dX6_canDo_67 ?_
        refine lv_if_ne (tgt := 75) hx hb dX6_canDo_70 (by decide) (fun c_4 => ?_) (fun c_4 => ?_)
        · rw [if_neg c_4] at hR
          have hV := hV.2 c_4
          refine lv_iload_n hx hb dX6_canDo_75 rfl (lv_at hl 1 rfl) ?_
          refine lv_bipush (v := (11 : Int32)) hx hb dX6_canDo_76 (by decide +kernel) ?_
          refine lv_icmp_ge (tgt := 124) hx hb dX6_canDo_78 (by decide) (fun c_5 => ?_) (fun c_5 => ?_)
          · rw [if_pos c_5] at hR
            have hV := hV.1 c_5
            refine lv_iload_n hx hb dX6_canDo_124 rfl (lv_at hl 1 rfl) ?_
            refine lv_bipush (v := (47 : Int32)) hx hb dX6_canDo_125 (by decide +kernel) ?_
            refine lv_icmp_lt (tgt := 139) hx hb dX6_canDo_127 (by decide) (fun c_6 => ?_) (fun c_6 => ?_)
            · rw [if_pos c_6] at hR
              have hV := hV.1 c_6
              refine lv_iload_n hx hb dX6_canDo_139 rfl (lv_at hl 1 rfl) ?_
              refine lv_bipush (v := (29 : Int32)) hx hb dX6_canDo_140 (by decide +kernel) ?_
              refine lv_icmp_ge (tgt := 152) hx hb dX6_canDo_142 (by decide) (fun c_7 => ?_) (fun c_7 => ?_)
              · rw [if_pos c_7] at hR
                have hV := hV.1 c_7
                refine lv_iload_n hx hb dX6_canDo_152 rfl (lv_at hl 1 rfl) ?_
                refine lv_bipush (v := (29 : Int32)) hx hb dX6_canDo_153 (by decide +kernel) ?_
                refine lv_isub hx hb dX6_canDo_155 ?_
                exact Ks156  a0 (a0 - (29 : Int32)) ls (lv_sub hl [0, 1] rfl) hV hR
              · rw [if_neg c_7] at hR
                have hV := hV.2 c_7
                refine lv_iload_n hx hb dX6_canDo_145 rfl (lv_at hl 1 rfl) ?_
                refine lv_bipush (v := (11 : Int32)) hx hb dX6_canDo_146 (by decide +kernel) ?_
                refine lv_isub hx hb dX6_canDo_148 ?_
                refine lv_goto (tgt := 156) hx hb dX6_canDo_149 (by decide) ?_
                exact Ks156  a0 (a0 - (11 : Int32)) ls (lv_sub hl [0, 1] rfl) hV hR
            · rw [if_neg c_6] at hR
              refine lv_aload_n hx hb dX6_canDo_130 rfl (lv_at hl 0 rfl) ?_
              refine lv_iload_n hx hb dX6_canDo_131 rfl (lv_at hl 1 rfl) ?_
              refine lv_bipush (v := (47 : Int32)) hx hb dX6_canDo_132 (by decide +kernel) ?_
              refine lv_isub hx hb dX6_canDo_134 ?_
              refine rd_calli (va_runV (As := [.int (a0 - (47 : Int32))]) (rest := []) ⟨hx, hb, hml, hown, hts⟩ (c_X6_isRoot l dC dI q6 qA qB qF qR qC qL qS qO qY qH qW qM cyI cyJ cyZ m_th m_o m_f m_r m_b m_a u_F u_R g_F g_R g_C g_L m_rl m_lf m_ov m_pl g_S g_O g_Y g_H m_st g_W m_rm m_fs g_M (a0 - (47 : Int32))  ) (cwV 1 hts gX6_canDo_X6_isRoot rfl rfl rfl (by decide +kernel) ⟨Nat.le_of_ble_eq_true rfl, Nat.le_of_ble_eq_true rfl⟩) ⟨rd_blind, va_recv hK hP (ci := 4) (q0 := 0) rfl rfl, fun U hU hW => ⟨rfl, by rw [hU]; exact hP, va_K.moved hW.alike (hK.sub [0, 1, 2] rfl)⟩⟩ rfl rfl hl.1 rfl (lv_room (Nat.le_of_ble_eq_true rfl)) dX6_canDo_135 ⟨Nat.le_refl _, Nat.le_refl _⟩) ?_
              exact W.zret (ty := .boolean) (v := (cf_X6_isRoot m_r (a0 - (47 : Int32)))) hx hb hr (by unfold cf_X6_isRoot; split <;> rfl) (fun t ht _ => ⟨congrArg (fun z => Outcome.returned (some (Value.int z))) hR, ht⟩) t_nil dX6_canDo_138
          · rw [if_neg c_5] at hR
            refine lv_aload_n hx hb dX6_canDo_81 rfl (lv_at hl 0 rfl) ?_
            refine lv_iload_n hx hb dX6_canDo_82 rfl (lv_at hl 1 rfl) ?_
            refine lv_iconst (v := (2 : Int32)) hx hb dX6_canDo_83 (by decide +kernel) ?_
            refine lv_isub hx hb dX6_canDo_84 ?_
            refine lv_iconst (v := (3 : Int32)) hx hb dX6_canDo_85 (by decide +kernel) ?_
            refine lv_idiv hx hb dX6_canDo_86 (by decide +kernel) ?_
            refine rd_calli (va_runV (As := [.int ((a0 - (2 : Int32)) / (3 : Int32))]) (rest := []) ⟨hx, hb, hml, hown, hts⟩ (c_X6_isRoot l dC dI q6 qA qB qF qR qC qL qS qO qY qH qW qM cyI cyJ cyZ m_th m_o m_f m_r m_b m_a u_F u_R g_F g_R g_C g_L m_rl m_lf m_ov m_pl g_S g_O g_Y g_H m_st g_W m_rm m_fs g_M ((a0 - (2 : Int32)) / (3 : Int32))  ) (cwV 1 hts gX6_canDo_X6_isRoot rfl rfl rfl (by decide +kernel) ⟨Nat.le_of_ble_eq_true rfl, Nat.le_of_ble_eq_true rfl⟩) ⟨rd_blind, va_recv hK hP (ci := 4) (q0 := 0) rfl rfl, fun U hU hW => ⟨rfl, by rw [hU]; exact hP, va_K.moved hW.alike (hK.sub [0, 1, 2] rfl)⟩⟩ rfl rfl hl.1 rfl (lv_room (Nat.le_of_ble_eq_true rfl)) dX6_canDo_87 ⟨Nat.le_refl _, Nat.le_refl _⟩) ?_
            refine lv_if_eq (tgt := 122) hx hb dX6_canDo_90 (by decide) (fun c_14 => ?_) (fun c_14 => ?_)
            · rw [if_pos c_14] at hR
              exact Ks122   ls (lv_sub hl [] rfl) hR
            · rw [if_neg c_14] at hR
              refine lv_aload_n hx hb dX6_canDo_93 rfl (lv_at hl 0 rfl) ?_
              refine lv_iload_n hx hb dX6_canDo_94 rfl (lv_at hl 1 rfl) ?_
              refine lv_iconst (v := (2 : Int32)) hx hb dX6_canDo_95 (by decide +kernel) ?_
              refine lv_isub hx hb dX6_canDo_96 ?_
              refine lv_iconst (v := (3 : Int32)) hx hb dX6_canDo_97 (by decide +kernel) ?_
              refine lv_irem hx hb dX6_canDo_98 (by decide +kernel) ?_
              refine rd_calli (va_runV (As := [.int ((a0 - (2 : Int32)) - (a0 - (2 : Int32)) / (3 : Int32) * (3 : Int32))]) (rest := []) ⟨hx, hb, hml, hown, hts⟩ (c_X6_isRoot l dC dI q6 qA qB qF qR qC qL qS qO qY qH qW qM cyI cyJ cyZ m_th m_o m_f m_r m_b m_a u_F u_R g_F g_R g_C g_L m_rl m_lf m_ov m_pl g_S g_O g_Y g_H m_st g_W m_rm m_fs g_M ((a0 - (2 : Int32)) - (a0 - (2 : Int32)) / (3 : Int32) * (3 : Int32))  ) (cwV 1 hts gX6_canDo_X6_isRoot rfl rfl rfl (by decide +kernel) ⟨Nat.le_of_ble_eq_true rfl, Nat.le_of_ble_eq_true rfl⟩) ⟨rd_blind, va_recv hK hP (ci := 4) (q0 := 0) rfl rfl, fun U hU hW => ⟨rfl, by rw [hU]; exact hP, va_K.moved hW.alike (hK.sub [0, 1, 2] rfl)⟩⟩ rfl rfl hl.1 rfl (lv_room (Nat.le_of_ble_eq_true rfl)) dX6_canDo_99 ⟨Nat.le_refl _, Nat.le_refl _⟩) ?_
              refine lv_if_eq (tgt := 122) hx hb dX6_canDo_102 (by decide) (fun c_15 => ?_) (fun c_15 => ?_)
              · rw [if_pos c_15] at hR
                exact Ks122   ls (lv_sub hl [] rfl) hR
              · rw [if_neg c_15] at hR
                refine lv_iload_n hx hb dX6_canDo_105 rfl (lv_at hl 1 rfl) ?_
                refine lv_iconst (v := (2 : Int32)) hx hb dX6_canDo_106 (by decide +kernel) ?_
                refine lv_isub hx hb dX6_canDo_107 ?_
                refine lv_iconst (v := (3 : Int32)) hx hb dX6_canDo_108 (by decide +kernel) ?_
                refine lv_idiv hx hb dX6_canDo_109 (by decide +kernel) ?_
                refine lv_iload_n hx hb dX6_canDo_110 rfl (lv_at hl 1 rfl) ?_
                refine lv_iconst (v := (2 : Int32)) hx hb dX6_canDo_111 (by decide +kernel) ?_
                refine lv_isub hx hb dX6_canDo_112 ?_
                refine lv_iconst (v := (3 : Int32)) hx hb dX6_canDo_113 (by decide +kernel) ?_
                refine lv_irem hx hb dX6_canDo_114 (by decide +kernel) ?_
                refine lv_icmp_eq (tgt := 122) hx hb dX6_canDo_115 (by decide) (fun c_16 => ?_) (fun c_16 => ?_)
                · rw [if_pos c_16] at hR
                  exact Ks122   ls (lv_sub hl [] rfl) hR
                · rw [if_neg c_16] at hR
                  refine lv_iconst (v := (1 : Int32)) hx hb dX6_canDo_118 (by decide +kernel) ?_
                  refine lv_goto (tgt := 123) hx hb dX6_canDo_119 (by decide) ?_
                  exact W.zret (ty := .boolean) (v := (1 : Int32)) hx hb hr (by decide +kernel) (fun t ht _ => ⟨congrArg (fun z => Outcome.returned (some (Value.int z))) hR, ht⟩) t_nil dX6_canDo_123
        · rw [if_pos c_4] at hR
          refine lv_iconst (v := (0 : Int32)) hx hb dX6_canDo_73 (by decide +kernel) ?_
          exact W.zret (ty := .boolean) (v := (0 : Int32)) hx hb hr (by decide +kernel) (fun t ht _ => ⟨congrArg (fun z => Outcome.returned (some (Value.int z))) hR, ht⟩) t_nil dX6_canDo_74
      · rw [if_pos c_3] at hR
        refine lv_aload_n hx hb dX6_canDo_42 rfl (lv_at hl 0 rfl) ?_
        refine va_get (D := (dC, dI)) (ci := 4) (v := .int m_rl) (C := RX6) (T := TX6) (N := 25) hx hb hts h1_ hown hK hP 0 rfl rfl 12 (by decide) h5_ (fun _ h9 => h9) rfl dX6_canDo_43 ?_
        refine lv_aload_n hx hb dX6_canDo_46 rfl (lv_at hl 0 rfl) ?_
        refine va_get (D := (dC, dI)) (ci := 4) (v := .int m_r) (C := RX6) (T := TX6) (N := 25) hx hb hts h1_ hown hK hP 0 rfl rfl 3 (by decide) h6_ (fun _ h9 => h9) rfl dX6_canDo_47 ?_
        refine lv_icmp_ne (tgt := 64) hx hb dX6_canDo_50 (by decide) (fun c_17 => ?_) (fun c_17 => ?_)
        · rw [if_neg c_17] at hR
          exact Ks64   ls (lv_sub hl [] rfl) hR
        · rw [if_pos c_17] at hR
          refine lv_aload_n hx hb dX6_canDo_53 rfl (lv_at hl 0 rfl) ?_
          refine rd_calli (va_runV (As := []) (rest := []) ⟨hx, hb, hml, hown, hts⟩ (c_X6_leastGrey l dC dI q6 qA qB qF qR qC qL qS qO qY qH qW qM cyI cyJ cyZ m_th m_o m_f m_r m_b m_a u_F u_R g_F g_R g_C g_L m_rl m_lf m_ov m_pl g_S g_O g_Y g_H m_st g_W m_rm m_fs g_M  hm_o ) (cwV 0 hts gX6_canDo_X6_leastGrey rfl rfl rfl (by decide +kernel) ⟨Nat.le_of_ble_eq_true rfl, Nat.le_of_ble_eq_true rfl⟩) ⟨rd_blind, va_recv hK hP (ci := 4) (q0 := 0) rfl rfl, fun U hU hW => ⟨rfl, by rw [hU]; exact hP, va_K.moved hW.alike (hK.sub [0, 1, 2] rfl)⟩⟩ rfl rfl hl.1 rfl (lv_room (Nat.le_of_ble_eq_true rfl)) dX6_canDo_54 ⟨Nat.le_refl _, Nat.le_refl _⟩) ?_
          refine lv_if_ge (tgt := 64) hx hb dX6_canDo_57 (by decide) (fun c_18 => ?_) (fun c_18 => ?_)
          · rw [if_pos c_18] at hR
            exact Ks64   ls (lv_sub hl [] rfl) hR
          · rw [if_neg c_18] at hR
            refine lv_iconst (v := (1 : Int32)) hx hb dX6_canDo_60 (by decide +kernel) ?_
            refine lv_goto (tgt := 65) hx hb dX6_canDo_61 (by decide) ?_
            exact W.zret (ty := .boolean) (v := (1 : Int32)) hx hb hr (by decide +kernel) (fun t ht _ => ⟨congrArg (fun z => Outcome.returned (some (Value.int z))) hR, ht⟩) t_nil dX6_canDo_65
    · rw [if_pos c_2] at hR
      refine lv_aload_n hx hb dX6_canDo_13 rfl (lv_at hl 0 rfl) ?_
      refine va_get (D := (dC, dI)) (ci := 4) (v := .int m_rl) (C := RX6) (T := TX6) (N := 25) hx hb hts h1_ hown hK hP 0 rfl rfl 12 (by decide) h5_ (fun _ h9 => h9) rfl dX6_canDo_14 ?_
      refine lv_aload_n hx hb dX6_canDo_17 rfl (lv_at hl 0 rfl) ?_
      refine va_get (D := (dC, dI)) (ci := 4) (v := .int m_r) (C := RX6) (T := TX6) (N := 25) hx hb hts h1_ hown hK hP 0 rfl rfl 3 (by decide) h6_ (fun _ h9 => h9) rfl dX6_canDo_18 ?_
      refine lv_icmp_lt (tgt := 31) hx hb dX6_canDo_21 (by decide) (fun c_19 => ?_) (fun c_19 => ?_)
      · rw [if_pos c_19] at hR
        exact Ks31   ls (lv_sub hl [] rfl) hR
      · rw [if_neg c_19] at hR
        refine lv_aload_n hx hb dX6_canDo_24 rfl (lv_at hl 0 rfl) ?_
        refine rd_calli (va_runV (As := []) (rest := []) ⟨hx, hb, hml, hown, hts⟩ (c_X6_leastGrey l dC dI q6 qA qB qF qR qC qL qS qO qY qH qW qM cyI cyJ cyZ m_th m_o m_f m_r m_b m_a u_F u_R g_F g_R g_C g_L m_rl m_lf m_ov m_pl g_S g_O g_Y g_H m_st g_W m_rm m_fs g_M  hm_o ) (cwV 0 hts gX6_canDo_X6_leastGrey rfl rfl rfl (by decide +kernel) ⟨Nat.le_of_ble_eq_true rfl, Nat.le_of_ble_eq_true rfl⟩) ⟨rd_blind, va_recv hK hP (ci := 4) (q0 := 0) rfl rfl, fun U hU hW => ⟨rfl, by rw [hU]; exact hP, va_K.moved hW.alike (hK.sub [0, 1, 2] rfl)⟩⟩ rfl rfl hl.1 rfl (lv_room (Nat.le_of_ble_eq_true rfl)) dX6_canDo_25 ⟨Nat.le_refl _, Nat.le_refl _⟩) ?_
        refine lv_if_lt (tgt := 35) hx hb dX6_canDo_28 (by decide) (fun c_20 => ?_) (fun c_20 => ?_)
        · rw [if_pos c_20] at hR
          refine lv_iconst (v := (0 : Int32)) hx hb dX6_canDo_35 (by decide +kernel) ?_
          exact W.zret (ty := .boolean) (v := (0 : Int32)) hx hb hr (by decide +kernel) (fun t ht _ => ⟨congrArg (fun z => Outcome.returned (some (Value.int z))) hR, ht⟩) t_nil dX6_canDo_36
        · rw [if_neg c_20] at hR
          exact Ks31   ls (lv_sub hl [] rfl) hR
  · rw [if_neg c_1] at hR
    refine lv_iconst (v := (0 : Int32)) hx hb dX6_canDo_7 (by decide +kernel) ?_
    exact W.zret (ty := .boolean) (v := (0 : Int32)) hx hb hr (by decide +kernel) (fun t ht _ => ⟨congrArg (fun z => Outcome.returned (some (Value.int z))) hR, ht⟩) t_nil dX6_canDo_8
def cf_X6_look_s59  (m_o : Int32) (m_f : Int32) (m_r : Int32) (g_F : Nat → Int32) (g_R : Nat → Int32) (g_C : Nat → Int32) (g_L : Nat → Int32) (m_rl : Int32) (x1 : Int32) : (Nat → Int32) × (Nat → Int32) × Int32 :=
  (if m_f ≤ ((upd g_L (x1).toNatClampNeg ((g_L (x1).toNatClampNeg) + (1 : Int32))) (x1).toNatClampNeg) then ((upd g_C (x1).toNatClampNeg (2 : Int32)), (upd (upd g_L (x1).toNatClampNeg ((g_L (x1).toNatClampNeg) + (1 : Int32))) (x1).toNatClampNeg (0 : Int32)), m_rl) else (g_C, (upd g_L (x1).toNatClampNeg ((g_L (x1).toNatClampNeg) + (1 : Int32))), m_rl))
def vc_X6_look_s59  (m_o : Int32) (m_f : Int32) (m_r : Int32) (g_F : Nat → Int32) (g_R : Nat → Int32) (g_C : Nat → Int32) (g_L : Nat → Int32) (m_rl : Int32) (x1 : Int32) : Prop :=
  (vp_in x1 4 ∧ (vp_in x1 4 ∧ (vp_in x1 4 ∧ ((m_f ≤ ((upd g_L (x1).toNatClampNeg ((g_L (x1).toNatClampNeg) + (1 : Int32))) (x1).toNatClampNeg) → (vp_in x1 4 ∧ (vp_in x1 4 ∧ True))) ∧ (¬ m_f ≤ ((upd g_L (x1).toNatClampNeg ((g_L (x1).toNatClampNeg) + (1 : Int32))) (x1).toNatClampNeg) → True)))))
def cf_X6_look_s24  (m_o : Int32) (m_f : Int32) (m_r : Int32) (g_F : Nat → Int32) (g_R : Nat → Int32) (g_C : Nat → Int32) (g_L : Nat → Int32) (m_rl : Int32)  : (Nat → Int32) × (Nat → Int32) × Int32 :=
  (g_C, g_L, (m_rl + (1 : Int32)))
def cf_X6_look (m_o : Int32) (m_f : Int32) (m_r : Int32) (g_F : Nat → Int32) (g_R : Nat → Int32) (g_C : Nat → Int32) (g_L : Nat → Int32) (m_rl : Int32)  : (Nat → Int32) × (Nat → Int32) × Int32 :=
  (if m_r ≤ m_rl then cf_X6_look_s59  m_o m_f m_r g_F g_R ((cf_X6_toGrey g_C g_L (g_F ((((2 : Int32) * (cf_X6_leastGrey m_o g_C )) + (g_L ((cf_X6_leastGrey m_o g_C )).toNatClampNeg))).toNatClampNeg)).1) ((cf_X6_toGrey g_C g_L (g_F ((((2 : Int32) * (cf_X6_leastGrey m_o g_C )) + (g_L ((cf_X6_leastGrey m_o g_C )).toNatClampNeg))).toNatClampNeg)).2) m_rl (cf_X6_leastGrey m_o g_C ) else cf_X6_look_s24  m_o m_f m_r g_F g_R ((cf_X6_toGrey g_C g_L (g_R (m_rl).toNatClampNeg)).1) ((cf_X6_toGrey g_C g_L (g_R (m_rl).toNatClampNeg)).2) m_rl )
def vc_X6_look (m_o : Int32) (m_f : Int32) (m_r : Int32) (g_F : Nat → Int32) (g_R : Nat → Int32) (g_C : Nat → Int32) (g_L : Nat → Int32) (m_rl : Int32)  : Prop :=
  ((m_r ≤ m_rl → (vp_in (cf_X6_leastGrey m_o g_C ) 4 ∧ (vp_in (((2 : Int32) * (cf_X6_leastGrey m_o g_C )) + (g_L ((cf_X6_leastGrey m_o g_C )).toNatClampNeg)) 8 ∧ (vc_X6_toGrey g_C g_L (g_F ((((2 : Int32) * (cf_X6_leastGrey m_o g_C )) + (g_L ((cf_X6_leastGrey m_o g_C )).toNatClampNeg))).toNatClampNeg) ∧ vc_X6_look_s59  m_o m_f m_r g_F g_R ((cf_X6_toGrey g_C g_L (g_F ((((2 : Int32) * (cf_X6_leastGrey m_o g_C )) + (g_L ((cf_X6_leastGrey m_o g_C )).toNatClampNeg))).toNatClampNeg)).1) ((cf_X6_toGrey g_C g_L (g_F ((((2 : Int32) * (cf_X6_leastGrey m_o g_C )) + (g_L ((cf_X6_leastGrey m_o g_C )).toNatClampNeg))).toNatClampNeg)).2) m_rl (cf_X6_leastGrey m_o g_C ))))) ∧ (¬ m_r ≤ m_rl → (vp_in m_rl 3 ∧ (vc_X6_toGrey g_C g_L (g_R (m_rl).toNatClampNeg) ∧ True))))
set_option maxHeartbeats 4000000 in
set_option maxRecDepth 100000 in
theorem c_X6_look (l : Launch) (dC : Nat → ClassId) (dI : Nat → Nat → Nat) (q6 qA qB qF qR qC qL qS qO qY qH qW qM : Nat) (cyI cyJ cyZ : ClassId) (m_th : Int32) (m_o : Int32) (m_f : Int32) (m_r : Int32) (m_b : Int32) (m_a : Int32) (u_F : Nat → Int32) (u_R : Nat → Int32) (g_F : Nat → Int32) (g_R : Nat → Int32) (g_C : Nat → Int32) (g_L : Nat → Int32) (m_rl : Int32) (m_lf : Int32) (m_ov : Int32) (m_pl : Int64) (g_S : Nat → Int64) (g_O : Nat → Int32) (g_Y : Nat → Int32) (g_H : Nat → Int32) (m_st : Int32) (g_W : Nat → Int32) (m_rm : Int32) (m_fs : Int32) (g_M : Nat → Int32) (sz : Nat)  (hm_o : m_o ≤ 4) (hV : vc_X6_look m_o m_f m_r g_F g_R g_C g_L m_rl ) : Met l yX6_look wsX6_look ({ frames := 1, cells := 0, slots := 0, locals := 21 }) (mu_P [.ref q6] sz (dC, dI) kcl (mo_W q6 qA qB qF qR qC qL qS qO qY qH qW qM cyI cyJ cyZ m_th m_o m_f m_r m_b m_a u_F u_R g_F g_R g_C g_L m_rl m_lf m_ov m_pl g_S g_O g_Y g_H m_st g_W m_rm m_fs g_M) [(cyI, .int), (cyJ, .long), (cyZ, .boolean)]) (mu_Q none (dC, dI) kcl (mo_W q6 qA qB qF qR qC qL qS qO qY qH qW qM cyI cyJ cyZ m_th m_o m_f m_r m_b m_a u_F u_R g_F g_R ((cf_X6_look m_o m_f m_r g_F g_R g_C g_L m_rl ).1) ((cf_X6_look m_o m_f m_r g_F g_R g_C g_L m_rl ).2.1) ((cf_X6_look m_o m_f m_r g_F g_R g_C g_L m_rl ).2.2) m_lf m_ov m_pl g_S g_O g_Y g_H m_st g_W m_rm m_fs g_M) (va_A (mo_W q6 qA qB qF qR qC qL qS qO qY qH qW qM cyI cyJ cyZ m_th m_o m_f m_r m_b m_a u_F u_R g_F g_R g_C g_L m_rl m_lf m_ov m_pl g_S g_O g_Y g_H m_st g_W m_rm m_fs g_M) sz)) 0 0 (va_A (mo_W q6 qA qB qF qR qC qL qS qO qY qH qW qM cyI cyJ cyZ m_th m_o m_f m_r m_b m_a u_F u_R g_F g_R g_C g_L m_rl m_lf m_ov m_pl g_S g_O g_Y g_H m_st g_W m_rm m_fs g_M) sz) := by
  refine Met.ofW (cc := cX6_look) (maxL := 2) (ret := none) (by decide) rfl ?_
  intro p e s m args below meth c s₁ B hml hv
  obtain ⟨rfl, hsz, hP, hK, hD0⟩ := hv
  have hx := B.exec
  have hb := B.bytes
  have hr := B.returns
  have hts := atoms_spec (ws := wsX6_look) B.pre
  have hown : s.vm.findClass RX6 = some m.cls := findClass_of_methodNamed B.named
  have hlocks := B.notSynchronized
  subst hsz
  have hD := hD0.self (sz := s.heap.size)
  generalize hAe : va_A (mo_W q6 qA qB qF qR qC qL qS qO qY qH qW qM cyI cyJ cyZ m_th m_o m_f m_r m_b m_a u_F u_R g_F g_R g_C g_L m_rl m_lf m_ov m_pl g_S g_O g_Y g_H m_st g_W m_rm m_fs g_M) s.heap.size = A at hD ⊢
  have hA : ∀ q : Nat, s.heap.size ≤ q → A q := fun q h => by rw [← hAe]; exact Or.inr h
  have hP : va_P (dC, dI) kcl (mo_W q6 qA qB qF qR qC qL qS qO qY qH qW qM cyI cyJ cyZ m_th m_o m_f m_r m_b m_a u_F u_R g_F g_R g_C g_L m_rl m_lf m_ov m_pl g_S g_O g_Y g_H m_st g_W m_rm m_fs g_M) s.heap := hP
  have h0_ : (Cond.fieldLink RX6 70 "ColourTrierModel" "rootsLooked" "I").before _ s = true := hts _ (by decide +kernel)
  have h1_ : ∀ w ∈ u_ws RX6 TX6 25, w ∈ wsX6_look := fun w h => List.mem_cons_of_mem _ (List.mem_append_right _ h)
  have h2_ : (Cond.fieldLink RX6 19 "ColourTrierModel" "roots" "I").before _ s = true := hts _ (by decide +kernel)
  have h3_ : (Cond.fieldLink RX6 29 "ColourTrierModel" "field" "[I").before _ s = true := hts _ (by decide +kernel)
  have h4_ : (Cond.fieldLink RX6 38 "ColourTrierModel" "looked" "[I").before _ s = true := hts _ (by decide +kernel)
  have h5_ : (Cond.fieldLink RX6 16 "ColourTrierModel" "fields" "I").before _ s = true := hts _ (by decide +kernel)
  have h6_ : (Cond.fieldLink RX6 35 "ColourTrierModel" "colour" "[I").before _ s = true := hts _ (by decide +kernel)
  have h7_ : (Cond.fieldLink RX6 32 "ColourTrierModel" "root" "[I").before _ s = true := hts _ (by decide +kernel)
  generalize hR : (cf_X6_look m_o m_f m_r g_F g_R g_C g_L m_rl ) = R
  have Ks59 : ∀  (g_C : Nat → Int32) (g_L : Nat → Int32) (m_rl : Int32) (x1 : Int32) (H : Heap) (locs : List Loc) (ls : Array Slot), va_P (dC, dI) kcl (mo_W q6 qA qB qF qR qC qL qS qO qY qH qW qM cyI cyJ cyZ m_th m_o m_f m_r m_b m_a u_F u_R g_F g_R g_C g_L m_rl m_lf m_ov m_pl g_S g_O g_Y g_H m_st g_W m_rm m_fs g_M) H → va_D A (mo_W q6 qA qB qF qR qC qL qS qO qY qH qW qM cyI cyJ cyZ m_th m_o m_f m_r m_b m_a u_F u_R g_F g_R g_C g_L m_rl m_lf m_ov m_pl g_S g_O g_Y g_H m_st g_W m_rm m_fs g_M) → va_S A s.heap H locs → lv_has ls 2 [(0, .ref q6), (1, .int x1)] → vc_X6_look_s59  m_o m_f m_r g_F g_R g_C g_L m_rl x1 → cf_X6_look_s59  m_o m_f m_r g_F g_R g_C g_L m_rl x1 = R → W p l e (headSpec wsX6_look ({ frames := 1, cells := 0, slots := 0, locals := 21 })).room s m ([.ref q6] : List Value).toArray below meth c H locs 0 0 (MQ below (mu_Q none (dC, dI) kcl (mo_W q6 qA qB qF qR qC qL qS qO qY qH qW qM cyI cyJ cyZ m_th m_o m_f m_r m_b m_a u_F u_R g_F g_R R.1 R.2.1 R.2.2 m_lf m_ov m_pl g_S g_O g_Y g_H m_st g_W m_rm m_fs g_M) A) ([.ref q6] : List Value).toArray s 0 0 A) (F0 m 59 ls []) := by
    intro  g_C g_L m_rl x1 H locs ls hP hD hS hl hV hR
    unfold cf_X6_look_s59 at hR
    unfold vc_X6_look_s59 at hV
    refine lv_aload_n hx hb dX6_look_59 rfl (lv_at hl 0 rfl) ?_
    refine va_get (D := (dC, dI)) (ci := 4) (v := .ref qL) (C := RX6) (T := TX6) (N := 25) hx hb hts h1_ hown hK hP 0 rfl rfl 11 (by decide) h4_ (fun _ h9 => h9) rfl dX6_look_60 ?_
    refine lv_iload_n hx hb dX6_look_63 rfl (lv_at hl 1 rfl) ?_
    refine lv_dup2_11 hx hb dX6_look_64 rfl rfl ?_
    obtain ⟨hi5, hV⟩ := hV
    refine va_iald hx hb hK hP 6 0 rfl rfl hi5 dX6_look_65 ?_
    refine lv_iconst (v := (1 : Int32)) hx hb dX6_look_66 (by decide +kernel) ?_
    refine lv_iadd hx hb dX6_look_67 ?_
    obtain ⟨hi6, hV⟩ := hV
    refine va_iast hx hb hK hP hD hS 6 0 rfl rfl hi6 dX6_look_68 (fun H locs hP hD hS => ?_)
    have hP : va_P (dC, dI) kcl (mo_W q6 qA qB qF qR qC qL qS qO qY qH qW qM cyI cyJ cyZ m_th m_o m_f m_r m_b m_a u_F u_R g_F g_R g_C (upd g_L (x1).toNatClampNeg ((g_L (x1).toNatClampNeg) + (1 : Int32))) m_rl m_lf m_ov m_pl g_S g_O g_Y g_H m_st g_W m_rm m_fs g_M) H := hP
    have hD : va_D A (mo_W q6 qA qB qF qR qC qL qS qO qY qH qW qM cyI cyJ cyZ m_th m_o m_f m_r m_b m_a u_F u_R g_F g_R g_C (upd g_L (x1).toNatClampNeg ((g_L (x1).toNatClampNeg) + (1 : Int32))) m_rl m_lf m_ov m_pl g_S g_O g_Y g_H m_st g_W m_rm m_fs g_M) := hD
    refine lv_aload_n hx hb dX6_look_69 rfl (lv_at hl 0 rfl) ?_
    refine va_get (D := (dC, dI)) (ci := 4) (v := .ref qL) (C := RX6) (T := TX6) (N := 25) hx hb hts h1_ hown hK hP 0 rfl rfl 11 (by decide) h4_ (fun _ h9 => h9) rfl dX6_look_70 ?_
    refine lv_iload_n hx hb dX6_look_73 rfl (lv_at hl 1 rfl) ?_
    obtain ⟨hi7, hV⟩ := hV
    refine va_iald hx hb hK hP 6 0 rfl rfl hi7 dX6_look_74 ?_
    refine lv_aload_n hx hb dX6_look_75 rfl (lv_at hl 0 rfl) ?_
    refine va_get (D := (dC, dI)) (ci := 4) (v := .int m_f) (C := RX6) (T := TX6) (N := 25) hx hb hts h1_ hown hK hP 0 rfl rfl 2 (by decide) h5_ (fun _ h9 => h9) rfl dX6_look_76 ?_
    refine lv_icmp_ge (tgt := 83) hx hb dX6_look_79 (by decide) (fun c_8 => ?_) (fun c_8 => ?_)
    · rw [if_pos c_8] at hR
      have hV := hV.1 c_8
      refine lv_aload_n hx hb dX6_look_83 rfl (lv_at hl 0 rfl) ?_
      refine va_get (D := (dC, dI)) (ci := 4) (v := .ref qC) (C := RX6) (T := TX6) (N := 25) hx hb hts h1_ hown hK hP 0 rfl rfl 10 (by decide) h6_ (fun _ h9 => h9) rfl dX6_look_84 ?_
      refine lv_iload_n hx hb dX6_look_87 rfl (lv_at hl 1 rfl) ?_
      refine lv_iconst (v := (2 : Int32)) hx hb dX6_look_88 (by decide +kernel) ?_
      obtain ⟨hi9, hV⟩ := hV
      refine va_iast hx hb hK hP hD hS 5 0 rfl rfl hi9 dX6_look_89 (fun H locs hP hD hS => ?_)
      have hP : va_P (dC, dI) kcl (mo_W q6 qA qB qF qR qC qL qS qO qY qH qW qM cyI cyJ cyZ m_th m_o m_f m_r m_b m_a u_F u_R g_F g_R (upd g_C (x1).toNatClampNeg (2 : Int32)) (upd g_L (x1).toNatClampNeg ((g_L (x1).toNatClampNeg) + (1 : Int32))) m_rl m_lf m_ov m_pl g_S g_O g_Y g_H m_st g_W m_rm m_fs g_M) H := hP
      have hD : va_D A (mo_W q6 qA qB qF qR qC qL qS qO qY qH qW qM cyI cyJ cyZ m_th m_o m_f m_r m_b m_a u_F u_R g_F g_R (upd g_C (x1).toNatClampNeg (2 : Int32)) (upd g_L (x1).toNatClampNeg ((g_L (x1).toNatClampNeg) + (1 : Int32))) m_rl m_lf m_ov m_pl g_S g_O g_Y g_H m_st g_W m_rm m_fs g_M) := hD
      refine lv_aload_n hx hb dX6_look_90 rfl (lv_at hl 0 rfl) ?_
      refine va_get (D := (dC, dI)) (ci := 4) (v := .ref qL) (C := RX6) (T := TX6) (N := 25) hx hb hts h1_ hown hK hP 0 rfl rfl 11 (by decide) h4_ (fun _ h9 => h9) rfl dX6_look_91 ?_
      refine lv_iload_n hx hb dX6_look_94 rfl (lv_at hl 1 rfl) ?_
      refine lv_iconst (v := (0 : Int32)) hx hb dX6_look_95 (by decide +kernel) ?_
      obtain ⟨hi10, hV⟩ := hV
      refine va_iast hx hb hK hP hD hS 6 0 rfl rfl hi10 dX6_look_96 (fun H locs hP hD hS => ?_)
      have hP : va_P (dC, dI) kcl (mo_W q6 qA qB qF qR qC qL qS qO qY qH qW qM cyI cyJ cyZ m_th m_o m_f m_r m_b m_a u_F u_R g_F g_R (upd g_C (x1).toNatClampNeg (2 : Int32)) (upd (upd g_L (x1).toNatClampNeg ((g_L (x1).toNatClampNeg) + (1 : Int32))) (x1).toNatClampNeg (0 : Int32)) m_rl m_lf m_ov m_pl g_S g_O g_Y g_H m_st g_W m_rm m_fs g_M) H := hP
      have hD : va_D A (mo_W q6 qA qB qF qR qC qL qS qO qY qH qW qM cyI cyJ cyZ m_th m_o m_f m_r m_b m_a u_F u_R g_F g_R (upd g_C (x1).toNatClampNeg (2 : Int32)) (upd (upd g_L (x1).toNatClampNeg ((g_L (x1).toNatClampNeg) + (1 : Int32))) (x1).toNatClampNeg (0 : Int32)) m_rl m_lf m_ov m_pl g_S g_O g_Y g_H m_st g_W m_rm m_fs g_M) := hD
      rw [← hR]
      exact W.vret hx hb hr (fun t ht _ => ⟨rfl, by rw [ht]; exact hP, hS.F ht⟩) hS.2.2 dX6_look_97
    · rw [if_neg c_8] at hR
      rw [← hR]
      exact W.vret hx hb hr (fun t ht _ => ⟨rfl, by rw [ht]; exact hP, hS.F ht⟩) hS.2.2 dX6_look_82
  have Ks24 : ∀  (g_C : Nat → Int32) (g_L : Nat → Int32) (m_rl : Int32)  (H : Heap) (locs : List Loc) (ls : Array Slot), va_P (dC, dI) kcl (mo_W q6 qA qB qF qR qC qL qS qO qY qH qW qM cyI cyJ cyZ m_th m_o m_f m_r m_b m_a u_F u_R g_F g_R g_C g_L m_rl m_lf m_ov m_pl g_S g_O g_Y g_H m_st g_W m_rm m_fs g_M) H → va_D A (mo_W q6 qA qB qF qR qC qL qS qO qY qH qW qM cyI cyJ cyZ m_th m_o m_f m_r m_b m_a u_F u_R g_F g_R g_C g_L m_rl m_lf m_ov m_pl g_S g_O g_Y g_H m_st g_W m_rm m_fs g_M) → va_S A s.heap H locs → lv_has ls 2 [(0, .ref q6)] → cf_X6_look_s24  m_o m_f m_r g_F g_R g_C g_L m_rl  = R → W p l e (headSpec wsX6_look ({ frames := 1, cells := 0, slots := 0, locals := 21 })).room s m ([.ref q6] : List Value).toArray below meth c H locs 0 0 (MQ below (mu_Q none (dC, dI) kcl (mo_W q6 qA qB qF qR qC qL qS qO qY qH qW qM cyI cyJ cyZ m_th m_o m_f m_r m_b m_a u_F u_R g_F g_R R.1 R.2.1 R.2.2 m_lf m_ov m_pl g_S g_O g_Y g_H m_st g_W m_rm m_fs g_M) A) ([.ref q6] : List Value).toArray s 0 0 A) (F0 m 24 ls []) := by
    intro  g_C g_L m_rl  H locs ls hP hD hS hl hR
    unfold cf_X6_look_s24 at hR
    refine lv_aload_n hx hb dX6_look_24 rfl (lv_at hl 0 rfl) ?_
    refine lv_dup hx hb dX6_look_25 rfl ?_
    refine va_get (D := (dC, dI)) (ci := 4) (v := .int m_rl) (C := RX6) (T := TX6) (N := 25) hx hb hts h1_ hown hK hP 0 rfl rfl 12 (by decide) h0_ (fun _ h9 => h9) rfl dX6_look_26 ?_
    refine lv_iconst (v := (1 : Int32)) hx hb dX6_look_29 (by decide +kernel) ?_
    refine lv_iadd hx hb dX6_look_30 ?_
    refine va_put (D := (dC, dI)) (ci := 4) (v := .int (m_rl + (1 : Int32))) (ty := .int) (C := RX6) (T := TX6) (N := 25) hx hb hts h1_ tyX6 tyX6_ok nmX6 hown hK hP hD hS 0 rfl rfl 12 (by decide) h0_ (fun _ h9 => h9) rfl (by decide +kernel) rfl rfl (Nat.le_of_ble_eq_true rfl) dX6_look_31 (fun H locs hP hD hS => ?_)
    have hP : va_P (dC, dI) kcl (mo_W q6 qA qB qF qR qC qL qS qO qY qH qW qM cyI cyJ cyZ m_th m_o m_f m_r m_b m_a u_F u_R g_F g_R g_C g_L (m_rl + (1 : Int32)) m_lf m_ov m_pl g_S g_O g_Y g_H m_st g_W m_rm m_fs g_M) H := hP
    have hD : va_D A (mo_W q6 qA qB qF qR qC qL qS qO qY qH qW qM cyI cyJ cyZ m_th m_o m_f m_r m_b m_a u_F u_R g_F g_R g_C g_L (m_rl + (1 : Int32)) m_lf m_ov m_pl g_S g_O g_Y g_H m_st g_W m_rm m_fs g_M) := hD
    rw [← hR]
    exact W.vret hx hb hr (fun t ht _ => ⟨rfl, by rw [ht]; exact hP, hS.F ht⟩) hS.2.2 dX6_look_34
  have hl := lv_entry ([.ref q6]) (n := 2) (Nat.le_of_ble_eq_true rfl)
  rw [lg_entry_eq]
  generalize (lg_sl ([.ref q6]) ++ List.replicate (2 - (lg_sl ([.ref q6])).length) Slot.unset).toArray = ls at hl ⊢
  have hl : lv_has ls 2 [(0, .ref q6)] := hl
  unfold cf_X6_look at hR
  unfold vc_X6_look at hV
  refine mu_start (A := A) (fun H locs hP hS => ?_) hP
  refine lv_aload_n hx hb dX6_look_0 rfl (lv_at hl 0 rfl) ?_
  refine va_get (D := (dC, dI)) (ci := 4) (v := .int m_rl) (C := RX6) (T := TX6) (N := 25) hx hb hts h1_ hown hK hP 0 rfl rfl 12 (by decide) h0_ (fun _ h9 => h9) rfl dX6_look_1 ?_
  refine lv_aload_n hx hb dX6_look_4 rfl (lv_at hl 0 rfl) ?_
  refine va_get (D := (dC, dI)) (ci := 4) (v := .int m_r) (C := RX6) (T := TX6) (N := 25) hx hb hts h1_ hown hK hP 0 rfl rfl 3 (by decide) h2_ (fun _ h9 => h9) rfl dX6_look_5 ?_
  refine lv_icmp_ge (tgt := 35) hx hb dX6_look_8 (by decide) (fun c_1 => ?_) (fun c_1 => ?_)
  · rw [if_pos c_1] at hR
    have hV := hV.1 c_1
    refine lv_aload_n hx hb dX6_look_35 rfl (lv_at hl 0 rfl) ?_
    refine rd_calli (va_runV (As := []) (rest := []) ⟨hx, hb, hml, hown, hts⟩ (c_X6_leastGrey l dC dI q6 qA qB qF qR qC qL qS qO qY qH qW qM cyI cyJ cyZ m_th m_o m_f m_r m_b m_a u_F u_R g_F g_R g_C g_L m_rl m_lf m_ov m_pl g_S g_O g_Y g_H m_st g_W m_rm m_fs g_M  hm_o ) (cwV 0 hts gX6_look_X6_leastGrey rfl rfl rfl (by decide +kernel) ⟨Nat.le_of_ble_eq_true rfl, Nat.le_of_ble_eq_true rfl⟩) ⟨rd_blind, va_recv hK hP (ci := 4) (q0 := 0) rfl rfl, fun U hU hW => ⟨rfl, by rw [hU]; exact hP, va_K.moved hW.alike (hK.sub [0, 1, 2] rfl)⟩⟩ rfl rfl hl.1 rfl (lv_room (Nat.le_of_ble_eq_true rfl)) dX6_look_36 ⟨Nat.le_refl _, Nat.le_refl _⟩) ?_
    refine lv_istore_n (lv' := [(1, .int (cf_X6_leastGrey m_o g_C )), (0, .ref q6)]) hx hb dX6_look_39 rfl hl (by decide) rfl (fun ls hl => ?_)
    refine lv_aload_n hx hb dX6_look_40 rfl (lv_at hl 1 rfl) ?_
    refine lv_aload_n hx hb dX6_look_41 rfl (lv_at hl 1 rfl) ?_
    refine va_get (D := (dC, dI)) (ci := 4) (v := .ref qF) (C := RX6) (T := TX6) (N := 25) hx hb hts h1_ hown hK hP 0 rfl rfl 8 (by decide) h3_ (fun _ h9 => h9) rfl dX6_look_42 ?_
    refine lv_iconst (v := (2 : Int32)) hx hb dX6_look_45 (by decide +kernel) ?_
    refine lv_iload_n hx hb dX6_look_46 rfl (lv_at hl 0 rfl) ?_
    refine lv_imul hx hb dX6_look_47 ?_
    refine lv_aload_n hx hb dX6_look_48 rfl (lv_at hl 1 rfl) ?_
    refine va_get (D := (dC, dI)) (ci := 4) (v := .ref qL) (C := RX6) (T := TX6) (N := 25) hx hb hts h1_ hown hK hP 0 rfl rfl 11 (by decide) h4_ (fun _ h9 => h9) rfl dX6_look_49 ?_
    refine lv_iload_n hx hb dX6_look_52 rfl (lv_at hl 0 rfl) ?_
    obtain ⟨hi2, hV⟩ := hV
    refine va_iald hx hb hK hP 6 0 rfl rfl hi2 dX6_look_53 ?_
    refine lv_iadd hx hb dX6_look_54 ?_
    obtain ⟨hi3, hV⟩ := hV
    refine va_iald hx hb hK hP 3 0 rfl rfl hi3 dX6_look_55 ?_
    obtain ⟨hv4, hV⟩ := hV
    refine mu_call (ws' := (mo_W q6 qA qB qF qR qC qL qS qO qY qH qW qM cyI cyJ cyZ m_th m_o m_f m_r m_b m_a u_F u_R g_F g_R ((cf_X6_toGrey g_C g_L (g_F ((((2 : Int32) * (cf_X6_leastGrey m_o g_C )) + (g_L ((cf_X6_leastGrey m_o g_C )).toNatClampNeg))).toNatClampNeg)).1) ((cf_X6_toGrey g_C g_L (g_F ((((2 : Int32) * (cf_X6_leastGrey m_o g_C )) + (g_L ((cf_X6_leastGrey m_o g_C )).toNatClampNeg))).toNatClampNeg)).2) m_rl m_lf m_ov m_pl g_S g_O g_Y g_H m_st g_W m_rm m_fs g_M)) (wr := []) (va_runV (As := [.int (g_F ((((2 : Int32) * (cf_X6_leastGrey m_o g_C )) + (g_L ((cf_X6_leastGrey m_o g_C )).toNatClampNeg))).toNatClampNeg)]) (rest := []) ⟨hx, hb, hml, hown, hts⟩ (c_X6_toGrey l dC dI q6 qA qB qF qR qC qL qS qO qY qH qW qM cyI cyJ cyZ m_th m_o m_f m_r m_b m_a u_F u_R g_F g_R g_C g_L m_rl m_lf m_ov m_pl g_S g_O g_Y g_H m_st g_W m_rm m_fs g_M H.size (g_F ((((2 : Int32) * (cf_X6_leastGrey m_o g_C )) + (g_L ((cf_X6_leastGrey m_o g_C )).toNatClampNeg))).toNatClampNeg)  hv4) (cwV 1 hts gX6_look_X6_toGrey rfl rfl rfl (by decide +kernel) ⟨Nat.le_of_ble_eq_true rfl, Nat.le_of_ble_eq_true rfl⟩) ⟨mu_blind, va_recv hK hP (ci := 4) (q0 := 0) rfl rfl, fun U hU hW => ⟨rfl, by rw [hU], by rw [hU]; exact hP, va_K.moved hW.alike (hK.sub [0, 1, 2] rfl), hD.weaken (fun _ _ _ _ => trivial)⟩⟩ rfl rfl hl.1 rfl (lv_room (Nat.le_of_ble_eq_true rfl)) dX6_look_56 ⟨Nat.le_refl _, Nat.le_refl _⟩) hP hD hS hA [0, 1, 2, 3, 4, 5, 6, 7, 8, 9, 10, 11, 12] [] [0, 1, 2, 3, 4, 5, 6, 7, 8, 9, 10, 11, 12] rfl rfl (by decide) (by decide) (by decide) rfl (by decide) rfl (fun H locs hP hD hS => ?_)
    refine W.eq (g2 := F0 m 59 ls []) rfl ?_
    exact Ks59  ((cf_X6_toGrey g_C g_L (g_F ((((2 : Int32) * (cf_X6_leastGrey m_o g_C )) + (g_L ((cf_X6_leastGrey m_o g_C )).toNatClampNeg))).toNatClampNeg)).1) ((cf_X6_toGrey g_C g_L (g_F ((((2 : Int32) * (cf_X6_leastGrey m_o g_C )) + (g_L ((cf_X6_leastGrey m_o g_C )).toNatClampNeg))).toNatClampNeg)).2) m_rl (cf_X6_leastGrey m_o g_C ) H locs ls hP hD hS (lv_sub hl [1, 0] rfl) hV hR
  · rw [if_neg c_1] at hR
    have hV := hV.2 c_1
    refine lv_aload_n hx hb dX6_look_11 rfl (lv_at hl 0 rfl) ?_
    refine lv_aload_n hx hb dX6_look_12 rfl (lv_at hl 0 rfl) ?_
    refine va_get (D := (dC, dI)) (ci := 4) (v := .ref qR) (C := RX6) (T := TX6) (N := 25) hx hb hts h1_ hown hK hP 0 rfl rfl 9 (by decide) h7_ (fun _ h9 => h9) rfl dX6_look_13 ?_
    refine lv_aload_n hx hb dX6_look_16 rfl (lv_at hl 0 rfl) ?_
    refine va_get (D := (dC, dI)) (ci := 4) (v := .int m_rl) (C := RX6) (T := TX6) (N := 25) hx hb hts h1_ hown hK hP 0 rfl rfl 12 (by decide) h0_ (fun _ h9 => h9) rfl dX6_look_17 ?_
    obtain ⟨hi11, hV⟩ := hV
    refine va_iald hx hb hK hP 4 0 rfl rfl hi11 dX6_look_20 ?_
    obtain ⟨hv12, hV⟩ := hV
    refine mu_call (ws' := (mo_W q6 qA qB qF qR qC qL qS qO qY qH qW qM cyI cyJ cyZ m_th m_o m_f m_r m_b m_a u_F u_R g_F g_R ((cf_X6_toGrey g_C g_L (g_R (m_rl).toNatClampNeg)).1) ((cf_X6_toGrey g_C g_L (g_R (m_rl).toNatClampNeg)).2) m_rl m_lf m_ov m_pl g_S g_O g_Y g_H m_st g_W m_rm m_fs g_M)) (wr := []) (va_runV (As := [.int (g_R (m_rl).toNatClampNeg)]) (rest := []) ⟨hx, hb, hml, hown, hts⟩ (c_X6_toGrey l dC dI q6 qA qB qF qR qC qL qS qO qY qH qW qM cyI cyJ cyZ m_th m_o m_f m_r m_b m_a u_F u_R g_F g_R g_C g_L m_rl m_lf m_ov m_pl g_S g_O g_Y g_H m_st g_W m_rm m_fs g_M H.size (g_R (m_rl).toNatClampNeg)  hv12) (cwV 1 hts gX6_look_X6_toGrey rfl rfl rfl (by decide +kernel) ⟨Nat.le_of_ble_eq_true rfl, Nat.le_of_ble_eq_true rfl⟩) ⟨mu_blind, va_recv hK hP (ci := 4) (q0 := 0) rfl rfl, fun U hU hW => ⟨rfl, by rw [hU], by rw [hU]; exact hP, va_K.moved hW.alike (hK.sub [0, 1, 2] rfl), hD.weaken (fun _ _ _ _ => trivial)⟩⟩ rfl rfl hl.1 rfl (lv_room (Nat.le_of_ble_eq_true rfl)) dX6_look_21 ⟨Nat.le_refl _, Nat.le_refl _⟩) hP hD hS hA [0, 1, 2, 3, 4, 5, 6, 7, 8, 9, 10, 11, 12] [] [0, 1, 2, 3, 4, 5, 6, 7, 8, 9, 10, 11, 12] rfl rfl (by decide) (by decide) (by decide) rfl (by decide) rfl (fun H locs hP hD hS => ?_)
    refine W.eq (g2 := F0 m 24 ls []) rfl ?_
    exact Ks24  ((cf_X6_toGrey g_C g_L (g_R (m_rl).toNatClampNeg)).1) ((cf_X6_toGrey g_C g_L (g_R (m_rl).toNatClampNeg)).2) m_rl  H locs ls hP hD hS (lv_sub hl [0] rfl) hR
def cf_X6_end_s65  (m_r : Int32) (m_b : Int32) (g_R : Nat → Int32) (g_C : Nat → Int32) (g_L : Nat → Int32) (m_ov : Int32) (x1 : Int32) : (Nat → Int32) × (Nat → Int32) × Int32 :=
  (if x1 = 0 then (g_C, g_L, (1 : Int32)) else (g_C, g_L, m_ov))
def cf_X6_end_s4_3  (m_r : Int32) (m_b : Int32) (g_R : Nat → Int32) (g_C : Nat → Int32) (g_L : Nat → Int32) (m_ov : Int32) (x1 : Int32) : (Nat → Int32) × (Nat → Int32) × Int32 :=
  cf_X6_end_s65  m_r m_b g_R g_C g_L m_ov x1
def cf_X6_end_s59_2  (m_r : Int32) (m_b : Int32) (g_R : Nat → Int32) (g_C : Nat → Int32) (g_L : Nat → Int32) (m_ov : Int32) (x1 : Int32) : (Nat → Int32) × (Nat → Int32) × Int32 :=
  cf_X6_end_s4_3  m_r m_b g_R g_C g_L m_ov x1
def cf_X6_end_s57_2  (m_r : Int32) (m_b : Int32) (g_R : Nat → Int32) (g_C : Nat → Int32) (g_L : Nat → Int32) (m_ov : Int32)  : (Nat → Int32) × (Nat → Int32) × Int32 :=
  cf_X6_end_s59_2  m_r m_b g_R g_C g_L m_ov (1 : Int32)
def cf_X6_end_s4_2  (m_r : Int32) (m_b : Int32) (g_R : Nat → Int32) (g_C : Nat → Int32) (g_L : Nat → Int32) (m_ov : Int32) (x1 : Int32) : (Nat → Int32) × (Nat → Int32) × Int32 :=
  (if m_r ≤ (2 : Int32) then cf_X6_end_s65  m_r m_b g_R g_C g_L m_ov x1 else (if (cf_X6_bars m_b (32 : Int32)) = 0 then cf_X6_end_s65  m_r m_b g_R g_C g_L m_ov x1 else (if (g_R ((2 : Int32)).toNatClampNeg) < 0 then cf_X6_end_s59_2  m_r m_b g_R g_C g_L m_ov x1 else (if (g_C ((g_R ((2 : Int32)).toNatClampNeg)).toNatClampNeg) = 0 then cf_X6_end_s57_2  m_r m_b g_R ((cf_X6_toGrey g_C g_L (g_R ((2 : Int32)).toNatClampNeg)).1) ((cf_X6_toGrey g_C g_L (g_R ((2 : Int32)).toNatClampNeg)).2) m_ov  else cf_X6_end_s59_2  m_r m_b g_R g_C g_L m_ov x1))))
def vc_X6_end_s4_2  (m_r : Int32) (m_b : Int32) (g_R : Nat → Int32) (g_C : Nat → Int32) (g_L : Nat → Int32) (m_ov : Int32) (x1 : Int32) : Prop :=
  ((m_r ≤ (2 : Int32) → True) ∧ (¬ m_r ≤ (2 : Int32) → (((cf_X6_bars m_b (32 : Int32)) = 0 → True) ∧ (¬ (cf_X6_bars m_b (32 : Int32)) = 0 → (((g_R ((2 : Int32)).toNatClampNeg) < 0 → True) ∧ (¬ (g_R ((2 : Int32)).toNatClampNeg) < 0 → (vp_in (g_R ((2 : Int32)).toNatClampNeg) 4 ∧ (((g_C ((g_R ((2 : Int32)).toNatClampNeg)).toNatClampNeg) = 0 → (vc_X6_toGrey g_C g_L (g_R ((2 : Int32)).toNatClampNeg) ∧ True)) ∧ (¬ (g_C ((g_R ((2 : Int32)).toNatClampNeg)).toNatClampNeg) = 0 → True)))))))))
def cf_X6_end_s59_1  (m_r : Int32) (m_b : Int32) (g_R : Nat → Int32) (g_C : Nat → Int32) (g_L : Nat → Int32) (m_ov : Int32) (x1 : Int32) : (Nat → Int32) × (Nat → Int32) × Int32 :=
  cf_X6_end_s4_2  m_r m_b g_R g_C g_L m_ov x1
def vc_X6_end_s59_1  (m_r : Int32) (m_b : Int32) (g_R : Nat → Int32) (g_C : Nat → Int32) (g_L : Nat → Int32) (m_ov : Int32) (x1 : Int32) : Prop :=
  vc_X6_end_s4_2  m_r m_b g_R g_C g_L m_ov x1
def cf_X6_end_s57_1  (m_r : Int32) (m_b : Int32) (g_R : Nat → Int32) (g_C : Nat → Int32) (g_L : Nat → Int32) (m_ov : Int32)  : (Nat → Int32) × (Nat → Int32) × Int32 :=
  cf_X6_end_s59_1  m_r m_b g_R g_C g_L m_ov (1 : Int32)
def vc_X6_end_s57_1  (m_r : Int32) (m_b : Int32) (g_R : Nat → Int32) (g_C : Nat → Int32) (g_L : Nat → Int32) (m_ov : Int32)  : Prop :=
  vc_X6_end_s59_1  m_r m_b g_R g_C g_L m_ov (1 : Int32)
def cf_X6_end_s4_1  (m_r : Int32) (m_b : Int32) (g_R : Nat → Int32) (g_C : Nat → Int32) (g_L : Nat → Int32) (m_ov : Int32) (x1 : Int32) : (Nat → Int32) × (Nat → Int32) × Int32 :=
  (if m_r ≤ (1 : Int32) then cf_X6_end_s65  m_r m_b g_R g_C g_L m_ov x1 else (if (cf_X6_bars m_b (32 : Int32)) = 0 then cf_X6_end_s65  m_r m_b g_R g_C g_L m_ov x1 else (if (g_R ((1 : Int32)).toNatClampNeg) < 0 then cf_X6_end_s59_1  m_r m_b g_R g_C g_L m_ov x1 else (if (g_C ((g_R ((1 : Int32)).toNatClampNeg)).toNatClampNeg) = 0 then cf_X6_end_s57_1  m_r m_b g_R ((cf_X6_toGrey g_C g_L (g_R ((1 : Int32)).toNatClampNeg)).1) ((cf_X6_toGrey g_C g_L (g_R ((1 : Int32)).toNatClampNeg)).2) m_ov  else cf_X6_end_s59_1  m_r m_b g_R g_C g_L m_ov x1))))
def vc_X6_end_s4_1  (m_r : Int32) (m_b : Int32) (g_R : Nat → Int32) (g_C : Nat → Int32) (g_L : Nat → Int32) (m_ov : Int32) (x1 : Int32) : Prop :=
  ((m_r ≤ (1 : Int32) → True) ∧ (¬ m_r ≤ (1 : Int32) → (((cf_X6_bars m_b (32 : Int32)) = 0 → True) ∧ (¬ (cf_X6_bars m_b (32 : Int32)) = 0 → (((g_R ((1 : Int32)).toNatClampNeg) < 0 → vc_X6_end_s59_1  m_r m_b g_R g_C g_L m_ov x1) ∧ (¬ (g_R ((1 : Int32)).toNatClampNeg) < 0 → (vp_in (g_R ((1 : Int32)).toNatClampNeg) 4 ∧ (((g_C ((g_R ((1 : Int32)).toNatClampNeg)).toNatClampNeg) = 0 → (vc_X6_toGrey g_C g_L (g_R ((1 : Int32)).toNatClampNeg) ∧ vc_X6_end_s57_1  m_r m_b g_R ((cf_X6_toGrey g_C g_L (g_R ((1 : Int32)).toNatClampNeg)).1) ((cf_X6_toGrey g_C g_L (g_R ((1 : Int32)).toNatClampNeg)).2) m_ov )) ∧ (¬ (g_C ((g_R ((1 : Int32)).toNatClampNeg)).toNatClampNeg) = 0 → vc_X6_end_s59_1  m_r m_b g_R g_C g_L m_ov x1)))))))))
def cf_X6_end_s59_0  (m_r : Int32) (m_b : Int32) (g_R : Nat → Int32) (g_C : Nat → Int32) (g_L : Nat → Int32) (m_ov : Int32) (x1 : Int32) : (Nat → Int32) × (Nat → Int32) × Int32 :=
  cf_X6_end_s4_1  m_r m_b g_R g_C g_L m_ov x1
def vc_X6_end_s59_0  (m_r : Int32) (m_b : Int32) (g_R : Nat → Int32) (g_C : Nat → Int32) (g_L : Nat → Int32) (m_ov : Int32) (x1 : Int32) : Prop :=
  vc_X6_end_s4_1  m_r m_b g_R g_C g_L m_ov x1
def cf_X6_end_s57_0  (m_r : Int32) (m_b : Int32) (g_R : Nat → Int32) (g_C : Nat → Int32) (g_L : Nat → Int32) (m_ov : Int32)  : (Nat → Int32) × (Nat → Int32) × Int32 :=
  cf_X6_end_s59_0  m_r m_b g_R g_C g_L m_ov (1 : Int32)
def vc_X6_end_s57_0  (m_r : Int32) (m_b : Int32) (g_R : Nat → Int32) (g_C : Nat → Int32) (g_L : Nat → Int32) (m_ov : Int32)  : Prop :=
  vc_X6_end_s59_0  m_r m_b g_R g_C g_L m_ov (1 : Int32)
def cf_X6_end_s4_0  (m_r : Int32) (m_b : Int32) (g_R : Nat → Int32) (g_C : Nat → Int32) (g_L : Nat → Int32) (m_ov : Int32) (x1 : Int32) : (Nat → Int32) × (Nat → Int32) × Int32 :=
  (if m_r ≤ (0 : Int32) then cf_X6_end_s65  m_r m_b g_R g_C g_L m_ov x1 else (if (cf_X6_bars m_b (32 : Int32)) = 0 then cf_X6_end_s65  m_r m_b g_R g_C g_L m_ov x1 else (if (g_R ((0 : Int32)).toNatClampNeg) < 0 then cf_X6_end_s59_0  m_r m_b g_R g_C g_L m_ov x1 else (if (g_C ((g_R ((0 : Int32)).toNatClampNeg)).toNatClampNeg) = 0 then cf_X6_end_s57_0  m_r m_b g_R ((cf_X6_toGrey g_C g_L (g_R ((0 : Int32)).toNatClampNeg)).1) ((cf_X6_toGrey g_C g_L (g_R ((0 : Int32)).toNatClampNeg)).2) m_ov  else cf_X6_end_s59_0  m_r m_b g_R g_C g_L m_ov x1))))
def vc_X6_end_s4_0  (m_r : Int32) (m_b : Int32) (g_R : Nat → Int32) (g_C : Nat → Int32) (g_L : Nat → Int32) (m_ov : Int32) (x1 : Int32) : Prop :=
  ((m_r ≤ (0 : Int32) → True) ∧ (¬ m_r ≤ (0 : Int32) → (((cf_X6_bars m_b (32 : Int32)) = 0 → True) ∧ (¬ (cf_X6_bars m_b (32 : Int32)) = 0 → (((g_R ((0 : Int32)).toNatClampNeg) < 0 → vc_X6_end_s59_0  m_r m_b g_R g_C g_L m_ov x1) ∧ (¬ (g_R ((0 : Int32)).toNatClampNeg) < 0 → (vp_in (g_R ((0 : Int32)).toNatClampNeg) 4 ∧ (((g_C ((g_R ((0 : Int32)).toNatClampNeg)).toNatClampNeg) = 0 → (vc_X6_toGrey g_C g_L (g_R ((0 : Int32)).toNatClampNeg) ∧ vc_X6_end_s57_0  m_r m_b g_R ((cf_X6_toGrey g_C g_L (g_R ((0 : Int32)).toNatClampNeg)).1) ((cf_X6_toGrey g_C g_L (g_R ((0 : Int32)).toNatClampNeg)).2) m_ov )) ∧ (¬ (g_C ((g_R ((0 : Int32)).toNatClampNeg)).toNatClampNeg) = 0 → vc_X6_end_s59_0  m_r m_b g_R g_C g_L m_ov x1)))))))))
def cf_X6_end (m_r : Int32) (m_b : Int32) (g_R : Nat → Int32) (g_C : Nat → Int32) (g_L : Nat → Int32) (m_ov : Int32)  : (Nat → Int32) × (Nat → Int32) × Int32 :=
  cf_X6_end_s4_0  m_r m_b g_R g_C g_L m_ov (0 : Int32)
def vc_X6_end (m_r : Int32) (m_b : Int32) (g_R : Nat → Int32) (g_C : Nat → Int32) (g_L : Nat → Int32) (m_ov : Int32)  : Prop :=
  vc_X6_end_s4_0  m_r m_b g_R g_C g_L m_ov (0 : Int32)
set_option maxHeartbeats 4000000 in
set_option maxRecDepth 100000 in
theorem c_X6_end (l : Launch) (dC : Nat → ClassId) (dI : Nat → Nat → Nat) (q6 qA qB qF qR qC qL qS qO qY qH qW qM : Nat) (cyI cyJ cyZ : ClassId) (m_th : Int32) (m_o : Int32) (m_f : Int32) (m_r : Int32) (m_b : Int32) (m_a : Int32) (u_F : Nat → Int32) (u_R : Nat → Int32) (g_F : Nat → Int32) (g_R : Nat → Int32) (g_C : Nat → Int32) (g_L : Nat → Int32) (m_rl : Int32) (m_lf : Int32) (m_ov : Int32) (m_pl : Int64) (g_S : Nat → Int64) (g_O : Nat → Int32) (g_Y : Nat → Int32) (g_H : Nat → Int32) (m_st : Int32) (g_W : Nat → Int32) (m_rm : Int32) (m_fs : Int32) (g_M : Nat → Int32) (sz : Nat)  (hm_r : m_r ≤ 3) (hV : vc_X6_end m_r m_b g_R g_C g_L m_ov ) : Met l yX6_end wsX6_end ({ frames := 1, cells := 0, slots := 0, locals := 21 }) (mu_P [.ref q6] sz (dC, dI) kcl (mo_W q6 qA qB qF qR qC qL qS qO qY qH qW qM cyI cyJ cyZ m_th m_o m_f m_r m_b m_a u_F u_R g_F g_R g_C g_L m_rl m_lf m_ov m_pl g_S g_O g_Y g_H m_st g_W m_rm m_fs g_M) [(cyI, .int), (cyJ, .long), (cyZ, .boolean)]) (mu_Q none (dC, dI) kcl (mo_W q6 qA qB qF qR qC qL qS qO qY qH qW qM cyI cyJ cyZ m_th m_o m_f m_r m_b m_a u_F u_R g_F g_R ((cf_X6_end m_r m_b g_R g_C g_L m_ov ).1) ((cf_X6_end m_r m_b g_R g_C g_L m_ov ).2.1) m_rl m_lf ((cf_X6_end m_r m_b g_R g_C g_L m_ov ).2.2) m_pl g_S g_O g_Y g_H m_st g_W m_rm m_fs g_M) (va_A (mo_W q6 qA qB qF qR qC qL qS qO qY qH qW qM cyI cyJ cyZ m_th m_o m_f m_r m_b m_a u_F u_R g_F g_R g_C g_L m_rl m_lf m_ov m_pl g_S g_O g_Y g_H m_st g_W m_rm m_fs g_M) sz)) 0 0 (va_A (mo_W q6 qA qB qF qR qC qL qS qO qY qH qW qM cyI cyJ cyZ m_th m_o m_f m_r m_b m_a u_F u_R g_F g_R g_C g_L m_rl m_lf m_ov m_pl g_S g_O g_Y g_H m_st g_W m_rm m_fs g_M) sz) := by
  refine Met.ofW (cc := cX6_end) (maxL := 3) (ret := none) (by decide) rfl ?_
  intro p e s m args below meth c s₁ B hml hv
  obtain ⟨rfl, hsz, hP, hK, hD0⟩ := hv
  have hx := B.exec
  have hb := B.bytes
  have hr := B.returns
  have hts := atoms_spec (ws := wsX6_end) B.pre
  have hown : s.vm.findClass RX6 = some m.cls := findClass_of_methodNamed B.named
  have hlocks := B.notSynchronized
  subst hsz
  have hD := hD0.self (sz := s.heap.size)
  generalize hAe : va_A (mo_W q6 qA qB qF qR qC qL qS qO qY qH qW qM cyI cyJ cyZ m_th m_o m_f m_r m_b m_a u_F u_R g_F g_R g_C g_L m_rl m_lf m_ov m_pl g_S g_O g_Y g_H m_st g_W m_rm m_fs g_M) s.heap.size = A at hD ⊢
  have hA : ∀ q : Nat, s.heap.size ≤ q → A q := fun q h => by rw [← hAe]; exact Or.inr h
  have hP : va_P (dC, dI) kcl (mo_W q6 qA qB qF qR qC qL qS qO qY qH qW qM cyI cyJ cyZ m_th m_o m_f m_r m_b m_a u_F u_R g_F g_R g_C g_L m_rl m_lf m_ov m_pl g_S g_O g_Y g_H m_st g_W m_rm m_fs g_M) s.heap := hP
  have h0_ : (Cond.fieldLink RX6 19 "ColourTrierModel" "roots" "I").before _ s = true := hts _ (by decide +kernel)
  have h1_ : ∀ w ∈ u_ws RX6 TX6 25, w ∈ wsX6_end := fun w h => List.mem_cons_of_mem _ (List.mem_append_right _ h)
  have h2_ : (Cond.fieldLink RX6 79 "ColourTrierModel" "isOver" "Z").before _ s = true := hts _ (by decide +kernel)
  have h3_ : (Cond.fieldLink RX6 32 "ColourTrierModel" "root" "[I").before _ s = true := hts _ (by decide +kernel)
  have h4_ : (Cond.fieldLink RX6 35 "ColourTrierModel" "colour" "[I").before _ s = true := hts _ (by decide +kernel)
  generalize hR : (cf_X6_end m_r m_b g_R g_C g_L m_ov ) = R
  have Ks65 : ∀  (g_C : Nat → Int32) (g_L : Nat → Int32) (m_ov : Int32) (x1 : Int32) (H : Heap) (locs : List Loc) (ls : Array Slot), va_P (dC, dI) kcl (mo_W q6 qA qB qF qR qC qL qS qO qY qH qW qM cyI cyJ cyZ m_th m_o m_f m_r m_b m_a u_F u_R g_F g_R g_C g_L m_rl m_lf m_ov m_pl g_S g_O g_Y g_H m_st g_W m_rm m_fs g_M) H → va_D A (mo_W q6 qA qB qF qR qC qL qS qO qY qH qW qM cyI cyJ cyZ m_th m_o m_f m_r m_b m_a u_F u_R g_F g_R g_C g_L m_rl m_lf m_ov m_pl g_S g_O g_Y g_H m_st g_W m_rm m_fs g_M) → va_S A s.heap H locs → lv_has ls 3 [(0, .ref q6), (1, .int x1)] → cf_X6_end_s65  m_r m_b g_R g_C g_L m_ov x1 = R → W p l e (headSpec wsX6_end ({ frames := 1, cells := 0, slots := 0, locals := 21 })).room s m ([.ref q6] : List Value).toArray below meth c H locs 0 0 (MQ below (mu_Q none (dC, dI) kcl (mo_W q6 qA qB qF qR qC qL qS qO qY qH qW qM cyI cyJ cyZ m_th m_o m_f m_r m_b m_a u_F u_R g_F g_R R.1 R.2.1 m_rl m_lf R.2.2 m_pl g_S g_O g_Y g_H m_st g_W m_rm m_fs g_M) A) ([.ref q6] : List Value).toArray s 0 0 A) (F0 m 65 ls []) := by
    intro  g_C g_L m_ov x1 H locs ls hP hD hS hl hR
    unfold cf_X6_end_s65 at hR
    refine lv_iload_n hx hb dX6_end_65 rfl (lv_at hl 1 rfl) ?_
    refine lv_if_ne (tgt := 74) hx hb dX6_end_66 (by decide) (fun c_2 => ?_) (fun c_2 => ?_)
    · rw [if_neg c_2] at hR
      rw [← hR]
      exact W.vret hx hb hr (fun t ht _ => ⟨rfl, by rw [ht]; exact hP, hS.F ht⟩) hS.2.2 dX6_end_74
    · rw [if_pos c_2] at hR
      refine lv_aload_n hx hb dX6_end_69 rfl (lv_at hl 0 rfl) ?_
      refine lv_iconst (v := (1 : Int32)) hx hb dX6_end_70 (by decide +kernel) ?_
      refine va_put (D := (dC, dI)) (ci := 4) (v := .int (1 : Int32)) (ty := .boolean) (C := RX6) (T := TX6) (N := 25) hx hb hts h1_ tyX6 tyX6_ok nmX6 hown hK hP hD hS 0 rfl rfl 14 (by decide) h2_ (fun _ h9 => h9) rfl (by decide +kernel) (by decide +kernel) (by decide +kernel) (Nat.le_of_ble_eq_true rfl) dX6_end_71 (fun H locs hP hD hS => ?_)
      have hP : va_P (dC, dI) kcl (mo_W q6 qA qB qF qR qC qL qS qO qY qH qW qM cyI cyJ cyZ m_th m_o m_f m_r m_b m_a u_F u_R g_F g_R g_C g_L m_rl m_lf (1 : Int32) m_pl g_S g_O g_Y g_H m_st g_W m_rm m_fs g_M) H := hP
      have hD : va_D A (mo_W q6 qA qB qF qR qC qL qS qO qY qH qW qM cyI cyJ cyZ m_th m_o m_f m_r m_b m_a u_F u_R g_F g_R g_C g_L m_rl m_lf (1 : Int32) m_pl g_S g_O g_Y g_H m_st g_W m_rm m_fs g_M) := hD
      rw [← hR]
      exact W.vret hx hb hr (fun t ht _ => ⟨rfl, by rw [ht]; exact hP, hS.F ht⟩) hS.2.2 dX6_end_74
  have Ks4_3 : ∀  (g_C : Nat → Int32) (g_L : Nat → Int32) (m_ov : Int32) (x1 : Int32) (H : Heap) (locs : List Loc) (ls : Array Slot), va_P (dC, dI) kcl (mo_W q6 qA qB qF qR qC qL qS qO qY qH qW qM cyI cyJ cyZ m_th m_o m_f m_r m_b m_a u_F u_R g_F g_R g_C g_L m_rl m_lf m_ov m_pl g_S g_O g_Y g_H m_st g_W m_rm m_fs g_M) H → va_D A (mo_W q6 qA qB qF qR qC qL qS qO qY qH qW qM cyI cyJ cyZ m_th m_o m_f m_r m_b m_a u_F u_R g_F g_R g_C g_L m_rl m_lf m_ov m_pl g_S g_O g_Y g_H m_st g_W m_rm m_fs g_M) → va_S A s.heap H locs → lv_has ls 3 [(0, .ref q6), (1, .int x1), (2, .int (3 : Int32))] → cf_X6_end_s4_3  m_r m_b g_R g_C g_L m_ov x1 = R → W p l e (headSpec wsX6_end ({ frames := 1, cells := 0, slots := 0, locals := 21 })).room s m ([.ref q6] : List Value).toArray below meth c H locs 0 0 (MQ below (mu_Q none (dC, dI) kcl (mo_W q6 qA qB qF qR qC qL qS qO qY qH qW qM cyI cyJ cyZ m_th m_o m_f m_r m_b m_a u_F u_R g_F g_R R.1 R.2.1 m_rl m_lf R.2.2 m_pl g_S g_O g_Y g_H m_st g_W m_rm m_fs g_M) A) ([.ref q6] : List Value).toArray s 0 0 A) (F0 m 4 ls []) := by
    intro  g_C g_L m_ov x1 H locs ls hP hD hS hl hR
    unfold cf_X6_end_s4_3 at hR
    refine lv_iload_n hx hb dX6_end_4 rfl (lv_at hl 2 rfl) ?_
    refine lv_aload_n hx hb dX6_end_5 rfl (lv_at hl 0 rfl) ?_
    refine va_get (D := (dC, dI)) (ci := 4) (v := .int m_r) (C := RX6) (T := TX6) (N := 25) hx hb hts h1_ hown hK hP 0 rfl rfl 3 (by decide) h0_ (fun _ h9 => h9) rfl dX6_end_6 ?_
    refine lv_icmp_ge (tgt := 65) hx hb dX6_end_9 (by decide) (fun _ => ?_) (fun c_0 => absurd hm_r c_0)
    exact Ks65  g_C g_L m_ov x1 H locs ls hP hD hS (lv_sub hl [0, 1] rfl) hR
  have Ks59_2 : ∀  (g_C : Nat → Int32) (g_L : Nat → Int32) (m_ov : Int32) (x1 : Int32) (H : Heap) (locs : List Loc) (ls : Array Slot), va_P (dC, dI) kcl (mo_W q6 qA qB qF qR qC qL qS qO qY qH qW qM cyI cyJ cyZ m_th m_o m_f m_r m_b m_a u_F u_R g_F g_R g_C g_L m_rl m_lf m_ov m_pl g_S g_O g_Y g_H m_st g_W m_rm m_fs g_M) H → va_D A (mo_W q6 qA qB qF qR qC qL qS qO qY qH qW qM cyI cyJ cyZ m_th m_o m_f m_r m_b m_a u_F u_R g_F g_R g_C g_L m_rl m_lf m_ov m_pl g_S g_O g_Y g_H m_st g_W m_rm m_fs g_M) → va_S A s.heap H locs → lv_has ls 3 [(0, .ref q6), (1, .int x1), (2, .int (2 : Int32))] → cf_X6_end_s59_2  m_r m_b g_R g_C g_L m_ov x1 = R → W p l e (headSpec wsX6_end ({ frames := 1, cells := 0, slots := 0, locals := 21 })).room s m ([.ref q6] : List Value).toArray below meth c H locs 0 0 (MQ below (mu_Q none (dC, dI) kcl (mo_W q6 qA qB qF qR qC qL qS qO qY qH qW qM cyI cyJ cyZ m_th m_o m_f m_r m_b m_a u_F u_R g_F g_R R.1 R.2.1 m_rl m_lf R.2.2 m_pl g_S g_O g_Y g_H m_st g_W m_rm m_fs g_M) A) ([.ref q6] : List Value).toArray s 0 0 A) (F0 m 59 ls []) := by
    intro  g_C g_L m_ov x1 H locs ls hP hD hS hl hR
    unfold cf_X6_end_s59_2 at hR
    refine lv_iinc (v := (3 : Int32)) (lv' := [(2, .int (3 : Int32)), (0, .ref q6), (1, .int x1)]) hx hb dX6_end_59 hl (k := 2) rfl (by decide +kernel) (by decide) rfl (fun ls hl => ?_)
    refine lv_goto (tgt := 4) hx hb dX6_end_62 (by decide) ?_
    exact Ks4_3  g_C g_L m_ov x1 H locs ls hP hD hS (lv_sub hl [1, 2, 0] rfl) hR
  have Ks57_2 : ∀  (g_C : Nat → Int32) (g_L : Nat → Int32) (m_ov : Int32)  (H : Heap) (locs : List Loc) (ls : Array Slot), va_P (dC, dI) kcl (mo_W q6 qA qB qF qR qC qL qS qO qY qH qW qM cyI cyJ cyZ m_th m_o m_f m_r m_b m_a u_F u_R g_F g_R g_C g_L m_rl m_lf m_ov m_pl g_S g_O g_Y g_H m_st g_W m_rm m_fs g_M) H → va_D A (mo_W q6 qA qB qF qR qC qL qS qO qY qH qW qM cyI cyJ cyZ m_th m_o m_f m_r m_b m_a u_F u_R g_F g_R g_C g_L m_rl m_lf m_ov m_pl g_S g_O g_Y g_H m_st g_W m_rm m_fs g_M) → va_S A s.heap H locs → lv_has ls 3 [(0, .ref q6), (2, .int (2 : Int32))] → cf_X6_end_s57_2  m_r m_b g_R g_C g_L m_ov  = R → W p l e (headSpec wsX6_end ({ frames := 1, cells := 0, slots := 0, locals := 21 })).room s m ([.ref q6] : List Value).toArray below meth c H locs 0 0 (MQ below (mu_Q none (dC, dI) kcl (mo_W q6 qA qB qF qR qC qL qS qO qY qH qW qM cyI cyJ cyZ m_th m_o m_f m_r m_b m_a u_F u_R g_F g_R R.1 R.2.1 m_rl m_lf R.2.2 m_pl g_S g_O g_Y g_H m_st g_W m_rm m_fs g_M) A) ([.ref q6] : List Value).toArray s 0 0 A) (F0 m 57 ls []) := by
    intro  g_C g_L m_ov  H locs ls hP hD hS hl hR
    unfold cf_X6_end_s57_2 at hR
    refine lv_iconst (v := (1 : Int32)) hx hb dX6_end_57 (by decide +kernel) ?_
    refine lv_istore_n (lv' := [(1, .int (1 : Int32)), (0, .ref q6), (2, .int (2 : Int32))]) hx hb dX6_end_58 rfl hl (by decide) rfl (fun ls hl => ?_)
    exact Ks59_2  g_C g_L m_ov (1 : Int32) H locs ls hP hD hS (lv_sub hl [1, 0, 2] rfl) hR
  have Ks4_2 : ∀  (g_C : Nat → Int32) (g_L : Nat → Int32) (m_ov : Int32) (x1 : Int32) (H : Heap) (locs : List Loc) (ls : Array Slot), va_P (dC, dI) kcl (mo_W q6 qA qB qF qR qC qL qS qO qY qH qW qM cyI cyJ cyZ m_th m_o m_f m_r m_b m_a u_F u_R g_F g_R g_C g_L m_rl m_lf m_ov m_pl g_S g_O g_Y g_H m_st g_W m_rm m_fs g_M) H → va_D A (mo_W q6 qA qB qF qR qC qL qS qO qY qH qW qM cyI cyJ cyZ m_th m_o m_f m_r m_b m_a u_F u_R g_F g_R g_C g_L m_rl m_lf m_ov m_pl g_S g_O g_Y g_H m_st g_W m_rm m_fs g_M) → va_S A s.heap H locs → lv_has ls 3 [(0, .ref q6), (1, .int x1), (2, .int (2 : Int32))] → vc_X6_end_s4_2  m_r m_b g_R g_C g_L m_ov x1 → cf_X6_end_s4_2  m_r m_b g_R g_C g_L m_ov x1 = R → W p l e (headSpec wsX6_end ({ frames := 1, cells := 0, slots := 0, locals := 21 })).room s m ([.ref q6] : List Value).toArray below meth c H locs 0 0 (MQ below (mu_Q none (dC, dI) kcl (mo_W q6 qA qB qF qR qC qL qS qO qY qH qW qM cyI cyJ cyZ m_th m_o m_f m_r m_b m_a u_F u_R g_F g_R R.1 R.2.1 m_rl m_lf R.2.2 m_pl g_S g_O g_Y g_H m_st g_W m_rm m_fs g_M) A) ([.ref q6] : List Value).toArray s 0 0 A) (F0 m 4 ls []) := by
    intro  g_C g_L m_ov x1 H locs ls hP hD hS hl hV hR
    unfold cf_X6_end_s4_2 at hR
    unfold vc_X6_end_s4_2 at hV
    refine lv_iload_n hx hb dX6_end_4 rfl (lv_at hl 2 rfl) ?_
    refine lv_aload_n hx hb dX6_end_5 rfl (lv_at hl 0 rfl) ?_
    refine va_get (D := (dC, dI)) (ci := 4) (v := .int m_r) (C := RX6) (T := TX6) (N := 25) hx hb hts h1_ hown hK hP 0 rfl rfl 3 (by decide) h0_ (fun _ h9 => h9) rfl dX6_end_6 ?_
    refine lv_icmp_ge (tgt := 65) hx hb dX6_end_9 (by decide) (fun c_8 => ?_) (fun c_8 => ?_)
    · rw [if_pos c_8] at hR
      exact Ks65  g_C g_L m_ov x1 H locs ls hP hD hS (lv_sub hl [0, 1] rfl) hR
    · rw [if_neg c_8] at hR
      have hV := hV.2 c_8
      refine lv_aload_n hx hb dX6_end_12 rfl (lv_at hl 0 rfl) ?_
      refine lv_bipush (v := (32 : Int32)) hx hb dX6_end_13 (by decide +kernel) ?_
      refine rd_calli (va_runV (As := [.int (32 : Int32)]) (rest := []) ⟨hx, hb, hml, hown, hts⟩ (c_X6_bars l dC dI q6 qA qB qF qR qC qL qS qO qY qH qW qM cyI cyJ cyZ m_th m_o m_f m_r m_b m_a u_F u_R g_F g_R g_C g_L m_rl m_lf m_ov m_pl g_S g_O g_Y g_H m_st g_W m_rm m_fs g_M (32 : Int32)  ) (cwV 1 hts gX6_end_X6_bars rfl rfl rfl (by decide +kernel) ⟨Nat.le_of_ble_eq_true rfl, Nat.le_of_ble_eq_true rfl⟩) ⟨rd_blind, va_recv hK hP (ci := 4) (q0 := 0) rfl rfl, fun U hU hW => ⟨rfl, by rw [hU]; exact hP, va_K.moved hW.alike (hK.sub [0, 1, 2] rfl)⟩⟩ rfl rfl hl.1 rfl (lv_room (Nat.le_of_ble_eq_true rfl)) dX6_end_15 ⟨Nat.le_refl _, Nat.le_refl _⟩) ?_
      refine lv_if_eq (tgt := 65) hx hb dX6_end_18 (by decide) (fun c_9 => ?_) (fun c_9 => ?_)
      · rw [if_pos c_9] at hR
        exact Ks65  g_C g_L m_ov x1 H locs ls hP hD hS (lv_sub hl [0, 1] rfl) hR
      · rw [if_neg c_9] at hR
        have hV := hV.2 c_9
        refine lv_aload_n hx hb dX6_end_21 rfl (lv_at hl 0 rfl) ?_
        refine va_get (D := (dC, dI)) (ci := 4) (v := .ref qR) (C := RX6) (T := TX6) (N := 25) hx hb hts h1_ hown hK hP 0 rfl rfl 9 (by decide) h3_ (fun _ h9 => h9) rfl dX6_end_22 ?_
        refine lv_iload_n hx hb dX6_end_25 rfl (lv_at hl 2 rfl) ?_
        refine va_iald hx hb hK hP 4 0 rfl rfl (by unfold vp_in; decide +kernel) dX6_end_26 ?_
        refine lv_if_lt (tgt := 59) hx hb dX6_end_27 (by decide) (fun c_10 => ?_) (fun c_10 => ?_)
        · rw [if_pos c_10] at hR
          exact Ks59_2  g_C g_L m_ov x1 H locs ls hP hD hS (lv_sub hl [0, 1, 2] rfl) hR
        · rw [if_neg c_10] at hR
          have hV := hV.2 c_10
          refine lv_aload_n hx hb dX6_end_30 rfl (lv_at hl 0 rfl) ?_
          refine va_get (D := (dC, dI)) (ci := 4) (v := .ref qC) (C := RX6) (T := TX6) (N := 25) hx hb hts h1_ hown hK hP 0 rfl rfl 10 (by decide) h4_ (fun _ h9 => h9) rfl dX6_end_31 ?_
          refine lv_aload_n hx hb dX6_end_34 rfl (lv_at hl 0 rfl) ?_
          refine va_get (D := (dC, dI)) (ci := 4) (v := .ref qR) (C := RX6) (T := TX6) (N := 25) hx hb hts h1_ hown hK hP 0 rfl rfl 9 (by decide) h3_ (fun _ h9 => h9) rfl dX6_end_35 ?_
          refine lv_iload_n hx hb dX6_end_38 rfl (lv_at hl 2 rfl) ?_
          refine va_iald hx hb hK hP 4 0 rfl rfl (by unfold vp_in; decide +kernel) dX6_end_39 ?_
          obtain ⟨hi11, hV⟩ := hV
          refine va_iald hx hb hK hP 5 0 rfl rfl hi11 dX6_end_40 ?_
          refine lv_if_eq (tgt := 47) hx hb dX6_end_41 (by decide) (fun c_12 => ?_) (fun c_12 => ?_)
          · rw [if_pos c_12] at hR
            have hV := hV.1 c_12
            refine lv_aload_n hx hb dX6_end_47 rfl (lv_at hl 0 rfl) ?_
            refine lv_aload_n hx hb dX6_end_48 rfl (lv_at hl 0 rfl) ?_
            refine va_get (D := (dC, dI)) (ci := 4) (v := .ref qR) (C := RX6) (T := TX6) (N := 25) hx hb hts h1_ hown hK hP 0 rfl rfl 9 (by decide) h3_ (fun _ h9 => h9) rfl dX6_end_49 ?_
            refine lv_iload_n hx hb dX6_end_52 rfl (lv_at hl 2 rfl) ?_
            refine va_iald hx hb hK hP 4 0 rfl rfl (by unfold vp_in; decide +kernel) dX6_end_53 ?_
            obtain ⟨hv13, hV⟩ := hV
            refine mu_call (ws' := (mo_W q6 qA qB qF qR qC qL qS qO qY qH qW qM cyI cyJ cyZ m_th m_o m_f m_r m_b m_a u_F u_R g_F g_R ((cf_X6_toGrey g_C g_L (g_R ((2 : Int32)).toNatClampNeg)).1) ((cf_X6_toGrey g_C g_L (g_R ((2 : Int32)).toNatClampNeg)).2) m_rl m_lf m_ov m_pl g_S g_O g_Y g_H m_st g_W m_rm m_fs g_M)) (wr := []) (va_runV (As := [.int (g_R ((2 : Int32)).toNatClampNeg)]) (rest := []) ⟨hx, hb, hml, hown, hts⟩ (c_X6_toGrey l dC dI q6 qA qB qF qR qC qL qS qO qY qH qW qM cyI cyJ cyZ m_th m_o m_f m_r m_b m_a u_F u_R g_F g_R g_C g_L m_rl m_lf m_ov m_pl g_S g_O g_Y g_H m_st g_W m_rm m_fs g_M H.size (g_R ((2 : Int32)).toNatClampNeg)  hv13) (cwV 1 hts gX6_end_X6_toGrey rfl rfl rfl (by decide +kernel) ⟨Nat.le_of_ble_eq_true rfl, Nat.le_of_ble_eq_true rfl⟩) ⟨mu_blind, va_recv hK hP (ci := 4) (q0 := 0) rfl rfl, fun U hU hW => ⟨rfl, by rw [hU], by rw [hU]; exact hP, va_K.moved hW.alike (hK.sub [0, 1, 2] rfl), hD.weaken (fun _ _ _ _ => trivial)⟩⟩ rfl rfl hl.1 rfl (lv_room (Nat.le_of_ble_eq_true rfl)) dX6_end_54 ⟨Nat.le_refl _, Nat.le_refl _⟩) hP hD hS hA [0, 1, 2, 3, 4, 5, 6, 7, 8, 9, 10, 11, 12] [] [0, 1, 2, 3, 4, 5, 6, 7, 8, 9, 10, 11, 12] rfl rfl (by decide) (by decide) (by decide) rfl (by decide) rfl (fun H locs hP hD hS => ?_)
            refine W.eq (g2 := F0 m 57 ls []) rfl ?_
            exact Ks57_2  ((cf_X6_toGrey g_C g_L (g_R ((2 : Int32)).toNatClampNeg)).1) ((cf_X6_toGrey g_C g_L (g_R ((2 : Int32)).toNatClampNeg)).2) m_ov  H locs ls hP hD hS (lv_sub hl [0, 2] rfl) hR
          · rw [if_neg c_12] at hR
            refine lv_goto (tgt := 59) hx hb dX6_end_44 (by decide) ?_
            exact Ks59_2  g_C g_L m_ov x1 H locs ls hP hD hS (lv_sub hl [0, 1, 2] rfl) hR
  have Ks59_1 : ∀  (g_C : Nat → Int32) (g_L : Nat → Int32) (m_ov : Int32) (x1 : Int32) (H : Heap) (locs : List Loc) (ls : Array Slot), va_P (dC, dI) kcl (mo_W q6 qA qB qF qR qC qL qS qO qY qH qW qM cyI cyJ cyZ m_th m_o m_f m_r m_b m_a u_F u_R g_F g_R g_C g_L m_rl m_lf m_ov m_pl g_S g_O g_Y g_H m_st g_W m_rm m_fs g_M) H → va_D A (mo_W q6 qA qB qF qR qC qL qS qO qY qH qW qM cyI cyJ cyZ m_th m_o m_f m_r m_b m_a u_F u_R g_F g_R g_C g_L m_rl m_lf m_ov m_pl g_S g_O g_Y g_H m_st g_W m_rm m_fs g_M) → va_S A s.heap H locs → lv_has ls 3 [(0, .ref q6), (1, .int x1), (2, .int (1 : Int32))] → vc_X6_end_s59_1  m_r m_b g_R g_C g_L m_ov x1 → cf_X6_end_s59_1  m_r m_b g_R g_C g_L m_ov x1 = R → W p l e (headSpec wsX6_end ({ frames := 1, cells := 0, slots := 0, locals := 21 })).room s m ([.ref q6] : List Value).toArray below meth c H locs 0 0 (MQ below (mu_Q none (dC, dI) kcl (mo_W q6 qA qB qF qR qC qL qS qO qY qH qW qM cyI cyJ cyZ m_th m_o m_f m_r m_b m_a u_F u_R g_F g_R R.1 R.2.1 m_rl m_lf R.2.2 m_pl g_S g_O g_Y g_H m_st g_W m_rm m_fs g_M) A) ([.ref q6] : List Value).toArray s 0 0 A) (F0 m 59 ls []) := by
    intro  g_C g_L m_ov x1 H locs ls hP hD hS hl hV hR
    unfold cf_X6_end_s59_1 at hR
    unfold vc_X6_end_s59_1 at hV
    refine lv_iinc (v := (2 : Int32)) (lv' := [(2, .int (2 : Int32)), (0, .ref q6), (1, .int x1)]) hx hb dX6_end_59 hl (k := 2) rfl (by decide +kernel) (by decide) rfl (fun ls hl => ?_)
    refine lv_goto (tgt := 4) hx hb dX6_end_62 (by decide) ?_
    exact Ks4_2  g_C g_L m_ov x1 H locs ls hP hD hS (lv_sub hl [1, 2, 0] rfl) hV hR
  have Ks57_1 : ∀  (g_C : Nat → Int32) (g_L : Nat → Int32) (m_ov : Int32)  (H : Heap) (locs : List Loc) (ls : Array Slot), va_P (dC, dI) kcl (mo_W q6 qA qB qF qR qC qL qS qO qY qH qW qM cyI cyJ cyZ m_th m_o m_f m_r m_b m_a u_F u_R g_F g_R g_C g_L m_rl m_lf m_ov m_pl g_S g_O g_Y g_H m_st g_W m_rm m_fs g_M) H → va_D A (mo_W q6 qA qB qF qR qC qL qS qO qY qH qW qM cyI cyJ cyZ m_th m_o m_f m_r m_b m_a u_F u_R g_F g_R g_C g_L m_rl m_lf m_ov m_pl g_S g_O g_Y g_H m_st g_W m_rm m_fs g_M) → va_S A s.heap H locs → lv_has ls 3 [(0, .ref q6), (2, .int (1 : Int32))] → vc_X6_end_s57_1  m_r m_b g_R g_C g_L m_ov  → cf_X6_end_s57_1  m_r m_b g_R g_C g_L m_ov  = R → W p l e (headSpec wsX6_end ({ frames := 1, cells := 0, slots := 0, locals := 21 })).room s m ([.ref q6] : List Value).toArray below meth c H locs 0 0 (MQ below (mu_Q none (dC, dI) kcl (mo_W q6 qA qB qF qR qC qL qS qO qY qH qW qM cyI cyJ cyZ m_th m_o m_f m_r m_b m_a u_F u_R g_F g_R R.1 R.2.1 m_rl m_lf R.2.2 m_pl g_S g_O g_Y g_H m_st g_W m_rm m_fs g_M) A) ([.ref q6] : List Value).toArray s 0 0 A) (F0 m 57 ls []) := by
    intro  g_C g_L m_ov  H locs ls hP hD hS hl hV hR
    unfold cf_X6_end_s57_1 at hR
    unfold vc_X6_end_s57_1 at hV
    refine lv_iconst (v := (1 : Int32)) hx hb dX6_end_57 (by decide +kernel) ?_
    refine lv_istore_n (lv' := [(1, .int (1 : Int32)), (0, .ref q6), (2, .int (1 : Int32))]) hx hb dX6_end_58 rfl hl (by decide) rfl (fun ls hl => ?_)
    exact Ks59_1  g_C g_L m_ov (1 : Int32) H locs ls hP hD hS (lv_sub hl [1, 0, 2] rfl) hV hR
  have Ks4_1 : ∀  (g_C : Nat → Int32) (g_L : Nat → Int32) (m_ov : Int32) (x1 : Int32) (H : Heap) (locs : List Loc) (ls : Array Slot), va_P (dC, dI) kcl (mo_W q6 qA qB qF qR qC qL qS qO qY qH qW qM cyI cyJ cyZ m_th m_o m_f m_r m_b m_a u_F u_R g_F g_R g_C g_L m_rl m_lf m_ov m_pl g_S g_O g_Y g_H m_st g_W m_rm m_fs g_M) H → va_D A (mo_W q6 qA qB qF qR qC qL qS qO qY qH qW qM cyI cyJ cyZ m_th m_o m_f m_r m_b m_a u_F u_R g_F g_R g_C g_L m_rl m_lf m_ov m_pl g_S g_O g_Y g_H m_st g_W m_rm m_fs g_M) → va_S A s.heap H locs → lv_has ls 3 [(0, .ref q6), (1, .int x1), (2, .int (1 : Int32))] → vc_X6_end_s4_1  m_r m_b g_R g_C g_L m_ov x1 → cf_X6_end_s4_1  m_r m_b g_R g_C g_L m_ov x1 = R → W p l e (headSpec wsX6_end ({ frames := 1, cells := 0, slots := 0, locals := 21 })).room s m ([.ref q6] : List Value).toArray below meth c H locs 0 0 (MQ below (mu_Q none (dC, dI) kcl (mo_W q6 qA qB qF qR qC qL qS qO qY qH qW qM cyI cyJ cyZ m_th m_o m_f m_r m_b m_a u_F u_R g_F g_R R.1 R.2.1 m_rl m_lf R.2.2 m_pl g_S g_O g_Y g_H m_st g_W m_rm m_fs g_M) A) ([.ref q6] : List Value).toArray s 0 0 A) (F0 m 4 ls []) := by
    intro  g_C g_L m_ov x1 H locs ls hP hD hS hl hV hR
    unfold cf_X6_end_s4_1 at hR
    unfold vc_X6_end_s4_1 at hV
    refine lv_iload_n hx hb dX6_end_4 rfl (lv_at hl 2 rfl) ?_
    refine lv_aload_n hx hb dX6_end_5 rfl (lv_at hl 0 rfl) ?_
    refine va_get (D := (dC, dI)) (ci := 4) (v := .int m_r) (C := RX6) (T := TX6) (N := 25) hx hb hts h1_ hown hK hP 0 rfl rfl 3 (by decide) h0_ (fun _ h9 => h9) rfl dX6_end_6 ?_
    refine lv_icmp_ge (tgt := 65) hx hb dX6_end_9 (by decide) (fun c_5 => ?_) (fun c_5 => ?_)
    · rw [if_pos c_5] at hR
      exact Ks65  g_C g_L m_ov x1 H locs ls hP hD hS (lv_sub hl [0, 1] rfl) hR
    · rw [if_neg c_5] at hR
      have hV := hV.2 c_5
      refine lv_aload_n hx hb dX6_end_12 rfl (lv_at hl 0 rfl) ?_
      refine lv_bipush (v := (32 : Int32)) hx hb dX6_end_13 (by decide +kernel) ?_
      refine rd_calli (va_runV (As := [.int (32 : Int32)]) (rest := []) ⟨hx, hb, hml, hown, hts⟩ (c_X6_bars l dC dI q6 qA qB qF qR qC qL qS qO qY qH qW qM cyI cyJ cyZ m_th m_o m_f m_r m_b m_a u_F u_R g_F g_R g_C g_L m_rl m_lf m_ov m_pl g_S g_O g_Y g_H m_st g_W m_rm m_fs g_M (32 : Int32)  ) (cwV 1 hts gX6_end_X6_bars rfl rfl rfl (by decide +kernel) ⟨Nat.le_of_ble_eq_true rfl, Nat.le_of_ble_eq_true rfl⟩) ⟨rd_blind, va_recv hK hP (ci := 4) (q0 := 0) rfl rfl, fun U hU hW => ⟨rfl, by rw [hU]; exact hP, va_K.moved hW.alike (hK.sub [0, 1, 2] rfl)⟩⟩ rfl rfl hl.1 rfl (lv_room (Nat.le_of_ble_eq_true rfl)) dX6_end_15 ⟨Nat.le_refl _, Nat.le_refl _⟩) ?_
      refine lv_if_eq (tgt := 65) hx hb dX6_end_18 (by decide) (fun c_6 => ?_) (fun c_6 => ?_)
      · rw [if_pos c_6] at hR
        exact Ks65  g_C g_L m_ov x1 H locs ls hP hD hS (lv_sub hl [0, 1] rfl) hR
      · rw [if_neg c_6] at hR
        have hV := hV.2 c_6
        refine lv_aload_n hx hb dX6_end_21 rfl (lv_at hl 0 rfl) ?_
        refine va_get (D := (dC, dI)) (ci := 4) (v := .ref qR) (C := RX6) (T := TX6) (N := 25) hx hb hts h1_ hown hK hP 0 rfl rfl 9 (by decide) h3_ (fun _ h9 => h9) rfl dX6_end_22 ?_
        refine lv_iload_n hx hb dX6_end_25 rfl (lv_at hl 2 rfl) ?_
        refine va_iald hx hb hK hP 4 0 rfl rfl (by unfold vp_in; decide +kernel) dX6_end_26 ?_
        refine lv_if_lt (tgt := 59) hx hb dX6_end_27 (by decide) (fun c_7 => ?_) (fun c_7 => ?_)
        · rw [if_pos c_7] at hR
          have hV := hV.1 c_7
          exact Ks59_1  g_C g_L m_ov x1 H locs ls hP hD hS (lv_sub hl [0, 1, 2] rfl) hV hR
        · rw [if_neg c_7] at hR
          have hV := hV.2 c_7
          refine lv_aload_n hx hb dX6_end_30 rfl (lv_at hl 0 rfl) ?_
          refine va_get (D := (dC, dI)) (ci := 4) (v := .ref qC) (C := RX6) (T := TX6) (N := 25) hx hb hts h1_ hown hK hP 0 rfl rfl 10 (by decide) h4_ (fun _ h9 => h9) rfl dX6_end_31 ?_
          refine lv_aload_n hx hb dX6_end_34 rfl (lv_at hl 0 rfl) ?_
          refine va_get (D := (dC, dI)) (ci := 4) (v := .ref qR) (C := RX6) (T := TX6) (N := 25) hx hb hts h1_ hown hK hP 0 rfl rfl 9 (by decide) h3_ (fun _ h9 => h9) rfl dX6_end_35 ?_
          refine lv_iload_n hx hb dX6_end_38 rfl (lv_at hl 2 rfl) ?_
          refine va_iald hx hb hK hP 4 0 rfl rfl (by unfold vp_in; decide +kernel) dX6_end_39 ?_
          obtain ⟨hi14, hV⟩ := hV
          refine va_iald hx hb hK hP 5 0 rfl rfl hi14 dX6_end_40 ?_
          refine lv_if_eq (tgt := 47) hx hb dX6_end_41 (by decide) (fun c_15 => ?_) (fun c_15 => ?_)
          · rw [if_pos c_15] at hR
            have hV := hV.1 c_15
            refine lv_aload_n hx hb dX6_end_47 rfl (lv_at hl 0 rfl) ?_
            refine lv_aload_n hx hb dX6_end_48 rfl (lv_at hl 0 rfl) ?_
            refine va_get (D := (dC, dI)) (ci := 4) (v := .ref qR) (C := RX6) (T := TX6) (N := 25) hx hb hts h1_ hown hK hP 0 rfl rfl 9 (by decide) h3_ (fun _ h9 => h9) rfl dX6_end_49 ?_
            refine lv_iload_n hx hb dX6_end_52 rfl (lv_at hl 2 rfl) ?_
            refine va_iald hx hb hK hP 4 0 rfl rfl (by unfold vp_in; decide +kernel) dX6_end_53 ?_
            obtain ⟨hv16, hV⟩ := hV
            refine mu_call (ws' := (mo_W q6 qA qB qF qR qC qL qS qO qY qH qW qM cyI cyJ cyZ m_th m_o m_f m_r m_b m_a u_F u_R g_F g_R ((cf_X6_toGrey g_C g_L (g_R ((1 : Int32)).toNatClampNeg)).1) ((cf_X6_toGrey g_C g_L (g_R ((1 : Int32)).toNatClampNeg)).2) m_rl m_lf m_ov m_pl g_S g_O g_Y g_H m_st g_W m_rm m_fs g_M)) (wr := []) (va_runV (As := [.int (g_R ((1 : Int32)).toNatClampNeg)]) (rest := []) ⟨hx, hb, hml, hown, hts⟩ (c_X6_toGrey l dC dI q6 qA qB qF qR qC qL qS qO qY qH qW qM cyI cyJ cyZ m_th m_o m_f m_r m_b m_a u_F u_R g_F g_R g_C g_L m_rl m_lf m_ov m_pl g_S g_O g_Y g_H m_st g_W m_rm m_fs g_M H.size (g_R ((1 : Int32)).toNatClampNeg)  hv16) (cwV 1 hts gX6_end_X6_toGrey rfl rfl rfl (by decide +kernel) ⟨Nat.le_of_ble_eq_true rfl, Nat.le_of_ble_eq_true rfl⟩) ⟨mu_blind, va_recv hK hP (ci := 4) (q0 := 0) rfl rfl, fun U hU hW => ⟨rfl, by rw [hU], by rw [hU]; exact hP, va_K.moved hW.alike (hK.sub [0, 1, 2] rfl), hD.weaken (fun _ _ _ _ => trivial)⟩⟩ rfl rfl hl.1 rfl (lv_room (Nat.le_of_ble_eq_true rfl)) dX6_end_54 ⟨Nat.le_refl _, Nat.le_refl _⟩) hP hD hS hA [0, 1, 2, 3, 4, 5, 6, 7, 8, 9, 10, 11, 12] [] [0, 1, 2, 3, 4, 5, 6, 7, 8, 9, 10, 11, 12] rfl rfl (by decide) (by decide) (by decide) rfl (by decide) rfl (fun H locs hP hD hS => ?_)
            refine W.eq (g2 := F0 m 57 ls []) rfl ?_
            exact Ks57_1  ((cf_X6_toGrey g_C g_L (g_R ((1 : Int32)).toNatClampNeg)).1) ((cf_X6_toGrey g_C g_L (g_R ((1 : Int32)).toNatClampNeg)).2) m_ov  H locs ls hP hD hS (lv_sub hl [0, 2] rfl) hV hR
          · rw [if_neg c_15] at hR
            have hV := hV.2 c_15
            refine lv_goto (tgt := 59) hx hb dX6_end_44 (by decide) ?_
            exact Ks59_1  g_C g_L m_ov x1 H locs ls hP hD hS (lv_sub hl [0, 1, 2] rfl) hV hR
  have Ks59_0 : ∀  (g_C : Nat → Int32) (g_L : Nat → Int32) (m_ov : Int32) (x1 : Int32) (H : Heap) (locs : List Loc) (ls : Array Slot), va_P (dC, dI) kcl (mo_W q6 qA qB qF qR qC qL qS qO qY qH qW qM cyI cyJ cyZ m_th m_o m_f m_r m_b m_a u_F u_R g_F g_R g_C g_L m_rl m_lf m_ov m_pl g_S g_O g_Y g_H m_st g_W m_rm m_fs g_M) H → va_D A (mo_W q6 qA qB qF qR qC qL qS qO qY qH qW qM cyI cyJ cyZ m_th m_o m_f m_r m_b m_a u_F u_R g_F g_R g_C g_L m_rl m_lf m_ov m_pl g_S g_O g_Y g_H m_st g_W m_rm m_fs g_M) → va_S A s.heap H locs → lv_has ls 3 [(0, .ref q6), (1, .int x1), (2, .int (0 : Int32))] → vc_X6_end_s59_0  m_r m_b g_R g_C g_L m_ov x1 → cf_X6_end_s59_0  m_r m_b g_R g_C g_L m_ov x1 = R → W p l e (headSpec wsX6_end ({ frames := 1, cells := 0, slots := 0, locals := 21 })).room s m ([.ref q6] : List Value).toArray below meth c H locs 0 0 (MQ below (mu_Q none (dC, dI) kcl (mo_W q6 qA qB qF qR qC qL qS qO qY qH qW qM cyI cyJ cyZ m_th m_o m_f m_r m_b m_a u_F u_R g_F g_R R.1 R.2.1 m_rl m_lf R.2.2 m_pl g_S g_O g_Y g_H m_st g_W m_rm m_fs g_M) A) ([.ref q6] : List Value).toArray s 0 0 A) (F0 m 59 ls []) := by
    intro  g_C g_L m_ov x1 H locs ls hP hD hS hl hV hR
    unfold cf_X6_end_s59_0 at hR
    unfold vc_X6_end_s59_0 at hV
    refine lv_iinc (v := (1 : Int32)) (lv' := [(2, .int (1 : Int32)), (0, .ref q6), (1, .int x1)]) hx hb dX6_end_59 hl (k := 2) rfl (by decide +kernel) (by decide) rfl (fun ls hl => ?_)
    refine lv_goto (tgt := 4) hx hb dX6_end_62 (by decide) ?_
    exact Ks4_1  g_C g_L m_ov x1 H locs ls hP hD hS (lv_sub hl [1, 2, 0] rfl) hV hR
  have Ks57_0 : ∀  (g_C : Nat → Int32) (g_L : Nat → Int32) (m_ov : Int32)  (H : Heap) (locs : List Loc) (ls : Array Slot), va_P (dC, dI) kcl (mo_W q6 qA qB qF qR qC qL qS qO qY qH qW qM cyI cyJ cyZ m_th m_o m_f m_r m_b m_a u_F u_R g_F g_R g_C g_L m_rl m_lf m_ov m_pl g_S g_O g_Y g_H m_st g_W m_rm m_fs g_M) H → va_D A (mo_W q6 qA qB qF qR qC qL qS qO qY qH qW qM cyI cyJ cyZ m_th m_o m_f m_r m_b m_a u_F u_R g_F g_R g_C g_L m_rl m_lf m_ov m_pl g_S g_O g_Y g_H m_st g_W m_rm m_fs g_M) → va_S A s.heap H locs → lv_has ls 3 [(0, .ref q6), (2, .int (0 : Int32))] → vc_X6_end_s57_0  m_r m_b g_R g_C g_L m_ov  → cf_X6_end_s57_0  m_r m_b g_R g_C g_L m_ov  = R → W p l e (headSpec wsX6_end ({ frames := 1, cells := 0, slots := 0, locals := 21 })).room s m ([.ref q6] : List Value).toArray below meth c H locs 0 0 (MQ below (mu_Q none (dC, dI) kcl (mo_W q6 qA qB qF qR qC qL qS qO qY qH qW qM cyI cyJ cyZ m_th m_o m_f m_r m_b m_a u_F u_R g_F g_R R.1 R.2.1 m_rl m_lf R.2.2 m_pl g_S g_O g_Y g_H m_st g_W m_rm m_fs g_M) A) ([.ref q6] : List Value).toArray s 0 0 A) (F0 m 57 ls []) := by
    intro  g_C g_L m_ov  H locs ls hP hD hS hl hV hR
    unfold cf_X6_end_s57_0 at hR
    unfold vc_X6_end_s57_0 at hV
    refine lv_iconst (v := (1 : Int32)) hx hb dX6_end_57 (by decide +kernel) ?_
    refine lv_istore_n (lv' := [(1, .int (1 : Int32)), (0, .ref q6), (2, .int (0 : Int32))]) hx hb dX6_end_58 rfl hl (by decide) rfl (fun ls hl => ?_)
    exact Ks59_0  g_C g_L m_ov (1 : Int32) H locs ls hP hD hS (lv_sub hl [1, 0, 2] rfl) hV hR
  have Ks4_0 : ∀  (g_C : Nat → Int32) (g_L : Nat → Int32) (m_ov : Int32) (x1 : Int32) (H : Heap) (locs : List Loc) (ls : Array Slot), va_P (dC, dI) kcl (mo_W q6 qA qB qF qR qC qL qS qO qY qH qW qM cyI cyJ cyZ m_th m_o m_f m_r m_b m_a u_F u_R g_F g_R g_C g_L m_rl m_lf m_ov m_pl g_S g_O g_Y g_H m_st g_W m_rm m_fs g_M) H → va_D A (mo_W q6 qA qB qF qR qC qL qS qO qY qH qW qM cyI cyJ cyZ m_th m_o m_f m_r m_b m_a u_F u_R g_F g_R g_C g_L m_rl m_lf m_ov m_pl g_S g_O g_Y g_H m_st g_W m_rm m_fs g_M) → va_S A s.heap H locs → lv_has ls 3 [(0, .ref q6), (1, .int x1), (2, .int (0 : Int32))] → vc_X6_end_s4_0  m_r m_b g_R g_C g_L m_ov x1 → cf_X6_end_s4_0  m_r m_b g_R g_C g_L m_ov x1 = R → W p l e (headSpec wsX6_end ({ frames := 1, cells := 0, slots := 0, locals := 21 })).room s m ([.ref q6] : List Value).toArray below meth c H locs 0 0 (MQ below (mu_Q none (dC, dI) kcl (mo_W q6 qA qB qF qR qC qL qS qO qY qH qW qM cyI cyJ cyZ m_th m_o m_f m_r m_b m_a u_F u_R g_F g_R R.1 R.2.1 m_rl m_lf R.2.2 m_pl g_S g_O g_Y g_H m_st g_W m_rm m_fs g_M) A) ([.ref q6] : List Value).toArray s 0 0 A) (F0 m 4 ls []) := by
    intro  g_C g_L m_ov x1 H locs ls hP hD hS hl hV hR
    unfold cf_X6_end_s4_0 at hR
    unfold vc_X6_end_s4_0 at hV
    refine lv_iload_n hx hb dX6_end_4 rfl (lv_at hl 2 rfl) ?_
    refine lv_aload_n hx hb dX6_end_5 rfl (lv_at hl 0 rfl) ?_
    refine va_get (D := (dC, dI)) (ci := 4) (v := .int m_r) (C := RX6) (T := TX6) (N := 25) hx hb hts h1_ hown hK hP 0 rfl rfl 3 (by decide) h0_ (fun _ h9 => h9) rfl dX6_end_6 ?_
    refine lv_icmp_ge (tgt := 65) hx hb dX6_end_9 (by decide) (fun c_1 => ?_) (fun c_1 => ?_)
    · rw [if_pos c_1] at hR
      exact Ks65  g_C g_L m_ov x1 H locs ls hP hD hS (lv_sub hl [0, 1] rfl) hR
    · rw [if_neg c_1] at hR
      have hV := hV.2 c_1
      refine lv_aload_n hx hb dX6_end_12 rfl (lv_at hl 0 rfl) ?_
      refine lv_bipush (v := (32 : Int32)) hx hb dX6_end_13 (by decide +kernel) ?_
      refine rd_calli (va_runV (As := [.int (32 : Int32)]) (rest := []) ⟨hx, hb, hml, hown, hts⟩ (c_X6_bars l dC dI q6 qA qB qF qR qC qL qS qO qY qH qW qM cyI cyJ cyZ m_th m_o m_f m_r m_b m_a u_F u_R g_F g_R g_C g_L m_rl m_lf m_ov m_pl g_S g_O g_Y g_H m_st g_W m_rm m_fs g_M (32 : Int32)  ) (cwV 1 hts gX6_end_X6_bars rfl rfl rfl (by decide +kernel) ⟨Nat.le_of_ble_eq_true rfl, Nat.le_of_ble_eq_true rfl⟩) ⟨rd_blind, va_recv hK hP (ci := 4) (q0 := 0) rfl rfl, fun U hU hW => ⟨rfl, by rw [hU]; exact hP, va_K.moved hW.alike (hK.sub [0, 1, 2] rfl)⟩⟩ rfl rfl hl.1 rfl (lv_room (Nat.le_of_ble_eq_true rfl)) dX6_end_15 ⟨Nat.le_refl _, Nat.le_refl _⟩) ?_
      refine lv_if_eq (tgt := 65) hx hb dX6_end_18 (by decide) (fun c_3 => ?_) (fun c_3 => ?_)
      · rw [if_pos c_3] at hR
        exact Ks65  g_C g_L m_ov x1 H locs ls hP hD hS (lv_sub hl [0, 1] rfl) hR
      · rw [if_neg c_3] at hR
        have hV := hV.2 c_3
        refine lv_aload_n hx hb dX6_end_21 rfl (lv_at hl 0 rfl) ?_
        refine va_get (D := (dC, dI)) (ci := 4) (v := .ref qR) (C := RX6) (T := TX6) (N := 25) hx hb hts h1_ hown hK hP 0 rfl rfl 9 (by decide) h3_ (fun _ h9 => h9) rfl dX6_end_22 ?_
        refine lv_iload_n hx hb dX6_end_25 rfl (lv_at hl 2 rfl) ?_
        refine va_iald hx hb hK hP 4 0 rfl rfl (by unfold vp_in; decide +kernel) dX6_end_26 ?_
        refine lv_if_lt (tgt := 59) hx hb dX6_end_27 (by decide) (fun c_4 => ?_) (fun c_4 => ?_)
        · rw [if_pos c_4] at hR
          have hV := hV.1 c_4
          exact Ks59_0  g_C g_L m_ov x1 H locs ls hP hD hS (lv_sub hl [0, 1, 2] rfl) hV hR
        · rw [if_neg c_4] at hR
          have hV := hV.2 c_4
          refine lv_aload_n hx hb dX6_end_30 rfl (lv_at hl 0 rfl) ?_
          refine va_get (D := (dC, dI)) (ci := 4) (v := .ref qC) (C := RX6) (T := TX6) (N := 25) hx hb hts h1_ hown hK hP 0 rfl rfl 10 (by decide) h4_ (fun _ h9 => h9) rfl dX6_end_31 ?_
          refine lv_aload_n hx hb dX6_end_34 rfl (lv_at hl 0 rfl) ?_
          refine va_get (D := (dC, dI)) (ci := 4) (v := .ref qR) (C := RX6) (T := TX6) (N := 25) hx hb hts h1_ hown hK hP 0 rfl rfl 9 (by decide) h3_ (fun _ h9 => h9) rfl dX6_end_35 ?_
          refine lv_iload_n hx hb dX6_end_38 rfl (lv_at hl 2 rfl) ?_
          refine va_iald hx hb hK hP 4 0 rfl rfl (by unfold vp_in; decide +kernel) dX6_end_39 ?_
          obtain ⟨hi17, hV⟩ := hV
          refine va_iald hx hb hK hP 5 0 rfl rfl hi17 dX6_end_40 ?_
          refine lv_if_eq (tgt := 47) hx hb dX6_end_41 (by decide) (fun c_18 => ?_) (fun c_18 => ?_)
          · rw [if_pos c_18] at hR
            have hV := hV.1 c_18
            refine lv_aload_n hx hb dX6_end_47 rfl (lv_at hl 0 rfl) ?_
            refine lv_aload_n hx hb dX6_end_48 rfl (lv_at hl 0 rfl) ?_
            refine va_get (D := (dC, dI)) (ci := 4) (v := .ref qR) (C := RX6) (T := TX6) (N := 25) hx hb hts h1_ hown hK hP 0 rfl rfl 9 (by decide) h3_ (fun _ h9 => h9) rfl dX6_end_49 ?_
            refine lv_iload_n hx hb dX6_end_52 rfl (lv_at hl 2 rfl) ?_
            refine va_iald hx hb hK hP 4 0 rfl rfl (by unfold vp_in; decide +kernel) dX6_end_53 ?_
            obtain ⟨hv19, hV⟩ := hV
            refine mu_call (ws' := (mo_W q6 qA qB qF qR qC qL qS qO qY qH qW qM cyI cyJ cyZ m_th m_o m_f m_r m_b m_a u_F u_R g_F g_R ((cf_X6_toGrey g_C g_L (g_R ((0 : Int32)).toNatClampNeg)).1) ((cf_X6_toGrey g_C g_L (g_R ((0 : Int32)).toNatClampNeg)).2) m_rl m_lf m_ov m_pl g_S g_O g_Y g_H m_st g_W m_rm m_fs g_M)) (wr := []) (va_runV (As := [.int (g_R ((0 : Int32)).toNatClampNeg)]) (rest := []) ⟨hx, hb, hml, hown, hts⟩ (c_X6_toGrey l dC dI q6 qA qB qF qR qC qL qS qO qY qH qW qM cyI cyJ cyZ m_th m_o m_f m_r m_b m_a u_F u_R g_F g_R g_C g_L m_rl m_lf m_ov m_pl g_S g_O g_Y g_H m_st g_W m_rm m_fs g_M H.size (g_R ((0 : Int32)).toNatClampNeg)  hv19) (cwV 1 hts gX6_end_X6_toGrey rfl rfl rfl (by decide +kernel) ⟨Nat.le_of_ble_eq_true rfl, Nat.le_of_ble_eq_true rfl⟩) ⟨mu_blind, va_recv hK hP (ci := 4) (q0 := 0) rfl rfl, fun U hU hW => ⟨rfl, by rw [hU], by rw [hU]; exact hP, va_K.moved hW.alike (hK.sub [0, 1, 2] rfl), hD.weaken (fun _ _ _ _ => trivial)⟩⟩ rfl rfl hl.1 rfl (lv_room (Nat.le_of_ble_eq_true rfl)) dX6_end_54 ⟨Nat.le_refl _, Nat.le_refl _⟩) hP hD hS hA [0, 1, 2, 3, 4, 5, 6, 7, 8, 9, 10, 11, 12] [] [0, 1, 2, 3, 4, 5, 6, 7, 8, 9, 10, 11, 12] rfl rfl (by decide) (by decide) (by decide) rfl (by decide) rfl (fun H locs hP hD hS => ?_)
            refine W.eq (g2 := F0 m 57 ls []) rfl ?_
            exact Ks57_0  ((cf_X6_toGrey g_C g_L (g_R ((0 : Int32)).toNatClampNeg)).1) ((cf_X6_toGrey g_C g_L (g_R ((0 : Int32)).toNatClampNeg)).2) m_ov  H locs ls hP hD hS (lv_sub hl [0, 2] rfl) hV hR
          · rw [if_neg c_18] at hR
            have hV := hV.2 c_18
            refine lv_goto (tgt := 59) hx hb dX6_end_44 (by decide) ?_
            exact Ks59_0  g_C g_L m_ov x1 H locs ls hP hD hS (lv_sub hl [0, 1, 2] rfl) hV hR
  have hl := lv_entry ([.ref q6]) (n := 3) (Nat.le_of_ble_eq_true rfl)
  rw [lg_entry_eq]
  generalize (lg_sl ([.ref q6]) ++ List.replicate (3 - (lg_sl ([.ref q6])).length) Slot.unset).toArray = ls at hl ⊢
  have hl : lv_has ls 3 [(0, .ref q6)] := hl
  unfold cf_X6_end at hR
  unfold vc_X6_end at hV
  refine mu_start (A := A) (fun H locs hP hS => ?_) hP
  refine lv_iconst (v := (0 : Int32)) hx hb dX6_end_0 (by decide +kernel) ?_
  refine lv_istore_n (lv' := [(1, .int (0 : Int32)), (0, .ref q6)]) hx hb dX6_end_1 rfl hl (by decide) rfl (fun ls hl => ?_)
  refine lv_iconst (v := (0 : Int32)) hx hb dX6_end_2 (by decide +kernel) ?_
  refine lv_istore_n (lv' := [(2, .int (0 : Int32)), (1, .int (0 : Int32)), (0, .ref q6)]) hx hb dX6_end_3 rfl hl (by decide) rfl (fun ls hl => ?_)
  exact Ks4_0  g_C g_L m_ov (0 : Int32) H locs ls hP hD hS (lv_sub hl [2, 1, 0] rfl) hV hR
def cf_X6_setRoot_s37  (m_b : Int32) (g_R : Nat → Int32) (g_C : Nat → Int32) (g_L : Nat → Int32) (x1 : Int32) (x2 : Int32) : (Nat → Int32) × (Nat → Int32) × (Nat → Int32) :=
  ((upd g_R (x1).toNatClampNeg x2), g_C, g_L)
def vc_X6_setRoot_s37  (m_b : Int32) (g_R : Nat → Int32) (g_C : Nat → Int32) (g_L : Nat → Int32) (x1 : Int32) (x2 : Int32) : Prop :=
  (vp_in x1 3 ∧ True)
def cf_X6_setRoot_s19  (m_b : Int32) (g_R : Nat → Int32) (g_C : Nat → Int32) (g_L : Nat → Int32) (x1 : Int32) (x2 : Int32) (x3 : Int32) : (Nat → Int32) × (Nat → Int32) × (Nat → Int32) :=
  (if x3 = 0 then cf_X6_setRoot_s37  m_b g_R g_C g_L x1 x2 else (if (cf_X6_bars m_b (16 : Int32)) = 0 then cf_X6_setRoot_s37  m_b g_R g_C g_L x1 x2 else cf_X6_setRoot_s37  m_b g_R ((cf_X6_toGrey g_C g_L x2).1) ((cf_X6_toGrey g_C g_L x2).2) x1 x2))
def vc_X6_setRoot_s19  (m_b : Int32) (g_R : Nat → Int32) (g_C : Nat → Int32) (g_L : Nat → Int32) (x1 : Int32) (x2 : Int32) (x3 : Int32) : Prop :=
  ((x3 = 0 → vc_X6_setRoot_s37  m_b g_R g_C g_L x1 x2) ∧ (¬ x3 = 0 → (((cf_X6_bars m_b (16 : Int32)) = 0 → vc_X6_setRoot_s37  m_b g_R g_C g_L x1 x2) ∧ (¬ (cf_X6_bars m_b (16 : Int32)) = 0 → (vc_X6_toGrey g_C g_L x2 ∧ vc_X6_setRoot_s37  m_b g_R ((cf_X6_toGrey g_C g_L x2).1) ((cf_X6_toGrey g_C g_L x2).2) x1 x2)))))
def cf_X6_setRoot (m_b : Int32) (g_R : Nat → Int32) (g_C : Nat → Int32) (g_L : Nat → Int32) (a0 : Int32) (a1 : Int32) (a2 : Int32) : (Nat → Int32) × (Nat → Int32) × (Nat → Int32) :=
  (if (cf_X6_bars m_b (64 : Int32)) = 0 then cf_X6_setRoot_s19  m_b g_R g_C g_L a0 a1 a2 else cf_X6_setRoot_s19  m_b g_R ((cf_X6_toGrey g_C g_L (g_R (a0).toNatClampNeg)).1) ((cf_X6_toGrey g_C g_L (g_R (a0).toNatClampNeg)).2) a0 a1 a2)
def vc_X6_setRoot (m_b : Int32) (g_R : Nat → Int32) (g_C : Nat → Int32) (g_L : Nat → Int32) (a0 : Int32) (a1 : Int32) (a2 : Int32) : Prop :=
  (((cf_X6_bars m_b (64 : Int32)) = 0 → vc_X6_setRoot_s19  m_b g_R g_C g_L a0 a1 a2) ∧ (¬ (cf_X6_bars m_b (64 : Int32)) = 0 → (vp_in a0 3 ∧ (vc_X6_toGrey g_C g_L (g_R (a0).toNatClampNeg) ∧ vc_X6_setRoot_s19  m_b g_R ((cf_X6_toGrey g_C g_L (g_R (a0).toNatClampNeg)).1) ((cf_X6_toGrey g_C g_L (g_R (a0).toNatClampNeg)).2) a0 a1 a2))))
set_option maxHeartbeats 4000000 in
set_option maxRecDepth 100000 in
theorem c_X6_setRoot (l : Launch) (dC : Nat → ClassId) (dI : Nat → Nat → Nat) (q6 qA qB qF qR qC qL qS qO qY qH qW qM : Nat) (cyI cyJ cyZ : ClassId) (m_th : Int32) (m_o : Int32) (m_f : Int32) (m_r : Int32) (m_b : Int32) (m_a : Int32) (u_F : Nat → Int32) (u_R : Nat → Int32) (g_F : Nat → Int32) (g_R : Nat → Int32) (g_C : Nat → Int32) (g_L : Nat → Int32) (m_rl : Int32) (m_lf : Int32) (m_ov : Int32) (m_pl : Int64) (g_S : Nat → Int64) (g_O : Nat → Int32) (g_Y : Nat → Int32) (g_H : Nat → Int32) (m_st : Int32) (g_W : Nat → Int32) (m_rm : Int32) (m_fs : Int32) (g_M : Nat → Int32) (sz : Nat) (a0 : Int32) (a1 : Int32) (a2 : Int32)  (hV : vc_X6_setRoot m_b g_R g_C g_L a0 a1 a2) : Met l yX6_setRoot wsX6_setRoot ({ frames := 1, cells := 0, slots := 0, locals := 21 }) (mu_P [.ref q6, .int a0, .int a1, .int a2] sz (dC, dI) kcl (mo_W q6 qA qB qF qR qC qL qS qO qY qH qW qM cyI cyJ cyZ m_th m_o m_f m_r m_b m_a u_F u_R g_F g_R g_C g_L m_rl m_lf m_ov m_pl g_S g_O g_Y g_H m_st g_W m_rm m_fs g_M) [(cyI, .int), (cyJ, .long), (cyZ, .boolean)]) (mu_Q none (dC, dI) kcl (mo_W q6 qA qB qF qR qC qL qS qO qY qH qW qM cyI cyJ cyZ m_th m_o m_f m_r m_b m_a u_F u_R g_F ((cf_X6_setRoot m_b g_R g_C g_L a0 a1 a2).1) ((cf_X6_setRoot m_b g_R g_C g_L a0 a1 a2).2.1) ((cf_X6_setRoot m_b g_R g_C g_L a0 a1 a2).2.2) m_rl m_lf m_ov m_pl g_S g_O g_Y g_H m_st g_W m_rm m_fs g_M) (va_A (mo_W q6 qA qB qF qR qC qL qS qO qY qH qW qM cyI cyJ cyZ m_th m_o m_f m_r m_b m_a u_F u_R g_F g_R g_C g_L m_rl m_lf m_ov m_pl g_S g_O g_Y g_H m_st g_W m_rm m_fs g_M) sz)) 0 0 (va_A (mo_W q6 qA qB qF qR qC qL qS qO qY qH qW qM cyI cyJ cyZ m_th m_o m_f m_r m_b m_a u_F u_R g_F g_R g_C g_L m_rl m_lf m_ov m_pl g_S g_O g_Y g_H m_st g_W m_rm m_fs g_M) sz) := by
  refine Met.ofW (cc := cX6_setRoot) (maxL := 4) (ret := none) (by decide) rfl ?_
  intro p e s m args below meth c s₁ B hml hv
  obtain ⟨rfl, hsz, hP, hK, hD0⟩ := hv
  have hx := B.exec
  have hb := B.bytes
  have hr := B.returns
  have hts := atoms_spec (ws := wsX6_setRoot) B.pre
  have hown : s.vm.findClass RX6 = some m.cls := findClass_of_methodNamed B.named
  have hlocks := B.notSynchronized
  subst hsz
  have hD := hD0.self (sz := s.heap.size)
  generalize hAe : va_A (mo_W q6 qA qB qF qR qC qL qS qO qY qH qW qM cyI cyJ cyZ m_th m_o m_f m_r m_b m_a u_F u_R g_F g_R g_C g_L m_rl m_lf m_ov m_pl g_S g_O g_Y g_H m_st g_W m_rm m_fs g_M) s.heap.size = A at hD ⊢
  have hA : ∀ q : Nat, s.heap.size ≤ q → A q := fun q h => by rw [← hAe]; exact Or.inr h
  have hP : va_P (dC, dI) kcl (mo_W q6 qA qB qF qR qC qL qS qO qY qH qW qM cyI cyJ cyZ m_th m_o m_f m_r m_b m_a u_F u_R g_F g_R g_C g_L m_rl m_lf m_ov m_pl g_S g_O g_Y g_H m_st g_W m_rm m_fs g_M) s.heap := hP
  have h0_ : (Cond.fieldLink RX6 32 "ColourTrierModel" "root" "[I").before _ s = true := hts _ (by decide +kernel)
  have h1_ : ∀ w ∈ u_ws RX6 TX6 25, w ∈ wsX6_setRoot := fun w h => List.mem_cons_of_mem _ (List.mem_append_right _ h)
  generalize hR : (cf_X6_setRoot m_b g_R g_C g_L a0 a1 a2) = R
  have Ks37 : ∀  (g_R : Nat → Int32) (g_C : Nat → Int32) (g_L : Nat → Int32) (x1 : Int32) (x2 : Int32) (H : Heap) (locs : List Loc) (ls : Array Slot), va_P (dC, dI) kcl (mo_W q6 qA qB qF qR qC qL qS qO qY qH qW qM cyI cyJ cyZ m_th m_o m_f m_r m_b m_a u_F u_R g_F g_R g_C g_L m_rl m_lf m_ov m_pl g_S g_O g_Y g_H m_st g_W m_rm m_fs g_M) H → va_D A (mo_W q6 qA qB qF qR qC qL qS qO qY qH qW qM cyI cyJ cyZ m_th m_o m_f m_r m_b m_a u_F u_R g_F g_R g_C g_L m_rl m_lf m_ov m_pl g_S g_O g_Y g_H m_st g_W m_rm m_fs g_M) → va_S A s.heap H locs → lv_has ls 4 [(0, .ref q6), (1, .int x1), (2, .int x2)] → vc_X6_setRoot_s37  m_b g_R g_C g_L x1 x2 → cf_X6_setRoot_s37  m_b g_R g_C g_L x1 x2 = R → W p l e (headSpec wsX6_setRoot ({ frames := 1, cells := 0, slots := 0, locals := 21 })).room s m ([.ref q6, .int a0, .int a1, .int a2] : List Value).toArray below meth c H locs 0 0 (MQ below (mu_Q none (dC, dI) kcl (mo_W q6 qA qB qF qR qC qL qS qO qY qH qW qM cyI cyJ cyZ m_th m_o m_f m_r m_b m_a u_F u_R g_F R.1 R.2.1 R.2.2 m_rl m_lf m_ov m_pl g_S g_O g_Y g_H m_st g_W m_rm m_fs g_M) A) ([.ref q6, .int a0, .int a1, .int a2] : List Value).toArray s 0 0 A) (F0 m 37 ls []) := by
    intro  g_R g_C g_L x1 x2 H locs ls hP hD hS hl hV hR
    unfold cf_X6_setRoot_s37 at hR
    unfold vc_X6_setRoot_s37 at hV
    refine lv_aload_n hx hb dX6_setRoot_37 rfl (lv_at hl 0 rfl) ?_
    refine va_get (D := (dC, dI)) (ci := 4) (v := .ref qR) (C := RX6) (T := TX6) (N := 25) hx hb hts h1_ hown hK hP 0 rfl rfl 9 (by decide) h0_ (fun _ h9 => h9) rfl dX6_setRoot_38 ?_
    refine lv_iload_n hx hb dX6_setRoot_41 rfl (lv_at hl 1 rfl) ?_
    refine lv_iload_n hx hb dX6_setRoot_42 rfl (lv_at hl 2 rfl) ?_
    obtain ⟨hi3, hV⟩ := hV
    refine va_iast hx hb hK hP hD hS 4 0 rfl rfl hi3 dX6_setRoot_43 (fun H locs hP hD hS => ?_)
    have hP : va_P (dC, dI) kcl (mo_W q6 qA qB qF qR qC qL qS qO qY qH qW qM cyI cyJ cyZ m_th m_o m_f m_r m_b m_a u_F u_R g_F (upd g_R (x1).toNatClampNeg x2) g_C g_L m_rl m_lf m_ov m_pl g_S g_O g_Y g_H m_st g_W m_rm m_fs g_M) H := hP
    have hD : va_D A (mo_W q6 qA qB qF qR qC qL qS qO qY qH qW qM cyI cyJ cyZ m_th m_o m_f m_r m_b m_a u_F u_R g_F (upd g_R (x1).toNatClampNeg x2) g_C g_L m_rl m_lf m_ov m_pl g_S g_O g_Y g_H m_st g_W m_rm m_fs g_M) := hD
    rw [← hR]
    exact W.vret hx hb hr (fun t ht _ => ⟨rfl, by rw [ht]; exact hP, hS.F ht⟩) hS.2.2 dX6_setRoot_44
  have Ks19 : ∀  (g_R : Nat → Int32) (g_C : Nat → Int32) (g_L : Nat → Int32) (x1 : Int32) (x2 : Int32) (x3 : Int32) (H : Heap) (locs : List Loc) (ls : Array Slot), va_P (dC, dI) kcl (mo_W q6 qA qB qF qR qC qL qS qO qY qH qW qM cyI cyJ cyZ m_th m_o m_f m_r m_b m_a u_F u_R g_F g_R g_C g_L m_rl m_lf m_ov m_pl g_S g_O g_Y g_H m_st g_W m_rm m_fs g_M) H → va_D A (mo_W q6 qA qB qF qR qC qL qS qO qY qH qW qM cyI cyJ cyZ m_th m_o m_f m_r m_b m_a u_F u_R g_F g_R g_C g_L m_rl m_lf m_ov m_pl g_S g_O g_Y g_H m_st g_W m_rm m_fs g_M) → va_S A s.heap H locs → lv_has ls 4 [(0, .ref q6), (1, .int x1), (2, .int x2), (3, .int x3)] → vc_X6_setRoot_s19  m_b g_R g_C g_L x1 x2 x3 → cf_X6_setRoot_s19  m_b g_R g_C g_L x1 x2 x3 = R → W p l e (headSpec wsX6_setRoot ({ frames := 1, cells := 0, slots := 0, locals := 21 })).room s m ([.ref q6, .int a0, .int a1, .int a2] : List Value).toArray below meth c H locs 0 0 (MQ below (mu_Q none (dC, dI) kcl (mo_W q6 qA qB qF qR qC qL qS qO qY qH qW qM cyI cyJ cyZ m_th m_o m_f m_r m_b m_a u_F u_R g_F R.1 R.2.1 R.2.2 m_rl m_lf m_ov m_pl g_S g_O g_Y g_H m_st g_W m_rm m_fs g_M) A) ([.ref q6, .int a0, .int a1, .int a2] : List Value).toArray s 0 0 A) (F0 m 19 ls []) := by
    intro  g_R g_C g_L x1 x2 x3 H locs ls hP hD hS hl hV hR
    unfold cf_X6_setRoot_s19 at hR
    unfold vc_X6_setRoot_s19 at hV
    refine lv_iload_n hx hb dX6_setRoot_19 rfl (lv_at hl 3 rfl) ?_
    refine lv_if_eq (tgt := 37) hx hb dX6_setRoot_20 (by decide) (fun c_2 => ?_) (fun c_2 => ?_)
    · rw [if_pos c_2] at hR
      have hV := hV.1 c_2
      exact Ks37  g_R g_C g_L x1 x2 H locs ls hP hD hS (lv_sub hl [0, 1, 2] rfl) hV hR
    · rw [if_neg c_2] at hR
      have hV := hV.2 c_2
      refine lv_aload_n hx hb dX6_setRoot_23 rfl (lv_at hl 0 rfl) ?_
      refine lv_bipush (v := (16 : Int32)) hx hb dX6_setRoot_24 (by decide +kernel) ?_
      refine rd_calli (va_runV (As := [.int (16 : Int32)]) (rest := []) ⟨hx, hb, hml, hown, hts⟩ (c_X6_bars l dC dI q6 qA qB qF qR qC qL qS qO qY qH qW qM cyI cyJ cyZ m_th m_o m_f m_r m_b m_a u_F u_R g_F g_R g_C g_L m_rl m_lf m_ov m_pl g_S g_O g_Y g_H m_st g_W m_rm m_fs g_M (16 : Int32)  ) (cwV 1 hts gX6_setRoot_X6_bars rfl rfl rfl (by decide +kernel) ⟨Nat.le_of_ble_eq_true rfl, Nat.le_of_ble_eq_true rfl⟩) ⟨rd_blind, va_recv hK hP (ci := 4) (q0 := 0) rfl rfl, fun U hU hW => ⟨rfl, by rw [hU]; exact hP, va_K.moved hW.alike (hK.sub [0, 1, 2] rfl)⟩⟩ rfl rfl hl.1 rfl (lv_room (Nat.le_of_ble_eq_true rfl)) dX6_setRoot_26 ⟨Nat.le_refl _, Nat.le_refl _⟩) ?_
      refine lv_if_eq (tgt := 37) hx hb dX6_setRoot_29 (by decide) (fun c_4 => ?_) (fun c_4 => ?_)
      · rw [if_pos c_4] at hR
        have hV := hV.1 c_4
        exact Ks37  g_R g_C g_L x1 x2 H locs ls hP hD hS (lv_sub hl [0, 1, 2] rfl) hV hR
      · rw [if_neg c_4] at hR
        have hV := hV.2 c_4
        refine lv_aload_n hx hb dX6_setRoot_32 rfl (lv_at hl 0 rfl) ?_
        refine lv_iload_n hx hb dX6_setRoot_33 rfl (lv_at hl 2 rfl) ?_
        obtain ⟨hv5, hV⟩ := hV
        refine mu_call (ws' := (mo_W q6 qA qB qF qR qC qL qS qO qY qH qW qM cyI cyJ cyZ m_th m_o m_f m_r m_b m_a u_F u_R g_F g_R ((cf_X6_toGrey g_C g_L x2).1) ((cf_X6_toGrey g_C g_L x2).2) m_rl m_lf m_ov m_pl g_S g_O g_Y g_H m_st g_W m_rm m_fs g_M)) (wr := []) (va_runV (As := [.int x2]) (rest := []) ⟨hx, hb, hml, hown, hts⟩ (c_X6_toGrey l dC dI q6 qA qB qF qR qC qL qS qO qY qH qW qM cyI cyJ cyZ m_th m_o m_f m_r m_b m_a u_F u_R g_F g_R g_C g_L m_rl m_lf m_ov m_pl g_S g_O g_Y g_H m_st g_W m_rm m_fs g_M H.size x2  hv5) (cwV 1 hts gX6_setRoot_X6_toGrey rfl rfl rfl (by decide +kernel) ⟨Nat.le_of_ble_eq_true rfl, Nat.le_of_ble_eq_true rfl⟩) ⟨mu_blind, va_recv hK hP (ci := 4) (q0 := 0) rfl rfl, fun U hU hW => ⟨rfl, by rw [hU], by rw [hU]; exact hP, va_K.moved hW.alike (hK.sub [0, 1, 2] rfl), hD.weaken (fun _ _ _ _ => trivial)⟩⟩ rfl rfl hl.1 rfl (lv_room (Nat.le_of_ble_eq_true rfl)) dX6_setRoot_34 ⟨Nat.le_refl _, Nat.le_refl _⟩) hP hD hS hA [0, 1, 2, 3, 4, 5, 6, 7, 8, 9, 10, 11, 12] [] [0, 1, 2, 3, 4, 5, 6, 7, 8, 9, 10, 11, 12] rfl rfl (by decide) (by decide) (by decide) rfl (by decide) rfl (fun H locs hP hD hS => ?_)
        refine W.eq (g2 := F0 m 37 ls []) rfl ?_
        exact Ks37  g_R ((cf_X6_toGrey g_C g_L x2).1) ((cf_X6_toGrey g_C g_L x2).2) x1 x2 H locs ls hP hD hS (lv_sub hl [0, 1, 2] rfl) hV hR
  have hl := lv_entry ([.ref q6, .int a0, .int a1, .int a2]) (n := 4) (Nat.le_of_ble_eq_true rfl)
  rw [lg_entry_eq]
  generalize (lg_sl ([.ref q6, .int a0, .int a1, .int a2]) ++ List.replicate (4 - (lg_sl ([.ref q6, .int a0, .int a1, .int a2])).length) Slot.unset).toArray = ls at hl ⊢
  have hl : lv_has ls 4 [(0, .ref q6), (1, .int a0), (2, .int a1), (3, .int a2)] := hl
  unfold cf_X6_setRoot at hR
  unfold vc_X6_setRoot at hV
  refine mu_start (A := A) (fun H locs hP hS => ?_) hP
  refine lv_aload_n hx hb dX6_setRoot_0 rfl (lv_at hl 0 rfl) ?_
  refine lv_bipush (v := (64 : Int32)) hx hb dX6_setRoot_1 (by decide +kernel) ?_
  refine rd_calli (va_runV (As := [.int (64 : Int32)]) (rest := []) ⟨hx, hb, hml, hown, hts⟩ (c_X6_bars l dC dI q6 qA qB qF qR qC qL qS qO qY qH qW qM cyI cyJ cyZ m_th m_o m_f m_r m_b m_a u_F u_R g_F g_R g_C g_L m_rl m_lf m_ov m_pl g_S g_O g_Y g_H m_st g_W m_rm m_fs g_M (64 : Int32)  ) (cwV 1 hts gX6_setRoot_X6_bars rfl rfl rfl (by decide +kernel) ⟨Nat.le_of_ble_eq_true rfl, Nat.le_of_ble_eq_true rfl⟩) ⟨rd_blind, va_recv hK hP (ci := 4) (q0 := 0) rfl rfl, fun U hU hW => ⟨rfl, by rw [hU]; exact hP, va_K.moved hW.alike (hK.sub [0, 1, 2] rfl)⟩⟩ rfl rfl hl.1 rfl (lv_room (Nat.le_of_ble_eq_true rfl)) dX6_setRoot_3 ⟨Nat.le_refl _, Nat.le_refl _⟩) ?_
  refine lv_if_eq (tgt := 19) hx hb dX6_setRoot_6 (by decide) (fun c_1 => ?_) (fun c_1 => ?_)
  · rw [if_pos c_1] at hR
    have hV := hV.1 c_1
    exact Ks19  g_R g_C g_L a0 a1 a2 H locs ls hP hD hS (lv_sub hl [0, 1, 2, 3] rfl) hV hR
  · rw [if_neg c_1] at hR
    have hV := hV.2 c_1
    refine lv_aload_n hx hb dX6_setRoot_9 rfl (lv_at hl 0 rfl) ?_
    refine lv_aload_n hx hb dX6_setRoot_10 rfl (lv_at hl 0 rfl) ?_
    refine va_get (D := (dC, dI)) (ci := 4) (v := .ref qR) (C := RX6) (T := TX6) (N := 25) hx hb hts h1_ hown hK hP 0 rfl rfl 9 (by decide) h0_ (fun _ h9 => h9) rfl dX6_setRoot_11 ?_
    refine lv_iload_n hx hb dX6_setRoot_14 rfl (lv_at hl 1 rfl) ?_
    obtain ⟨hi6, hV⟩ := hV
    refine va_iald hx hb hK hP 4 0 rfl rfl hi6 dX6_setRoot_15 ?_
    obtain ⟨hv7, hV⟩ := hV
    refine mu_call (ws' := (mo_W q6 qA qB qF qR qC qL qS qO qY qH qW qM cyI cyJ cyZ m_th m_o m_f m_r m_b m_a u_F u_R g_F g_R ((cf_X6_toGrey g_C g_L (g_R (a0).toNatClampNeg)).1) ((cf_X6_toGrey g_C g_L (g_R (a0).toNatClampNeg)).2) m_rl m_lf m_ov m_pl g_S g_O g_Y g_H m_st g_W m_rm m_fs g_M)) (wr := []) (va_runV (As := [.int (g_R (a0).toNatClampNeg)]) (rest := []) ⟨hx, hb, hml, hown, hts⟩ (c_X6_toGrey l dC dI q6 qA qB qF qR qC qL qS qO qY qH qW qM cyI cyJ cyZ m_th m_o m_f m_r m_b m_a u_F u_R g_F g_R g_C g_L m_rl m_lf m_ov m_pl g_S g_O g_Y g_H m_st g_W m_rm m_fs g_M H.size (g_R (a0).toNatClampNeg)  hv7) (cwV 1 hts gX6_setRoot_X6_toGrey rfl rfl rfl (by decide +kernel) ⟨Nat.le_of_ble_eq_true rfl, Nat.le_of_ble_eq_true rfl⟩) ⟨mu_blind, va_recv hK hP (ci := 4) (q0 := 0) rfl rfl, fun U hU hW => ⟨rfl, by rw [hU], by rw [hU]; exact hP, va_K.moved hW.alike (hK.sub [0, 1, 2] rfl), hD.weaken (fun _ _ _ _ => trivial)⟩⟩ rfl rfl hl.1 rfl (lv_room (Nat.le_of_ble_eq_true rfl)) dX6_setRoot_16 ⟨Nat.le_refl _, Nat.le_refl _⟩) hP hD hS hA [0, 1, 2, 3, 4, 5, 6, 7, 8, 9, 10, 11, 12] [] [0, 1, 2, 3, 4, 5, 6, 7, 8, 9, 10, 11, 12] rfl rfl (by decide) (by decide) (by decide) rfl (by decide) rfl (fun H locs hP hD hS => ?_)
    refine W.eq (g2 := F0 m 19 ls []) rfl ?_
    exact Ks19  g_R ((cf_X6_toGrey g_C g_L (g_R (a0).toNatClampNeg)).1) ((cf_X6_toGrey g_C g_L (g_R (a0).toNatClampNeg)).2) a0 a1 a2 H locs ls hP hD hS (lv_sub hl [0, 1, 2, 3] rfl) hV hR
def cf_X6_store_s129  (m_b : Int32) (g_F : Nat → Int32) (g_R : Nat → Int32) (g_C : Nat → Int32) (g_L : Nat → Int32) (x3 : Int32) (x4 : Int32) (x5 : Int32) : (Nat → Int32) × (Nat → Int32) × (Nat → Int32) :=
  ((upd g_F ((((2 : Int32) * x4) + x3)).toNatClampNeg x5), g_C, g_L)
def vc_X6_store_s129  (m_b : Int32) (g_F : Nat → Int32) (g_R : Nat → Int32) (g_C : Nat → Int32) (g_L : Nat → Int32) (x3 : Int32) (x4 : Int32) (x5 : Int32) : Prop :=
  (vp_in (((2 : Int32) * x4) + x3) 8 ∧ True)
def cf_X6_store_s78  (m_b : Int32) (g_F : Nat → Int32) (g_R : Nat → Int32) (g_C : Nat → Int32) (g_L : Nat → Int32) (x3 : Int32) (x4 : Int32) (x5 : Int32) : (Nat → Int32) × (Nat → Int32) × (Nat → Int32) :=
  (if (cf_X6_bars m_b (8 : Int32)) = 0 then cf_X6_store_s129  m_b g_F g_R g_C g_L x3 x4 x5 else (if (g_C (x4).toNatClampNeg) = (2 : Int32) then (if x5 < 0 then cf_X6_store_s129  m_b g_F g_R g_C g_L x3 x4 x5 else (if (g_C (x5).toNatClampNeg) = 0 then cf_X6_store_s129  m_b g_F g_R (upd g_C (x4).toNatClampNeg (1 : Int32)) (upd g_L (x4).toNatClampNeg (0 : Int32)) x3 x4 x5 else cf_X6_store_s129  m_b g_F g_R g_C g_L x3 x4 x5)) else cf_X6_store_s129  m_b g_F g_R g_C g_L x3 x4 x5))
def vc_X6_store_s78  (m_b : Int32) (g_F : Nat → Int32) (g_R : Nat → Int32) (g_C : Nat → Int32) (g_L : Nat → Int32) (x3 : Int32) (x4 : Int32) (x5 : Int32) : Prop :=
  (((cf_X6_bars m_b (8 : Int32)) = 0 → vc_X6_store_s129  m_b g_F g_R g_C g_L x3 x4 x5) ∧ (¬ (cf_X6_bars m_b (8 : Int32)) = 0 → (vp_in x4 4 ∧ (((g_C (x4).toNatClampNeg) = (2 : Int32) → ((x5 < 0 → vc_X6_store_s129  m_b g_F g_R g_C g_L x3 x4 x5) ∧ (¬ x5 < 0 → (vp_in x5 4 ∧ (((g_C (x5).toNatClampNeg) = 0 → (vp_in x4 4 ∧ (vp_in x4 4 ∧ vc_X6_store_s129  m_b g_F g_R (upd g_C (x4).toNatClampNeg (1 : Int32)) (upd g_L (x4).toNatClampNeg (0 : Int32)) x3 x4 x5))) ∧ (¬ (g_C (x5).toNatClampNeg) = 0 → vc_X6_store_s129  m_b g_F g_R g_C g_L x3 x4 x5)))))) ∧ (¬ (g_C (x4).toNatClampNeg) = (2 : Int32) → vc_X6_store_s129  m_b g_F g_R g_C g_L x3 x4 x5)))))
def cf_X6_store_s53  (m_b : Int32) (g_F : Nat → Int32) (g_R : Nat → Int32) (g_C : Nat → Int32) (g_L : Nat → Int32) (x3 : Int32) (x4 : Int32) (x5 : Int32) : (Nat → Int32) × (Nat → Int32) × (Nat → Int32) :=
  (if (cf_X6_bars m_b (4 : Int32)) = 0 then cf_X6_store_s78  m_b g_F g_R g_C g_L x3 x4 x5 else (if (g_C (x4).toNatClampNeg) = (2 : Int32) then cf_X6_store_s78  m_b g_F g_R ((cf_X6_toGrey g_C g_L x5).1) ((cf_X6_toGrey g_C g_L x5).2) x3 x4 x5 else cf_X6_store_s78  m_b g_F g_R g_C g_L x3 x4 x5))
def vc_X6_store_s53  (m_b : Int32) (g_F : Nat → Int32) (g_R : Nat → Int32) (g_C : Nat → Int32) (g_L : Nat → Int32) (x3 : Int32) (x4 : Int32) (x5 : Int32) : Prop :=
  (((cf_X6_bars m_b (4 : Int32)) = 0 → vc_X6_store_s78  m_b g_F g_R g_C g_L x3 x4 x5) ∧ (¬ (cf_X6_bars m_b (4 : Int32)) = 0 → (vp_in x4 4 ∧ (((g_C (x4).toNatClampNeg) = (2 : Int32) → (vc_X6_toGrey g_C g_L x5 ∧ vc_X6_store_s78  m_b g_F g_R ((cf_X6_toGrey g_C g_L x5).1) ((cf_X6_toGrey g_C g_L x5).2) x3 x4 x5)) ∧ (¬ (g_C (x4).toNatClampNeg) = (2 : Int32) → vc_X6_store_s78  m_b g_F g_R g_C g_L x3 x4 x5)))))
def cf_X6_store_s39  (m_b : Int32) (g_F : Nat → Int32) (g_R : Nat → Int32) (g_C : Nat → Int32) (g_L : Nat → Int32) (x3 : Int32) (x4 : Int32) (x5 : Int32) : (Nat → Int32) × (Nat → Int32) × (Nat → Int32) :=
  (if (cf_X6_bars m_b (2 : Int32)) = 0 then cf_X6_store_s53  m_b g_F g_R g_C g_L x3 x4 x5 else cf_X6_store_s53  m_b g_F g_R ((cf_X6_toGrey g_C g_L x5).1) ((cf_X6_toGrey g_C g_L x5).2) x3 x4 x5)
def vc_X6_store_s39  (m_b : Int32) (g_F : Nat → Int32) (g_R : Nat → Int32) (g_C : Nat → Int32) (g_L : Nat → Int32) (x3 : Int32) (x4 : Int32) (x5 : Int32) : Prop :=
  (((cf_X6_bars m_b (2 : Int32)) = 0 → vc_X6_store_s53  m_b g_F g_R g_C g_L x3 x4 x5) ∧ (¬ (cf_X6_bars m_b (2 : Int32)) = 0 → (vc_X6_toGrey g_C g_L x5 ∧ vc_X6_store_s53  m_b g_F g_R ((cf_X6_toGrey g_C g_L x5).1) ((cf_X6_toGrey g_C g_L x5).2) x3 x4 x5)))
def cf_X6_store (m_b : Int32) (g_F : Nat → Int32) (g_R : Nat → Int32) (g_C : Nat → Int32) (g_L : Nat → Int32) (a0 : Int32) (a1 : Int32) (a2 : Int32) : (Nat → Int32) × (Nat → Int32) × (Nat → Int32) :=
  (if (cf_X6_bars m_b (1 : Int32)) = 0 then cf_X6_store_s39  m_b g_F g_R g_C g_L a2 (g_R (a0).toNatClampNeg) (g_R (a1).toNatClampNeg) else cf_X6_store_s39  m_b g_F g_R ((cf_X6_toGrey g_C g_L (g_F ((((2 : Int32) * (g_R (a0).toNatClampNeg)) + a2)).toNatClampNeg)).1) ((cf_X6_toGrey g_C g_L (g_F ((((2 : Int32) * (g_R (a0).toNatClampNeg)) + a2)).toNatClampNeg)).2) a2 (g_R (a0).toNatClampNeg) (g_R (a1).toNatClampNeg))
def vc_X6_store (m_b : Int32) (g_F : Nat → Int32) (g_R : Nat → Int32) (g_C : Nat → Int32) (g_L : Nat → Int32) (a0 : Int32) (a1 : Int32) (a2 : Int32) : Prop :=
  (vp_in a0 3 ∧ (vp_in a1 3 ∧ (((cf_X6_bars m_b (1 : Int32)) = 0 → vc_X6_store_s39  m_b g_F g_R g_C g_L a2 (g_R (a0).toNatClampNeg) (g_R (a1).toNatClampNeg)) ∧ (¬ (cf_X6_bars m_b (1 : Int32)) = 0 → (vp_in (((2 : Int32) * (g_R (a0).toNatClampNeg)) + a2) 8 ∧ (vc_X6_toGrey g_C g_L (g_F ((((2 : Int32) * (g_R (a0).toNatClampNeg)) + a2)).toNatClampNeg) ∧ vc_X6_store_s39  m_b g_F g_R ((cf_X6_toGrey g_C g_L (g_F ((((2 : Int32) * (g_R (a0).toNatClampNeg)) + a2)).toNatClampNeg)).1) ((cf_X6_toGrey g_C g_L (g_F ((((2 : Int32) * (g_R (a0).toNatClampNeg)) + a2)).toNatClampNeg)).2) a2 (g_R (a0).toNatClampNeg) (g_R (a1).toNatClampNeg)))))))
set_option maxHeartbeats 4000000 in
set_option maxRecDepth 100000 in
theorem c_X6_store (l : Launch) (dC : Nat → ClassId) (dI : Nat → Nat → Nat) (q6 qA qB qF qR qC qL qS qO qY qH qW qM : Nat) (cyI cyJ cyZ : ClassId) (m_th : Int32) (m_o : Int32) (m_f : Int32) (m_r : Int32) (m_b : Int32) (m_a : Int32) (u_F : Nat → Int32) (u_R : Nat → Int32) (g_F : Nat → Int32) (g_R : Nat → Int32) (g_C : Nat → Int32) (g_L : Nat → Int32) (m_rl : Int32) (m_lf : Int32) (m_ov : Int32) (m_pl : Int64) (g_S : Nat → Int64) (g_O : Nat → Int32) (g_Y : Nat → Int32) (g_H : Nat → Int32) (m_st : Int32) (g_W : Nat → Int32) (m_rm : Int32) (m_fs : Int32) (g_M : Nat → Int32) (sz : Nat) (a0 : Int32) (a1 : Int32) (a2 : Int32)  (hV : vc_X6_store m_b g_F g_R g_C g_L a0 a1 a2) : Met l yX6_store wsX6_store ({ frames := 1, cells := 0, slots := 0, locals := 21 }) (mu_P [.ref q6, .int a0, .int a1, .int a2] sz (dC, dI) kcl (mo_W q6 qA qB qF qR qC qL qS qO qY qH qW qM cyI cyJ cyZ m_th m_o m_f m_r m_b m_a u_F u_R g_F g_R g_C g_L m_rl m_lf m_ov m_pl g_S g_O g_Y g_H m_st g_W m_rm m_fs g_M) [(cyI, .int), (cyJ, .long), (cyZ, .boolean)]) (mu_Q none (dC, dI) kcl (mo_W q6 qA qB qF qR qC qL qS qO qY qH qW qM cyI cyJ cyZ m_th m_o m_f m_r m_b m_a u_F u_R ((cf_X6_store m_b g_F g_R g_C g_L a0 a1 a2).1) g_R ((cf_X6_store m_b g_F g_R g_C g_L a0 a1 a2).2.1) ((cf_X6_store m_b g_F g_R g_C g_L a0 a1 a2).2.2) m_rl m_lf m_ov m_pl g_S g_O g_Y g_H m_st g_W m_rm m_fs g_M) (va_A (mo_W q6 qA qB qF qR qC qL qS qO qY qH qW qM cyI cyJ cyZ m_th m_o m_f m_r m_b m_a u_F u_R g_F g_R g_C g_L m_rl m_lf m_ov m_pl g_S g_O g_Y g_H m_st g_W m_rm m_fs g_M) sz)) 0 0 (va_A (mo_W q6 qA qB qF qR qC qL qS qO qY qH qW qM cyI cyJ cyZ m_th m_o m_f m_r m_b m_a u_F u_R g_F g_R g_C g_L m_rl m_lf m_ov m_pl g_S g_O g_Y g_H m_st g_W m_rm m_fs g_M) sz) := by
  refine Met.ofW (cc := cX6_store) (maxL := 6) (ret := none) (by decide) rfl ?_
  intro p e s m args below meth c s₁ B hml hv
  obtain ⟨rfl, hsz, hP, hK, hD0⟩ := hv
  have hx := B.exec
  have hb := B.bytes
  have hr := B.returns
  have hts := atoms_spec (ws := wsX6_store) B.pre
  have hown : s.vm.findClass RX6 = some m.cls := findClass_of_methodNamed B.named
  have hlocks := B.notSynchronized
  subst hsz
  have hD := hD0.self (sz := s.heap.size)
  generalize hAe : va_A (mo_W q6 qA qB qF qR qC qL qS qO qY qH qW qM cyI cyJ cyZ m_th m_o m_f m_r m_b m_a u_F u_R g_F g_R g_C g_L m_rl m_lf m_ov m_pl g_S g_O g_Y g_H m_st g_W m_rm m_fs g_M) s.heap.size = A at hD ⊢
  have hA : ∀ q : Nat, s.heap.size ≤ q → A q := fun q h => by rw [← hAe]; exact Or.inr h
  have hP : va_P (dC, dI) kcl (mo_W q6 qA qB qF qR qC qL qS qO qY qH qW qM cyI cyJ cyZ m_th m_o m_f m_r m_b m_a u_F u_R g_F g_R g_C g_L m_rl m_lf m_ov m_pl g_S g_O g_Y g_H m_st g_W m_rm m_fs g_M) s.heap := hP
  have h0_ : (Cond.fieldLink RX6 32 "ColourTrierModel" "root" "[I").before _ s = true := hts _ (by decide +kernel)
  have h1_ : ∀ w ∈ u_ws RX6 TX6 25, w ∈ wsX6_store := fun w h => List.mem_cons_of_mem _ (List.mem_append_right _ h)
  have h2_ : (Cond.fieldLink RX6 29 "ColourTrierModel" "field" "[I").before _ s = true := hts _ (by decide +kernel)
  have h3_ : (Cond.fieldLink RX6 35 "ColourTrierModel" "colour" "[I").before _ s = true := hts _ (by decide +kernel)
  have h4_ : (Cond.fieldLink RX6 38 "ColourTrierModel" "looked" "[I").before _ s = true := hts _ (by decide +kernel)
  generalize hR : (cf_X6_store m_b g_F g_R g_C g_L a0 a1 a2) = R
  have Ks129 : ∀  (g_F : Nat → Int32) (g_C : Nat → Int32) (g_L : Nat → Int32) (x3 : Int32) (x4 : Int32) (x5 : Int32) (H : Heap) (locs : List Loc) (ls : Array Slot), va_P (dC, dI) kcl (mo_W q6 qA qB qF qR qC qL qS qO qY qH qW qM cyI cyJ cyZ m_th m_o m_f m_r m_b m_a u_F u_R g_F g_R g_C g_L m_rl m_lf m_ov m_pl g_S g_O g_Y g_H m_st g_W m_rm m_fs g_M) H → va_D A (mo_W q6 qA qB qF qR qC qL qS qO qY qH qW qM cyI cyJ cyZ m_th m_o m_f m_r m_b m_a u_F u_R g_F g_R g_C g_L m_rl m_lf m_ov m_pl g_S g_O g_Y g_H m_st g_W m_rm m_fs g_M) → va_S A s.heap H locs → lv_has ls 6 [(0, .ref q6), (3, .int x3), (4, .int x4), (5, .int x5)] → vc_X6_store_s129  m_b g_F g_R g_C g_L x3 x4 x5 → cf_X6_store_s129  m_b g_F g_R g_C g_L x3 x4 x5 = R → W p l e (headSpec wsX6_store ({ frames := 1, cells := 0, slots := 0, locals := 21 })).room s m ([.ref q6, .int a0, .int a1, .int a2] : List Value).toArray below meth c H locs 0 0 (MQ below (mu_Q none (dC, dI) kcl (mo_W q6 qA qB qF qR qC qL qS qO qY qH qW qM cyI cyJ cyZ m_th m_o m_f m_r m_b m_a u_F u_R R.1 g_R R.2.1 R.2.2 m_rl m_lf m_ov m_pl g_S g_O g_Y g_H m_st g_W m_rm m_fs g_M) A) ([.ref q6, .int a0, .int a1, .int a2] : List Value).toArray s 0 0 A) (F0 m 129 ls []) := by
    intro  g_F g_C g_L x3 x4 x5 H locs ls hP hD hS hl hV hR
    unfold cf_X6_store_s129 at hR
    unfold vc_X6_store_s129 at hV
    refine lv_aload_n hx hb dX6_store_129 rfl (lv_at hl 0 rfl) ?_
    refine va_get (D := (dC, dI)) (ci := 4) (v := .ref qF) (C := RX6) (T := TX6) (N := 25) hx hb hts h1_ hown hK hP 0 rfl rfl 8 (by decide) h2_ (fun _ h9 => h9) rfl dX6_store_130 ?_
    refine lv_iconst (v := (2 : Int32)) hx hb dX6_store_133 (by decide +kernel) ?_
    refine lv_iload hx hb dX6_store_134 (lv_at hl 2 rfl) ?_
    refine lv_imul hx hb dX6_store_136 ?_
    refine lv_iload_n hx hb dX6_store_137 rfl (lv_at hl 1 rfl) ?_
    refine lv_iadd hx hb dX6_store_138 ?_
    refine lv_iload hx hb dX6_store_139 (lv_at hl 3 rfl) ?_
    obtain ⟨hi7, hV⟩ := hV
    refine va_iast hx hb hK hP hD hS 3 0 rfl rfl hi7 dX6_store_141 (fun H locs hP hD hS => ?_)
    have hP : va_P (dC, dI) kcl (mo_W q6 qA qB qF qR qC qL qS qO qY qH qW qM cyI cyJ cyZ m_th m_o m_f m_r m_b m_a u_F u_R (upd g_F ((((2 : Int32) * x4) + x3)).toNatClampNeg x5) g_R g_C g_L m_rl m_lf m_ov m_pl g_S g_O g_Y g_H m_st g_W m_rm m_fs g_M) H := hP
    have hD : va_D A (mo_W q6 qA qB qF qR qC qL qS qO qY qH qW qM cyI cyJ cyZ m_th m_o m_f m_r m_b m_a u_F u_R (upd g_F ((((2 : Int32) * x4) + x3)).toNatClampNeg x5) g_R g_C g_L m_rl m_lf m_ov m_pl g_S g_O g_Y g_H m_st g_W m_rm m_fs g_M) := hD
    rw [← hR]
    exact W.vret hx hb hr (fun t ht _ => ⟨rfl, by rw [ht]; exact hP, hS.F ht⟩) hS.2.2 dX6_store_142
  have Ks78 : ∀  (g_F : Nat → Int32) (g_C : Nat → Int32) (g_L : Nat → Int32) (x3 : Int32) (x4 : Int32) (x5 : Int32) (H : Heap) (locs : List Loc) (ls : Array Slot), va_P (dC, dI) kcl (mo_W q6 qA qB qF qR qC qL qS qO qY qH qW qM cyI cyJ cyZ m_th m_o m_f m_r m_b m_a u_F u_R g_F g_R g_C g_L m_rl m_lf m_ov m_pl g_S g_O g_Y g_H m_st g_W m_rm m_fs g_M) H → va_D A (mo_W q6 qA qB qF qR qC qL qS qO qY qH qW qM cyI cyJ cyZ m_th m_o m_f m_r m_b m_a u_F u_R g_F g_R g_C g_L m_rl m_lf m_ov m_pl g_S g_O g_Y g_H m_st g_W m_rm m_fs g_M) → va_S A s.heap H locs → lv_has ls 6 [(0, .ref q6), (3, .int x3), (4, .int x4), (5, .int x5)] → vc_X6_store_s78  m_b g_F g_R g_C g_L x3 x4 x5 → cf_X6_store_s78  m_b g_F g_R g_C g_L x3 x4 x5 = R → W p l e (headSpec wsX6_store ({ frames := 1, cells := 0, slots := 0, locals := 21 })).room s m ([.ref q6, .int a0, .int a1, .int a2] : List Value).toArray below meth c H locs 0 0 (MQ below (mu_Q none (dC, dI) kcl (mo_W q6 qA qB qF qR qC qL qS qO qY qH qW qM cyI cyJ cyZ m_th m_o m_f m_r m_b m_a u_F u_R R.1 g_R R.2.1 R.2.2 m_rl m_lf m_ov m_pl g_S g_O g_Y g_H m_st g_W m_rm m_fs g_M) A) ([.ref q6, .int a0, .int a1, .int a2] : List Value).toArray s 0 0 A) (F0 m 78 ls []) := by
    intro  g_F g_C g_L x3 x4 x5 H locs ls hP hD hS hl hV hR
    unfold cf_X6_store_s78 at hR
    unfold vc_X6_store_s78 at hV
    refine lv_aload_n hx hb dX6_store_78 rfl (lv_at hl 0 rfl) ?_
    refine lv_bipush (v := (8 : Int32)) hx hb dX6_store_79 (by decide +kernel) ?_
    refine rd_calli (va_runV (As := [.int (8 : Int32)]) (rest := []) ⟨hx, hb, hml, hown, hts⟩ (c_X6_bars l dC dI q6 qA qB qF qR qC qL qS qO qY qH qW qM cyI cyJ cyZ m_th m_o m_f m_r m_b m_a u_F u_R g_F g_R g_C g_L m_rl m_lf m_ov m_pl g_S g_O g_Y g_H m_st g_W m_rm m_fs g_M (8 : Int32)  ) (cwV 1 hts gX6_store_X6_bars rfl rfl rfl (by decide +kernel) ⟨Nat.le_of_ble_eq_true rfl, Nat.le_of_ble_eq_true rfl⟩) ⟨rd_blind, va_recv hK hP (ci := 4) (q0 := 0) rfl rfl, fun U hU hW => ⟨rfl, by rw [hU]; exact hP, va_K.moved hW.alike (hK.sub [0, 1, 2] rfl)⟩⟩ rfl rfl hl.1 rfl (lv_room (Nat.le_of_ble_eq_true rfl)) dX6_store_81 ⟨Nat.le_refl _, Nat.le_refl _⟩) ?_
    refine lv_if_eq (tgt := 129) hx hb dX6_store_84 (by decide) (fun c_6 => ?_) (fun c_6 => ?_)
    · rw [if_pos c_6] at hR
      have hV := hV.1 c_6
      exact Ks129  g_F g_C g_L x3 x4 x5 H locs ls hP hD hS (lv_sub hl [0, 1, 2, 3] rfl) hV hR
    · rw [if_neg c_6] at hR
      have hV := hV.2 c_6
      refine lv_aload_n hx hb dX6_store_87 rfl (lv_at hl 0 rfl) ?_
      refine va_get (D := (dC, dI)) (ci := 4) (v := .ref qC) (C := RX6) (T := TX6) (N := 25) hx hb hts h1_ hown hK hP 0 rfl rfl 10 (by decide) h3_ (fun _ h9 => h9) rfl dX6_store_88 ?_
      refine lv_iload hx hb dX6_store_91 (lv_at hl 2 rfl) ?_
      obtain ⟨hi8, hV⟩ := hV
      refine va_iald hx hb hK hP 5 0 rfl rfl hi8 dX6_store_93 ?_
      refine lv_iconst (v := (2 : Int32)) hx hb dX6_store_94 (by decide +kernel) ?_
      refine lv_icmp_ne (tgt := 129) hx hb dX6_store_95 (by decide) (fun c_9 => ?_) (fun c_9 => ?_)
      · rw [if_neg c_9] at hR
        have hV := hV.2 c_9
        exact Ks129  g_F g_C g_L x3 x4 x5 H locs ls hP hD hS (lv_sub hl [0, 1, 2, 3] rfl) hV hR
      · rw [if_pos c_9] at hR
        have hV := hV.1 c_9
        refine lv_iload hx hb dX6_store_98 (lv_at hl 3 rfl) ?_
        refine lv_if_lt (tgt := 129) hx hb dX6_store_100 (by decide) (fun c_10 => ?_) (fun c_10 => ?_)
        · rw [if_pos c_10] at hR
          have hV := hV.1 c_10
          exact Ks129  g_F g_C g_L x3 x4 x5 H locs ls hP hD hS (lv_sub hl [0, 1, 2, 3] rfl) hV hR
        · rw [if_neg c_10] at hR
          have hV := hV.2 c_10
          refine lv_aload_n hx hb dX6_store_103 rfl (lv_at hl 0 rfl) ?_
          refine va_get (D := (dC, dI)) (ci := 4) (v := .ref qC) (C := RX6) (T := TX6) (N := 25) hx hb hts h1_ hown hK hP 0 rfl rfl 10 (by decide) h3_ (fun _ h9 => h9) rfl dX6_store_104 ?_
          refine lv_iload hx hb dX6_store_107 (lv_at hl 3 rfl) ?_
          obtain ⟨hi11, hV⟩ := hV
          refine va_iald hx hb hK hP 5 0 rfl rfl hi11 dX6_store_109 ?_
          refine lv_if_ne (tgt := 129) hx hb dX6_store_110 (by decide) (fun c_12 => ?_) (fun c_12 => ?_)
          · rw [if_neg c_12] at hR
            have hV := hV.2 c_12
            exact Ks129  g_F g_C g_L x3 x4 x5 H locs ls hP hD hS (lv_sub hl [0, 1, 2, 3] rfl) hV hR
          · rw [if_pos c_12] at hR
            have hV := hV.1 c_12
            refine lv_aload_n hx hb dX6_store_113 rfl (lv_at hl 0 rfl) ?_
            refine va_get (D := (dC, dI)) (ci := 4) (v := .ref qC) (C := RX6) (T := TX6) (N := 25) hx hb hts h1_ hown hK hP 0 rfl rfl 10 (by decide) h3_ (fun _ h9 => h9) rfl dX6_store_114 ?_
            refine lv_iload hx hb dX6_store_117 (lv_at hl 2 rfl) ?_
            refine lv_iconst (v := (1 : Int32)) hx hb dX6_store_119 (by decide +kernel) ?_
            obtain ⟨hi13, hV⟩ := hV
            refine va_iast hx hb hK hP hD hS 5 0 rfl rfl hi13 dX6_store_120 (fun H locs hP hD hS => ?_)
            have hP : va_P (dC, dI) kcl (mo_W q6 qA qB qF qR qC qL qS qO qY qH qW qM cyI cyJ cyZ m_th m_o m_f m_r m_b m_a u_F u_R g_F g_R (upd g_C (x4).toNatClampNeg (1 : Int32)) g_L m_rl m_lf m_ov m_pl g_S g_O g_Y g_H m_st g_W m_rm m_fs g_M) H := hP
            have hD : va_D A (mo_W q6 qA qB qF qR qC qL qS qO qY qH qW qM cyI cyJ cyZ m_th m_o m_f m_r m_b m_a u_F u_R g_F g_R (upd g_C (x4).toNatClampNeg (1 : Int32)) g_L m_rl m_lf m_ov m_pl g_S g_O g_Y g_H m_st g_W m_rm m_fs g_M) := hD
            refine lv_aload_n hx hb dX6_store_121 rfl (lv_at hl 0 rfl) ?_
            refine va_get (D := (dC, dI)) (ci := 4) (v := .ref qL) (C := RX6) (T := TX6) (N := 25) hx hb hts h1_ hown hK hP 0 rfl rfl 11 (by decide) h4_ (fun _ h9 => h9) rfl dX6_store_122 ?_
            refine lv_iload hx hb dX6_store_125 (lv_at hl 2 rfl) ?_
            refine lv_iconst (v := (0 : Int32)) hx hb dX6_store_127 (by decide +kernel) ?_
            obtain ⟨hi14, hV⟩ := hV
            refine va_iast hx hb hK hP hD hS 6 0 rfl rfl hi14 dX6_store_128 (fun H locs hP hD hS => ?_)
            have hP : va_P (dC, dI) kcl (mo_W q6 qA qB qF qR qC qL qS qO qY qH qW qM cyI cyJ cyZ m_th m_o m_f m_r m_b m_a u_F u_R g_F g_R (upd g_C (x4).toNatClampNeg (1 : Int32)) (upd g_L (x4).toNatClampNeg (0 : Int32)) m_rl m_lf m_ov m_pl g_S g_O g_Y g_H m_st g_W m_rm m_fs g_M) H := hP
            have hD : va_D A (mo_W q6 qA qB qF qR qC qL qS qO qY qH qW qM cyI cyJ cyZ m_th m_o m_f m_r m_b m_a u_F u_R g_F g_R (upd g_C (x4).toNatClampNeg (1 : Int32)) (upd g_L (x4).toNatClampNeg (0 : Int32)) m_rl m_lf m_ov m_pl g_S g_O g_Y g_H m_st g_W m_rm m_fs g_M) := hD
            exact Ks129  g_F (upd g_C (x4).toNatClampNeg (1 : Int32)) (upd g_L (x4).toNatClampNeg (0 : Int32)) x3 x4 x5 H locs ls hP hD hS (lv_sub hl [0, 1, 2, 3] rfl) hV hR
  have Ks53 : ∀  (g_F : Nat → Int32) (g_C : Nat → Int32) (g_L : Nat → Int32) (x3 : Int32) (x4 : Int32) (x5 : Int32) (H : Heap) (locs : List Loc) (ls : Array Slot), va_P (dC, dI) kcl (mo_W q6 qA qB qF qR qC qL qS qO qY qH qW qM cyI cyJ cyZ m_th m_o m_f m_r m_b m_a u_F u_R g_F g_R g_C g_L m_rl m_lf m_ov m_pl g_S g_O g_Y g_H m_st g_W m_rm m_fs g_M) H → va_D A (mo_W q6 qA qB qF qR qC qL qS qO qY qH qW qM cyI cyJ cyZ m_th m_o m_f m_r m_b m_a u_F u_R g_F g_R g_C g_L m_rl m_lf m_ov m_pl g_S g_O g_Y g_H m_st g_W m_rm m_fs g_M) → va_S A s.heap H locs → lv_has ls 6 [(0, .ref q6), (3, .int x3), (4, .int x4), (5, .int x5)] → vc_X6_store_s53  m_b g_F g_R g_C g_L x3 x4 x5 → cf_X6_store_s53  m_b g_F g_R g_C g_L x3 x4 x5 = R → W p l e (headSpec wsX6_store ({ frames := 1, cells := 0, slots := 0, locals := 21 })).room s m ([.ref q6, .int a0, .int a1, .int a2] : List Value).toArray below meth c H locs 0 0 (MQ below (mu_Q none (dC, dI) kcl (mo_W q6 qA qB qF qR qC qL qS qO qY qH qW qM cyI cyJ cyZ m_th m_o m_f m_r m_b m_a u_F u_R R.1 g_R R.2.1 R.2.2 m_rl m_lf m_ov m_pl g_S g_O g_Y g_H m_st g_W m_rm m_fs g_M) A) ([.ref q6, .int a0, .int a1, .int a2] : List Value).toArray s 0 0 A) (F0 m 53 ls []) := by
    intro  g_F g_C g_L x3 x4 x5 H locs ls hP hD hS hl hV hR
    unfold cf_X6_store_s53 at hR
    unfold vc_X6_store_s53 at hV
    refine lv_aload_n hx hb dX6_store_53 rfl (lv_at hl 0 rfl) ?_
    refine lv_iconst (v := (4 : Int32)) hx hb dX6_store_54 (by decide +kernel) ?_
    refine rd_calli (va_runV (As := [.int (4 : Int32)]) (rest := []) ⟨hx, hb, hml, hown, hts⟩ (c_X6_bars l dC dI q6 qA qB qF qR qC qL qS qO qY qH qW qM cyI cyJ cyZ m_th m_o m_f m_r m_b m_a u_F u_R g_F g_R g_C g_L m_rl m_lf m_ov m_pl g_S g_O g_Y g_H m_st g_W m_rm m_fs g_M (4 : Int32)  ) (cwV 1 hts gX6_store_X6_bars rfl rfl rfl (by decide +kernel) ⟨Nat.le_of_ble_eq_true rfl, Nat.le_of_ble_eq_true rfl⟩) ⟨rd_blind, va_recv hK hP (ci := 4) (q0 := 0) rfl rfl, fun U hU hW => ⟨rfl, by rw [hU]; exact hP, va_K.moved hW.alike (hK.sub [0, 1, 2] rfl)⟩⟩ rfl rfl hl.1 rfl (lv_room (Nat.le_of_ble_eq_true rfl)) dX6_store_55 ⟨Nat.le_refl _, Nat.le_refl _⟩) ?_
    refine lv_if_eq (tgt := 78) hx hb dX6_store_58 (by decide) (fun c_5 => ?_) (fun c_5 => ?_)
    · rw [if_pos c_5] at hR
      have hV := hV.1 c_5
      exact Ks78  g_F g_C g_L x3 x4 x5 H locs ls hP hD hS (lv_sub hl [0, 1, 2, 3] rfl) hV hR
    · rw [if_neg c_5] at hR
      have hV := hV.2 c_5
      refine lv_aload_n hx hb dX6_store_61 rfl (lv_at hl 0 rfl) ?_
      refine va_get (D := (dC, dI)) (ci := 4) (v := .ref qC) (C := RX6) (T := TX6) (N := 25) hx hb hts h1_ hown hK hP 0 rfl rfl 10 (by decide) h3_ (fun _ h9 => h9) rfl dX6_store_62 ?_
      refine lv_iload hx hb dX6_store_65 (lv_at hl 2 rfl) ?_
      obtain ⟨hi15, hV⟩ := hV
      refine va_iald hx hb hK hP 5 0 rfl rfl hi15 dX6_store_67 ?_
      refine lv_iconst (v := (2 : Int32)) hx hb dX6_store_68 (by decide +kernel) ?_
      refine lv_icmp_ne (tgt := 78) hx hb dX6_store_69 (by decide) (fun c_16 => ?_) (fun c_16 => ?_)
      · rw [if_neg c_16] at hR
        have hV := hV.2 c_16
        exact Ks78  g_F g_C g_L x3 x4 x5 H locs ls hP hD hS (lv_sub hl [0, 1, 2, 3] rfl) hV hR
      · rw [if_pos c_16] at hR
        have hV := hV.1 c_16
        refine lv_aload_n hx hb dX6_store_72 rfl (lv_at hl 0 rfl) ?_
        refine lv_iload hx hb dX6_store_73 (lv_at hl 3 rfl) ?_
        obtain ⟨hv17, hV⟩ := hV
        refine mu_call (ws' := (mo_W q6 qA qB qF qR qC qL qS qO qY qH qW qM cyI cyJ cyZ m_th m_o m_f m_r m_b m_a u_F u_R g_F g_R ((cf_X6_toGrey g_C g_L x5).1) ((cf_X6_toGrey g_C g_L x5).2) m_rl m_lf m_ov m_pl g_S g_O g_Y g_H m_st g_W m_rm m_fs g_M)) (wr := []) (va_runV (As := [.int x5]) (rest := []) ⟨hx, hb, hml, hown, hts⟩ (c_X6_toGrey l dC dI q6 qA qB qF qR qC qL qS qO qY qH qW qM cyI cyJ cyZ m_th m_o m_f m_r m_b m_a u_F u_R g_F g_R g_C g_L m_rl m_lf m_ov m_pl g_S g_O g_Y g_H m_st g_W m_rm m_fs g_M H.size x5  hv17) (cwV 1 hts gX6_store_X6_toGrey rfl rfl rfl (by decide +kernel) ⟨Nat.le_of_ble_eq_true rfl, Nat.le_of_ble_eq_true rfl⟩) ⟨mu_blind, va_recv hK hP (ci := 4) (q0 := 0) rfl rfl, fun U hU hW => ⟨rfl, by rw [hU], by rw [hU]; exact hP, va_K.moved hW.alike (hK.sub [0, 1, 2] rfl), hD.weaken (fun _ _ _ _ => trivial)⟩⟩ rfl rfl hl.1 rfl (lv_room (Nat.le_of_ble_eq_true rfl)) dX6_store_75 ⟨Nat.le_refl _, Nat.le_refl _⟩) hP hD hS hA [0, 1, 2, 3, 4, 5, 6, 7, 8, 9, 10, 11, 12] [] [0, 1, 2, 3, 4, 5, 6, 7, 8, 9, 10, 11, 12] rfl rfl (by decide) (by decide) (by decide) rfl (by decide) rfl (fun H locs hP hD hS => ?_)
        refine W.eq (g2 := F0 m 78 ls []) rfl ?_
        exact Ks78  g_F ((cf_X6_toGrey g_C g_L x5).1) ((cf_X6_toGrey g_C g_L x5).2) x3 x4 x5 H locs ls hP hD hS (lv_sub hl [0, 1, 2, 3] rfl) hV hR
  have Ks39 : ∀  (g_F : Nat → Int32) (g_C : Nat → Int32) (g_L : Nat → Int32) (x3 : Int32) (x4 : Int32) (x5 : Int32) (H : Heap) (locs : List Loc) (ls : Array Slot), va_P (dC, dI) kcl (mo_W q6 qA qB qF qR qC qL qS qO qY qH qW qM cyI cyJ cyZ m_th m_o m_f m_r m_b m_a u_F u_R g_F g_R g_C g_L m_rl m_lf m_ov m_pl g_S g_O g_Y g_H m_st g_W m_rm m_fs g_M) H → va_D A (mo_W q6 qA qB qF qR qC qL qS qO qY qH qW qM cyI cyJ cyZ m_th m_o m_f m_r m_b m_a u_F u_R g_F g_R g_C g_L m_rl m_lf m_ov m_pl g_S g_O g_Y g_H m_st g_W m_rm m_fs g_M) → va_S A s.heap H locs → lv_has ls 6 [(0, .ref q6), (3, .int x3), (4, .int x4), (5, .int x5)] → vc_X6_store_s39  m_b g_F g_R g_C g_L x3 x4 x5 → cf_X6_store_s39  m_b g_F g_R g_C g_L x3 x4 x5 = R → W p l e (headSpec wsX6_store ({ frames := 1, cells := 0, slots := 0, locals := 21 })).room s m ([.ref q6, .int a0, .int a1, .int a2] : List Value).toArray below meth c H locs 0 0 (MQ below (mu_Q none (dC, dI) kcl (mo_W q6 qA qB qF qR qC qL qS qO qY qH qW qM cyI cyJ cyZ m_th m_o m_f m_r m_b m_a u_F u_R R.1 g_R R.2.1 R.2.2 m_rl m_lf m_ov m_pl g_S g_O g_Y g_H m_st g_W m_rm m_fs g_M) A) ([.ref q6, .int a0, .int a1, .int a2] : List Value).toArray s 0 0 A) (F0 m 39 ls []) := by
    intro  g_F g_C g_L x3 x4 x5 H locs ls hP hD hS hl hV hR
    unfold cf_X6_store_s39 at hR
    unfold vc_X6_store_s39 at hV
    refine lv_aload_n hx hb dX6_store_39 rfl (lv_at hl 0 rfl) ?_
    refine lv_iconst (v := (2 : Int32)) hx hb dX6_store_40 (by decide +kernel) ?_
    refine rd_calli (va_runV (As := [.int (2 : Int32)]) (rest := []) ⟨hx, hb, hml, hown, hts⟩ (c_X6_bars l dC dI q6 qA qB qF qR qC qL qS qO qY qH qW qM cyI cyJ cyZ m_th m_o m_f m_r m_b m_a u_F u_R g_F g_R g_C g_L m_rl m_lf m_ov m_pl g_S g_O g_Y g_H m_st g_W m_rm m_fs g_M (2 : Int32)  ) (cwV 1 hts gX6_store_X6_bars rfl rfl rfl (by decide +kernel) ⟨Nat.le_of_ble_eq_true rfl, Nat.le_of_ble_eq_true rfl⟩) ⟨rd_blind, va_recv hK hP (ci := 4) (q0 := 0) rfl rfl, fun U hU hW => ⟨rfl, by rw [hU]; exact hP, va_K.moved hW.alike (hK.sub [0, 1, 2] rfl)⟩⟩ rfl rfl hl.1 rfl (lv_room (Nat.le_of_ble_eq_true rfl)) dX6_store_41 ⟨Nat.le_refl _, Nat.le_refl _⟩) ?_
    refine lv_if_eq (tgt := 53) hx hb dX6_store_44 (by decide) (fun c_4 => ?_) (fun c_4 => ?_)
    · rw [if_pos c_4] at hR
      have hV := hV.1 c_4
      exact Ks53  g_F g_C g_L x3 x4 x5 H locs ls hP hD hS (lv_sub hl [0, 1, 2, 3] rfl) hV hR
    · rw [if_neg c_4] at hR
      have hV := hV.2 c_4
      refine lv_aload_n hx hb dX6_store_47 rfl (lv_at hl 0 rfl) ?_
      refine lv_iload hx hb dX6_store_48 (lv_at hl 3 rfl) ?_
      obtain ⟨hv18, hV⟩ := hV
      refine mu_call (ws' := (mo_W q6 qA qB qF qR qC qL qS qO qY qH qW qM cyI cyJ cyZ m_th m_o m_f m_r m_b m_a u_F u_R g_F g_R ((cf_X6_toGrey g_C g_L x5).1) ((cf_X6_toGrey g_C g_L x5).2) m_rl m_lf m_ov m_pl g_S g_O g_Y g_H m_st g_W m_rm m_fs g_M)) (wr := []) (va_runV (As := [.int x5]) (rest := []) ⟨hx, hb, hml, hown, hts⟩ (c_X6_toGrey l dC dI q6 qA qB qF qR qC qL qS qO qY qH qW qM cyI cyJ cyZ m_th m_o m_f m_r m_b m_a u_F u_R g_F g_R g_C g_L m_rl m_lf m_ov m_pl g_S g_O g_Y g_H m_st g_W m_rm m_fs g_M H.size x5  hv18) (cwV 1 hts gX6_store_X6_toGrey rfl rfl rfl (by decide +kernel) ⟨Nat.le_of_ble_eq_true rfl, Nat.le_of_ble_eq_true rfl⟩) ⟨mu_blind, va_recv hK hP (ci := 4) (q0 := 0) rfl rfl, fun U hU hW => ⟨rfl, by rw [hU], by rw [hU]; exact hP, va_K.moved hW.alike (hK.sub [0, 1, 2] rfl), hD.weaken (fun _ _ _ _ => trivial)⟩⟩ rfl rfl hl.1 rfl (lv_room (Nat.le_of_ble_eq_true rfl)) dX6_store_50 ⟨Nat.le_refl _, Nat.le_refl _⟩) hP hD hS hA [0, 1, 2, 3, 4, 5, 6, 7, 8, 9, 10, 11, 12] [] [0, 1, 2, 3, 4, 5, 6, 7, 8, 9, 10, 11, 12] rfl rfl (by decide) (by decide) (by decide) rfl (by decide) rfl (fun H locs hP hD hS => ?_)
      refine W.eq (g2 := F0 m 53 ls []) rfl ?_
      exact Ks53  g_F ((cf_X6_toGrey g_C g_L x5).1) ((cf_X6_toGrey g_C g_L x5).2) x3 x4 x5 H locs ls hP hD hS (lv_sub hl [0, 1, 2, 3] rfl) hV hR
  have hl := lv_entry ([.ref q6, .int a0, .int a1, .int a2]) (n := 6) (Nat.le_of_ble_eq_true rfl)
  rw [lg_entry_eq]
  generalize (lg_sl ([.ref q6, .int a0, .int a1, .int a2]) ++ List.replicate (6 - (lg_sl ([.ref q6, .int a0, .int a1, .int a2])).length) Slot.unset).toArray = ls at hl ⊢
  have hl : lv_has ls 6 [(0, .ref q6), (1, .int a0), (2, .int a1), (3, .int a2)] := hl
  unfold cf_X6_store at hR
  unfold vc_X6_store at hV
  refine mu_start (A := A) (fun H locs hP hS => ?_) hP
  refine lv_aload_n hx hb dX6_store_0 rfl (lv_at hl 0 rfl) ?_
  refine va_get (D := (dC, dI)) (ci := 4) (v := .ref qR) (C := RX6) (T := TX6) (N := 25) hx hb hts h1_ hown hK hP 0 rfl rfl 9 (by decide) h0_ (fun _ h9 => h9) rfl dX6_store_1 ?_
  refine lv_iload_n hx hb dX6_store_4 rfl (lv_at hl 1 rfl) ?_
  obtain ⟨hi1, hV⟩ := hV
  refine va_iald hx hb hK hP 4 0 rfl rfl hi1 dX6_store_5 ?_
  refine lv_istore (lv' := [(4, .int (g_R (a0).toNatClampNeg)), (0, .ref q6), (1, .int a0), (2, .int a1), (3, .int a2)]) hx hb dX6_store_6 hl (by decide) rfl (fun ls hl => ?_)
  refine lv_aload_n hx hb dX6_store_8 rfl (lv_at hl 1 rfl) ?_
  refine va_get (D := (dC, dI)) (ci := 4) (v := .ref qR) (C := RX6) (T := TX6) (N := 25) hx hb hts h1_ hown hK hP 0 rfl rfl 9 (by decide) h0_ (fun _ h9 => h9) rfl dX6_store_9 ?_
  refine lv_iload_n hx hb dX6_store_12 rfl (lv_at hl 3 rfl) ?_
  obtain ⟨hi2, hV⟩ := hV
  refine va_iald hx hb hK hP 4 0 rfl rfl hi2 dX6_store_13 ?_
  refine lv_istore (lv' := [(5, .int (g_R (a1).toNatClampNeg)), (4, .int (g_R (a0).toNatClampNeg)), (0, .ref q6), (1, .int a0), (2, .int a1), (3, .int a2)]) hx hb dX6_store_14 hl (by decide) rfl (fun ls hl => ?_)
  refine lv_aload_n hx hb dX6_store_16 rfl (lv_at hl 2 rfl) ?_
  refine lv_iconst (v := (1 : Int32)) hx hb dX6_store_17 (by decide +kernel) ?_
  refine rd_calli (va_runV (As := [.int (1 : Int32)]) (rest := []) ⟨hx, hb, hml, hown, hts⟩ (c_X6_bars l dC dI q6 qA qB qF qR qC qL qS qO qY qH qW qM cyI cyJ cyZ m_th m_o m_f m_r m_b m_a u_F u_R g_F g_R g_C g_L m_rl m_lf m_ov m_pl g_S g_O g_Y g_H m_st g_W m_rm m_fs g_M (1 : Int32)  ) (cwV 1 hts gX6_store_X6_bars rfl rfl rfl (by decide +kernel) ⟨Nat.le_of_ble_eq_true rfl, Nat.le_of_ble_eq_true rfl⟩) ⟨rd_blind, va_recv hK hP (ci := 4) (q0 := 0) rfl rfl, fun U hU hW => ⟨rfl, by rw [hU]; exact hP, va_K.moved hW.alike (hK.sub [0, 1, 2] rfl)⟩⟩ rfl rfl hl.1 rfl (lv_room (Nat.le_of_ble_eq_true rfl)) dX6_store_18 ⟨Nat.le_refl _, Nat.le_refl _⟩) ?_
  refine lv_if_eq (tgt := 39) hx hb dX6_store_21 (by decide) (fun c_3 => ?_) (fun c_3 => ?_)
  · rw [if_pos c_3] at hR
    have hV := hV.1 c_3
    exact Ks39  g_F g_C g_L a2 (g_R (a0).toNatClampNeg) (g_R (a1).toNatClampNeg) H locs ls hP hD hS (lv_sub hl [2, 5, 1, 0] rfl) hV hR
  · rw [if_neg c_3] at hR
    have hV := hV.2 c_3
    refine lv_aload_n hx hb dX6_store_24 rfl (lv_at hl 2 rfl) ?_
    refine lv_aload_n hx hb dX6_store_25 rfl (lv_at hl 2 rfl) ?_
    refine va_get (D := (dC, dI)) (ci := 4) (v := .ref qF) (C := RX6) (T := TX6) (N := 25) hx hb hts h1_ hown hK hP 0 rfl rfl 8 (by decide) h2_ (fun _ h9 => h9) rfl dX6_store_26 ?_
    refine lv_iconst (v := (2 : Int32)) hx hb dX6_store_29 (by decide +kernel) ?_
    refine lv_iload hx hb dX6_store_30 (lv_at hl 1 rfl) ?_
    refine lv_imul hx hb dX6_store_32 ?_
    refine lv_iload_n hx hb dX6_store_33 rfl (lv_at hl 5 rfl) ?_
    refine lv_iadd hx hb dX6_store_34 ?_
    obtain ⟨hi19, hV⟩ := hV
    refine va_iald hx hb hK hP 3 0 rfl rfl hi19 dX6_store_35 ?_
    obtain ⟨hv20, hV⟩ := hV
    refine mu_call (ws' := (mo_W q6 qA qB qF qR qC qL qS qO qY qH qW qM cyI cyJ cyZ m_th m_o m_f m_r m_b m_a u_F u_R g_F g_R ((cf_X6_toGrey g_C g_L (g_F ((((2 : Int32) * (g_R (a0).toNatClampNeg)) + a2)).toNatClampNeg)).1) ((cf_X6_toGrey g_C g_L (g_F ((((2 : Int32) * (g_R (a0).toNatClampNeg)) + a2)).toNatClampNeg)).2) m_rl m_lf m_ov m_pl g_S g_O g_Y g_H m_st g_W m_rm m_fs g_M)) (wr := []) (va_runV (As := [.int (g_F ((((2 : Int32) * (g_R (a0).toNatClampNeg)) + a2)).toNatClampNeg)]) (rest := []) ⟨hx, hb, hml, hown, hts⟩ (c_X6_toGrey l dC dI q6 qA qB qF qR qC qL qS qO qY qH qW qM cyI cyJ cyZ m_th m_o m_f m_r m_b m_a u_F u_R g_F g_R g_C g_L m_rl m_lf m_ov m_pl g_S g_O g_Y g_H m_st g_W m_rm m_fs g_M H.size (g_F ((((2 : Int32) * (g_R (a0).toNatClampNeg)) + a2)).toNatClampNeg)  hv20) (cwV 1 hts gX6_store_X6_toGrey rfl rfl rfl (by decide +kernel) ⟨Nat.le_of_ble_eq_true rfl, Nat.le_of_ble_eq_true rfl⟩) ⟨mu_blind, va_recv hK hP (ci := 4) (q0 := 0) rfl rfl, fun U hU hW => ⟨rfl, by rw [hU], by rw [hU]; exact hP, va_K.moved hW.alike (hK.sub [0, 1, 2] rfl), hD.weaken (fun _ _ _ _ => trivial)⟩⟩ rfl rfl hl.1 rfl (lv_room (Nat.le_of_ble_eq_true rfl)) dX6_store_36 ⟨Nat.le_refl _, Nat.le_refl _⟩) hP hD hS hA [0, 1, 2, 3, 4, 5, 6, 7, 8, 9, 10, 11, 12] [] [0, 1, 2, 3, 4, 5, 6, 7, 8, 9, 10, 11, 12] rfl rfl (by decide) (by decide) (by decide) rfl (by decide) rfl (fun H locs hP hD hS => ?_)
    refine W.eq (g2 := F0 m 39 ls []) rfl ?_
    exact Ks39  g_F ((cf_X6_toGrey g_C g_L (g_F ((((2 : Int32) * (g_R (a0).toNatClampNeg)) + a2)).toNatClampNeg)).1) ((cf_X6_toGrey g_C g_L (g_F ((((2 : Int32) * (g_R (a0).toNatClampNeg)) + a2)).toNatClampNeg)).2) a2 (g_R (a0).toNatClampNeg) (g_R (a1).toNatClampNeg) H locs ls hP hD hS (lv_sub hl [2, 5, 1, 0] rfl) hV hR

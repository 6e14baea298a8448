/-! THE LAW: both sides beside one another -/
abbrev la_W (qx q5 q2 q1 q3 qs qo qh qw q6 qA qB qF qR qC qL qS qO qY qH qW qM : Nat) (cyI cyJ cyZ : ClassId) (g_X : Nat → Int64) (w_o : Int32) (w_f : Int32) (w_r : Int32) (w_b : Int32) (w_a : Int32) (w_l : Int64) (t_S : Nat → Int64) (t_O : Nat → Int32) (t_H : Nat → Int32) (s_n : Int32) (t_W : Nat → Int32) (s_k : Int32) (v_s : Int64) (m_th : Int32) (m_o : Int32) (m_f : Int32) (m_r : Int32) (m_b : Int32) (m_a : Int32) (u_F : Nat → Int32) (u_R : Nat → Int32) (g_F : Nat → Int32) (g_R : Nat → Int32) (g_C : Nat → Int32) (g_L : Nat → Int32) (m_rl : Int32) (m_lf : Int32) (m_ov : Int32) (m_pl : Int64) (g_S : Nat → Int64) (g_O : Nat → Int32) (g_Y : Nat → Int32) (g_H : Nat → Int32) (m_st : Int32) (g_W : Nat → Int32) (m_rm : Int32) (m_fs : Int32) (g_M : Nat → Int32) : va_W :=
  lw_W qx q5 q2 q1 q3 qs qo qh qw cyI cyJ g_X w_o w_f w_r w_b w_a w_l t_S t_O t_H s_n t_W s_k v_s ++ mo_W q6 qA qB qF qR qC qL qS qO qY qH qW qM cyI cyJ cyZ m_th m_o m_f m_r m_b m_a u_F u_R g_F g_R g_C g_L m_rl m_lf m_ov m_pl g_S g_O g_Y g_H m_st g_W m_rm m_fs g_M
def la_P (dC : Nat → ClassId) (dI : Nat → Nat → Nat) (qx q5 q2 q1 q3 qs qo qh qw q6 qA qB qF qR qC qL qS qO qY qH qW qM : Nat) (cyI cyJ cyZ : ClassId) (A : Nat → Prop) (H0 H : Heap) (locs : List Loc) : Prop :=
  ∃ (o f r b a L : Nat) (E D : ab_D) (g_F g_R g_C g_L t_W g_W : Nat → Int32) (g_X t_S : Nat → Int64) (t_O t_H : Nat → Int32) (sn m_th rl lf ov : Int32) (g_S : Nat → Int64) (g_O g_Y g_H : Nat → Int32) (m_st : Int32) (g_M : Nat → Int32), LI o f r b a L E D g_F g_R g_C g_L t_W g_W ∧ va_P (dC, dI) kcl (la_W qx q5 q2 q1 q3 qs qo qh qw q6 qA qB qF qR qC qL qS qO qY qH qW qM cyI cyJ cyZ g_X (nI o) (nI f) (nI r) (nI b) (nI a) (ab_s (ab_1 E 0)) t_S t_O t_H sn t_W (nI L) (ab_s D) m_th (nI o) (nI f) (nI r) (nI b) (nI a) (ma_F E) (ma_R E) g_F g_R g_C g_L rl lf ov (ab_n D) g_S g_O g_Y g_H m_st g_W (nI L) sn g_M) H ∧ va_D A (la_W qx q5 q2 q1 q3 qs qo qh qw q6 qA qB qF qR qC qL qS qO qY qH qW qM cyI cyJ cyZ g_X (nI o) (nI f) (nI r) (nI b) (nI a) (ab_s (ab_1 E 0)) t_S t_O t_H sn t_W (nI L) (ab_s D) m_th (nI o) (nI f) (nI r) (nI b) (nI a) (ma_F E) (ma_R E) g_F g_R g_C g_L rl lf ov (ab_n D) g_S g_O g_Y g_H m_st g_W (nI L) sn g_M) ∧ va_S A H0 H locs
def la_F (p : Program) (l : Launch) (R : Room) (s : State) (m : MethodId) (args : Array Value) (c : Code) (dC : Nat → ClassId) (dI : Nat → Nat → Nat) (cyI cyJ cyZ : ClassId) (A : Nat → Prop) (b0 N : Nat) (xs : Nat → Int32) : Prop :=
  p.tables.exec = Jvm.exec ∧ c.code = cL_law ∧ c.maxLocals = 7 ∧ s.vm.findClass RL = some m.cls ∧ (∀ w ∈ wsL_law, w.before args s = true) ∧ va_X b0 N xs s s.heap ∧ b0 < s.heap.size ∧ ¬ A b0 ∧ (∀ q : Nat, s.heap.size ≤ q → A q) ∧ va_K (dC, dI) kcl [(cyI, .int), (cyJ, .long), (cyZ, .boolean)] s ∧ ex_Z A s s.heap ∧ l.stackTraces = false ∧ 11 ≤ R.frames ∧ 442 ≤ R.locals ∧ 601024 ≤ R.cells ∧ 7293034 ≤ R.slots
theorem xk_A {T : Type} : xl_k (.error ex_A : Except String T) = 1 := by
  show (if ex_A = ex_S then (2 : Int32) else 1) = 1
  rw [if_neg (by decide +kernel)]
theorem xk_I {T : Type} : xl_k (.error ex_I : Except String T) = 1 := by
  show (if ex_I = ex_S then (2 : Int32) else 1) = 1
  rw [if_neg (by decide +kernel)]
theorem xk_S {T : Type} : xl_k (.error ex_S : Except String T) = 2 := by
  show (if ex_S = ex_S then (2 : Int32) else 1) = 2
  rw [if_pos rfl]
theorem xk_u (g : Nat → Int64) (k : Nat) (x : Int64) : vp_updL g k x k = x := if_pos rfl
theorem xk_in : vp_in (0 : Int32) 1 := vp_in_nI (n := 0) (by omega) (by omega)
section XS
variable {p : Program} {l : Launch} {e : Env} {R : Room} {s : State} {m : MethodId} {args : Array Value} {below : List Frame} {meth : Method} {c : Code} {H : Heap} {locs : List Loc} {cells slots mc ms : Nat} {Q : State → Prop}
variable {pc : Nat} {ls : Array Slot} {rest st0 : List Value} {a : Array Value} {D : va_G} {cl : List vw_C} {A0 : Nat → Prop} {H0 : Heap} {ws wc wr w1 ws' : va_W}
theorem xs_call {v v0 : Int32} (hv : v = v0) (hr : vx_Run p l e R s m args below meth c H locs cells slots mc ms (F0 m pc ls st0) rest (va_Qi (fun k (_ : Unit) => k = v) (fun _ t => va_P D cl w1 t.heap) (va_A wc H.size) a) (fun _ _ _ => False) (va_A wc H.size)) (hmc : mc ≤ 3) (hms : ms ≤ 18) (hP : va_P D cl ws H) (hD : va_D A0 ws) (hS : va_S A0 H0 H locs) (hA : ∀ q, H0.size ≤ q → A0 q)
    (isC isR isP : List Nat) (hC : isC.map (fun i => ws[i]?) = wc.map some) (hR : isR.map (fun i => ws[i]?) = wr.map some) (hnC : va_nd isC = true) (hn : va_nd isR = true) (hdis : ∀ i ∈ isR, i ∉ isC) (had : w1.map (·.1) = wc.map (·.1)) (hnP : va_nd isP = true) (hPm : isP.map (fun i => (wr ++ w1)[i]?) = ws'.map some)
    (kk : ∀ (H1 : Heap) (locs1 : List Loc), va_P D cl ws' H1 → va_D A0 ws' → va_S A0 H0 H1 locs1 → W p l e R s m args below meth c H1 locs1 (cells + 3) (slots + 18) Q (F0 m (pc + 3) ls (.int v0 :: rest))) : W p l e R s m args below meth c H locs cells slots Q (F0 m pc ls st0) := by
  intro T hT X
  have hF := va_free (wc := wc) hD hS hA isC hC
  have hDc := (hD.sub isC hnC hC).self (sz := H.size)
  rcases hr T hT X with ⟨v', st₀, t, T', L, h0, X', hL, e1, e2, ⟨⟨r, u, hv', hp, hb⟩, hF1⟩, st⟩ | ⟨q, st₀, t, T', L, E, ce, h0, X', hL, e1, e2, hf, _⟩
  · cases hv'
    have hp : r = v := hp
    subst hp; subst hv
    obtain ⟨k1, k2, k3⟩ := vx_keep h0 e1 hS (fun q _ h => hF q h) hF hL hF1
    obtain ⟨hPn, hDn⟩ := va_join (H1 := T'.heap) hP hD isC isR hC hR hn hdis k2 hF (by rw [e1]; exact hb) (mu_D hDc had)
    obtain ⟨t2, a1, b1⟩ := W.widen (k := cells + 3) (n := slots + 18) (Nat.add_le_add_left hmc _) (Nat.add_le_add_left hms _) (kk T'.heap (locs ++ L) (hPn.sub isP (mu_fm hPm)) (hDn.sub isP hnP hPm) k3) T' rfl X'
    exact ⟨t2, st t2 a1, b1⟩
  · exact absurd hf id
end XS
set_option maxHeartbeats 4000000 in
set_option maxRecDepth 100000 in
theorem lc_size {p : Program} {l : Launch} {e : Env} {R : Room} {s : State} {m : MethodId} {args : Array Value} {below : List Frame} {meth : Method} {c : Code} {H : Heap} {locs : List Loc} {cells slots : Nat} {Q : State → Prop} {ls : Array Slot} {dC : Nat → ClassId} {dI : Nat → Nat → Nat} {A : Nat → Prop} {b0 N : Nat} {xs : Nat → Int32} {iv : Int32} {qx q5 q2 q1 q3 qs qo qh qw q6 qA qB qF qR qC qL qS qO qY qH qW qM : Nat} {cyI cyJ cyZ : ClassId} {o f r b a L : Nat} {E D : ab_D} {g_F g_R g_C g_L t_W g_W : Nat → Int32} {g_X t_S : Nat → Int64} {t_O t_H : Nat → Int32} {sn m_th rl lf ov : Int32} {g_S : Nat → Int64} {g_O g_Y g_H : Nat → Int32} {m_st : Int32} {g_M : Nat → Int32} (hF : la_F p l R s m args c dC dI cyI cyJ cyZ A b0 N xs) (hI : LI o f r b a L E D g_F g_R g_C g_L t_W g_W) (hP : va_P (dC, dI) kcl (la_W qx q5 q2 q1 q3 qs qo qh qw q6 qA qB qF qR qC qL qS qO qY qH qW qM cyI cyJ cyZ g_X (nI o) (nI f) (nI r) (nI b) (nI a) (ab_s (ab_1 E 0)) t_S t_O t_H sn t_W (nI L) (ab_s D) m_th (nI o) (nI f) (nI r) (nI b) (nI a) (ma_F E) (ma_R E) g_F g_R g_C g_L rl lf ov (ab_n D) g_S g_O g_Y g_H m_st g_W (nI L) sn g_M) H) (hD : va_D A (la_W qx q5 q2 q1 q3 qs qo qh qw q6 qA qB qF qR qC qL qS qO qY qH qW qM cyI cyJ cyZ g_X (nI o) (nI f) (nI r) (nI b) (nI a) (ab_s (ab_1 E 0)) t_S t_O t_H sn t_W (nI L) (ab_s D) m_th (nI o) (nI f) (nI r) (nI b) (nI a) (ma_F E) (ma_R E) g_F g_R g_C g_L rl lf ov (ab_n D) g_S g_O g_Y g_H m_st g_W (nI L) sn g_M)) (hS : va_S A s.heap H locs) (hl : lv_has ls 7 [(0, .ref b0), (1, .ref q5), (2, .ref q6), (3, .ref qx), (4, .int iv)]) (hi1 : vp_in (iv + (1 : Int32)) N) (hi2 : vp_in (iv + (2 : Int32)) N) (hi3 : vp_in (iv + (3 : Int32)) N) (hcs : cells + 3 ≤ 601024 ∧ slots + 18 ≤ 7293034)
    (kk : ∀ (H : Heap) (locs : List Loc) (ls : Array Slot), la_P dC dI qx q5 q2 q1 q3 qs qo qh qw q6 qA qB qF qR qC qL qS qO qY qH qW qM cyI cyJ cyZ A s.heap H locs → lv_has ls 7 [(0, .ref b0), (1, .ref q5), (2, .ref q6), (3, .ref qx), (4, .int iv)] → W p l e R s m args below meth c H locs (cells + 3) (slots + 18) Q (F0 m 800 ls [])) : W p l e R s m args below meth c H locs cells slots Q (F0 m 104 ls []) := by
  obtain ⟨hx, hb, hml, hown, hts, hX, hbl, hbA, hA, hK, hZ, hl0, hRf, hRl, hRc, hRs⟩ := hF
  obtain ⟨hc1, hc2⟩ := hcs
  have hm_o : nI o ≤ 4 := nI_le (b := 4) hI.1.2.1 (by omega)
  have hm_f : nI f ≤ 2 := nI_le (b := 2) hI.1.2.2.2.1 (by omega)
  have hm_r : nI r ≤ 3 := nI_le (b := 3) hI.1.2.2.2.2.2 (by omega)
  have hw_r := hm_r
  refine lv_aload_n hx hb dL_law_104 rfl (lv_at hl 1 rfl) ?_
  refine lv_aload_n hx hb dL_law_105 rfl (lv_at hl 0 rfl) ?_
  refine lv_iload hx hb dL_law_106 (lv_at hl 4 rfl) ?_
  refine lv_iconst (v := (1 : Int32)) hx hb dL_law_108 (by decide +kernel) ?_
  refine lv_iadd hx hb dL_law_109 ?_
  refine va_sld hx hb hX hbl hbA hS hi1 dL_law_110 ?_
  refine lv_aload_n hx hb dL_law_111 rfl (lv_at hl 0 rfl) ?_
  refine lv_iload hx hb dL_law_112 (lv_at hl 4 rfl) ?_
  refine lv_iconst (v := (2 : Int32)) hx hb dL_law_114 (by decide +kernel) ?_
  refine lv_iadd hx hb dL_law_115 ?_
  refine va_sld hx hb hX hbl hbA hS hi2 dL_law_116 ?_
  refine lv_aload_n hx hb dL_law_117 rfl (lv_at hl 0 rfl) ?_
  refine lv_iload hx hb dL_law_118 (lv_at hl 4 rfl) ?_
  refine lv_iconst (v := (3 : Int32)) hx hb dL_law_120 (by decide +kernel) ?_
  refine lv_iadd hx hb dL_law_121 ?_
  refine va_sld hx hb hX hbl hbA hS hi3 dL_law_122 ?_
  rcases pr_size (m_th := m_th) (rl := rl) (lf := lf) (ov := ov) hI (xs (iv + (1 : Int32)).toNatClampNeg) (xs (iv + (2 : Int32)).toNatClampNeg) (xs (iv + (3 : Int32)).toNatClampNeg) with ⟨e5, e6⟩ | ⟨o', f', r', hI', e5, e6⟩
  · skip
    refine xs_call (v0 := (1 : Int32)) (ws' := (la_W qx q5 q2 q1 q3 qs qo qh qw q6 qA qB qF qR qC qL qS qO qY qH qW qM cyI cyJ cyZ g_X (nI o) (nI f) (nI r) (nI b) (nI a) (ab_s (ab_1 E 0)) t_S t_O t_H sn t_W (nI L) (ab_s D) m_th (nI o) (nI f) (nI r) (nI b) (nI a) (ma_F E) (ma_R E) g_F g_R g_C g_L rl lf ov (ab_n D) g_S g_O g_Y g_H m_st g_W (nI L) sn g_M)) (wr := (qx, .inl (cyJ, 1, .inr (.inl g_X))) :: mo_W q6 qA qB qF qR qC qL qS qO qY qH qW qM cyI cyJ cyZ m_th (nI o) (nI f) (nI r) (nI b) (nI a) (ma_F E) (ma_R E) g_F g_R g_C g_L rl lf ov (ab_n D) g_S g_O g_Y g_H m_st g_W (nI L) sn g_M) xk_A (vx_runSX (As := [.ref q5, .int (xs (iv + (1 : Int32)).toNatClampNeg), .int (xs (iv + (2 : Int32)).toNatClampNeg), .int (xs (iv + (3 : Int32)).toNatClampNeg)]) (rest := []) ⟨hx, hb, hml, hown, hts⟩ (c_L_size l hl0 dC dI q5 q2 q1 q3 qs qo qh qw cyI cyJ (nI o) (nI f) (nI r) (nI b) (nI a) (ab_s (ab_1 E 0)) t_S t_O t_H sn t_W (nI L) (ab_s D) H.size (xs (iv + (1 : Int32)).toNatClampNeg) (xs (iv + (2 : Int32)).toNatClampNeg) (xs (iv + (3 : Int32)).toNatClampNeg)  (.error ex_A) e5 (fun E9 h9 => (Except.error.inj h9).symm)) (vx_cwSW 4 hts gL_law_L_size rfl rfl rfl (by decide +kernel) ⟨Nat.le_trans (Nat.le_of_ble_eq_true rfl) hRf, Nat.le_trans (Nat.le_of_ble_eq_true rfl) hRl⟩) ⟨xw_blind, fun U hU hW => ⟨rfl, by rw [hU], by rw [hU]; exact hP.sub [1, 2, 3, 4, 5, 6, 7, 8] rfl, va_K.moved hW.alike (hK.sub [0, 1] rfl), (hD.sub [1, 2, 3, 4, 5, 6, 7, 8] (by decide +kernel) rfl).weaken (fun _ _ _ _ => trivial), by rw [hU]; exact ((hZ.kept hS.2.1).narrow (fun q h => va_free hD hS hA [1, 2, 3, 4, 5, 6, 7, 8] rfl q h)).warm hW⟩⟩ rfl rfl hl.1 rfl (lv_room (Nat.le_of_ble_eq_true rfl)) dL_law_123 ⟨by omega, by omega⟩) (by decide) (by decide) hP hD hS hA [1, 2, 3, 4, 5, 6, 7, 8] [0, 9, 10, 11, 12, 13, 14, 15, 16, 17, 18, 19, 20, 21] [0, 14, 15, 16, 17, 18, 19, 20, 21, 1, 2, 3, 4, 5, 6, 7, 8, 9, 10, 11, 12, 13] rfl rfl (by decide +kernel) (by decide +kernel) (by decide +kernel) (Eq.trans (b := [q5, q2, q1, q3, qs, qo, qh, qw]) rfl rfl) (by decide +kernel) rfl (fun H locs hP hD hS => ?_)
    refine lv_istore (lv' := [(5, .int (1 : Int32)), (0, .ref b0), (1, .ref q5), (2, .ref q6), (3, .ref qx), (4, .int iv)]) hx hb dL_law_126 hl (by decide) rfl (fun ls hl => ?_)
    refine lv_aload_n hx hb dL_law_128 rfl (lv_at hl 3 rfl) ?_
    refine lv_aload_n hx hb dL_law_129 rfl (lv_at hl 1 rfl) ?_
    refine lv_iload hx hb dL_law_130 (lv_at hl 5 rfl) ?_
    refine lv_iconst (v := (1 : Int32)) hx hb dL_law_132 (by decide +kernel) ?_
    refine lv_iadd hx hb dL_law_133 ?_
    refine va_sld hx hb hX hbl hbA hS hi1 dL_law_134 ?_
    refine lv_aload_n hx hb dL_law_135 rfl (lv_at hl 1 rfl) ?_
    refine lv_iload hx hb dL_law_136 (lv_at hl 5 rfl) ?_
    refine lv_iconst (v := (2 : Int32)) hx hb dL_law_138 (by decide +kernel) ?_
    refine lv_iadd hx hb dL_law_139 ?_
    refine va_sld hx hb hX hbl hbA hS hi2 dL_law_140 ?_
    refine lv_aload_n hx hb dL_law_141 rfl (lv_at hl 1 rfl) ?_
    refine lv_iload hx hb dL_law_142 (lv_at hl 5 rfl) ?_
    refine lv_iconst (v := (3 : Int32)) hx hb dL_law_144 (by decide +kernel) ?_
    refine lv_iadd hx hb dL_law_145 ?_
    refine va_sld hx hb hX hbl hbA hS hi3 dL_law_146 ?_
    have ct := c_X6_size l dC dI q6 qA qB qF qR qC qL qS qO qY qH qW qM cyI cyJ cyZ m_th (nI o) (nI f) (nI r) (nI b) (nI a) (ma_F E) (ma_R E) g_F g_R g_C g_L rl lf ov (ab_n D) g_S g_O g_Y g_H m_st g_W (nI L) sn g_M H.size (xs (iv + (1 : Int32)).toNatClampNeg) (xs (iv + (2 : Int32)).toNatClampNeg) (xs (iv + (3 : Int32)).toNatClampNeg) 
    rw [e6] at ct
    refine mu_call (ws' := (la_W qx q5 q2 q1 q3 qs qo qh qw q6 qA qB qF qR qC qL qS qO qY qH qW qM cyI cyJ cyZ g_X (nI o) (nI f) (nI r) (nI b) (nI a) (ab_s (ab_1 E 0)) t_S t_O t_H sn t_W (nI L) (ab_s D) (1 : Int32) (nI o) (nI f) (nI r) (nI b) (nI a) (ma_F E) (ma_R E) g_F g_R g_C g_L rl lf ov (ab_n D) g_S g_O g_Y g_H m_st g_W (nI L) sn g_M)) (wr := lw_W qx q5 q2 q1 q3 qs qo qh qw cyI cyJ g_X (nI o) (nI f) (nI r) (nI b) (nI a) (ab_s (ab_1 E 0)) t_S t_O t_H sn t_W (nI L) (ab_s D)) (va_runV (As := [.int (xs (iv + (1 : Int32)).toNatClampNeg), .int (xs (iv + (2 : Int32)).toNatClampNeg), .int (xs (iv + (3 : Int32)).toNatClampNeg)]) (rest := []) ⟨hx, hb, hml, hown, hts⟩ ct (cwV 3 hts gL_law_X6_size rfl rfl rfl (by decide +kernel) ⟨Nat.le_trans (Nat.le_of_ble_eq_true rfl) hRf, Nat.le_trans (Nat.le_of_ble_eq_true rfl) hRl⟩) ⟨mu_blind, va_recv hK hP (ci := 4) (q0 := 9) rfl rfl, fun U hU hW => ⟨rfl, by rw [hU], by rw [hU]; exact hP.sub [9, 10, 11, 12, 13, 14, 15, 16, 17, 18, 19, 20, 21] rfl, va_K.moved hW.alike hK, (hD.sub [9, 10, 11, 12, 13, 14, 15, 16, 17, 18, 19, 20, 21] (by decide +kernel) rfl).weaken (fun _ _ _ _ => trivial)⟩⟩ rfl rfl hl.1 rfl (lv_room (Nat.le_of_ble_eq_true rfl)) dL_law_147 ⟨by omega, by omega⟩) hP hD hS hA [9, 10, 11, 12, 13, 14, 15, 16, 17, 18, 19, 20, 21] [0, 1, 2, 3, 4, 5, 6, 7, 8] [0, 1, 2, 3, 4, 5, 6, 7, 8, 9, 10, 11, 12, 13, 14, 15, 16, 17, 18, 19, 20, 21] rfl rfl (by decide +kernel) (by decide +kernel) (by decide +kernel) (Eq.trans (b := [q6, qA, qB, qF, qR, qC, qL, qS, qO, qY, qH, qW, qM]) rfl rfl) (by decide +kernel) rfl (fun H locs hP hD hS => ?_)
    refine W.eq (g2 := F0 m 150 ls []) rfl ?_
    refine lv_aload_n hx hb dL_law_150 rfl (lv_at hl 3 rfl) ?_
    refine rd_calli (v := (1 : Int32)) (va_runV (As := []) (rest := []) ⟨hx, hb, hml, hown, hts⟩ (c_X6_thrown l dC dI q6 qA qB qF qR qC qL qS qO qY qH qW qM cyI cyJ cyZ (1 : Int32) (nI o) (nI f) (nI r) (nI b) (nI a) (ma_F E) (ma_R E) g_F g_R g_C g_L rl lf ov (ab_n D) g_S g_O g_Y g_H m_st g_W (nI L) sn g_M) (cwV 0 hts gL_law_X6_thrown rfl rfl rfl (by decide +kernel) ⟨Nat.le_trans (Nat.le_of_ble_eq_true rfl) hRf, Nat.le_trans (Nat.le_of_ble_eq_true rfl) hRl⟩) ⟨rd_blind, va_recv hK hP (ci := 4) (q0 := 9) rfl rfl, fun U hU hW => ⟨rfl, by rw [hU]; exact (hP.sub [9, 10, 11, 12, 13, 14, 15, 16, 17, 18, 19, 20, 21] rfl), va_K.moved hW.alike hK⟩⟩ rfl rfl hl.1 rfl (lv_room (Nat.le_of_ble_eq_true rfl)) dL_law_151 ⟨by omega, by omega⟩) ?_
    refine lv_iload hx hb dL_law_154 (lv_at hl 0 rfl) ?_
    refine lv_icmp_eq (tgt := 161) hx hb dL_law_156 (by decide) (fun _ => ?_) (fun c9 => absurd rfl c9)
    refine lv_goto (tgt := 800) hx hb dL_law_161 (by decide) ?_
    exact kk H locs ls ⟨o, f, r, b, a, L, E, D, g_F, g_R, g_C, g_L, t_W, g_W, g_X, t_S, t_O, t_H, sn, (1 : Int32), rl, lf, ov, g_S, g_O, g_Y, g_H, m_st, g_M, hI, hP, hD, hS⟩ (lv_sub hl [1, 2, 3, 4, 5] rfl)
  · skip
    refine xs_call (v0 := (0 : Int32)) (ws' := (la_W qx q5 q2 q1 q3 qs qo qh qw q6 qA qB qF qR qC qL qS qO qY qH qW qM cyI cyJ cyZ g_X (nI o') (nI f') (nI r') (nI b) (nI a) (ab_s (ab_1 e0 0)) t_S t_O t_H sn t_W (nI L) (ab_s (ab_1 e0 a)) m_th (nI o) (nI f) (nI r) (nI b) (nI a) (ma_F E) (ma_R E) g_F g_R g_C g_L rl lf ov (ab_n D) g_S g_O g_Y g_H m_st g_W (nI L) sn g_M)) (wr := (qx, .inl (cyJ, 1, .inr (.inl g_X))) :: mo_W q6 qA qB qF qR qC qL qS qO qY qH qW qM cyI cyJ cyZ m_th (nI o) (nI f) (nI r) (nI b) (nI a) (ma_F E) (ma_R E) g_F g_R g_C g_L rl lf ov (ab_n D) g_S g_O g_Y g_H m_st g_W (nI L) sn g_M) rfl (vx_runSX (As := [.ref q5, .int (xs (iv + (1 : Int32)).toNatClampNeg), .int (xs (iv + (2 : Int32)).toNatClampNeg), .int (xs (iv + (3 : Int32)).toNatClampNeg)]) (rest := []) ⟨hx, hb, hml, hown, hts⟩ (c_L_size l hl0 dC dI q5 q2 q1 q3 qs qo qh qw cyI cyJ (nI o) (nI f) (nI r) (nI b) (nI a) (ab_s (ab_1 E 0)) t_S t_O t_H sn t_W (nI L) (ab_s D) H.size (xs (iv + (1 : Int32)).toNatClampNeg) (xs (iv + (2 : Int32)).toNatClampNeg) (xs (iv + (3 : Int32)).toNatClampNeg)  (.ok (nI o', nI f', nI r', ab_s (ab_1 e0 0), ab_s (ab_1 e0 a))) e5 (fun _ h9 => nomatch h9)) (vx_cwSW 4 hts gL_law_L_size rfl rfl rfl (by decide +kernel) ⟨Nat.le_trans (Nat.le_of_ble_eq_true rfl) hRf, Nat.le_trans (Nat.le_of_ble_eq_true rfl) hRl⟩) ⟨xw_blind, fun U hU hW => ⟨rfl, by rw [hU], by rw [hU]; exact hP.sub [1, 2, 3, 4, 5, 6, 7, 8] rfl, va_K.moved hW.alike (hK.sub [0, 1] rfl), (hD.sub [1, 2, 3, 4, 5, 6, 7, 8] (by decide +kernel) rfl).weaken (fun _ _ _ _ => trivial), by rw [hU]; exact ((hZ.kept hS.2.1).narrow (fun q h => va_free hD hS hA [1, 2, 3, 4, 5, 6, 7, 8] rfl q h)).warm hW⟩⟩ rfl rfl hl.1 rfl (lv_room (Nat.le_of_ble_eq_true rfl)) dL_law_123 ⟨by omega, by omega⟩) (by decide) (by decide) hP hD hS hA [1, 2, 3, 4, 5, 6, 7, 8] [0, 9, 10, 11, 12, 13, 14, 15, 16, 17, 18, 19, 20, 21] [0, 14, 15, 16, 17, 18, 19, 20, 21, 1, 2, 3, 4, 5, 6, 7, 8, 9, 10, 11, 12, 13] rfl rfl (by decide +kernel) (by decide +kernel) (by decide +kernel) (Eq.trans (b := [q5, q2, q1, q3, qs, qo, qh, qw]) rfl rfl) (by decide +kernel) rfl (fun H locs hP hD hS => ?_)
    refine lv_istore (lv' := [(5, .int (0 : Int32)), (0, .ref b0), (1, .ref q5), (2, .ref q6), (3, .ref qx), (4, .int iv)]) hx hb dL_law_126 hl (by decide) rfl (fun ls hl => ?_)
    refine lv_aload_n hx hb dL_law_128 rfl (lv_at hl 3 rfl) ?_
    refine lv_aload_n hx hb dL_law_129 rfl (lv_at hl 1 rfl) ?_
    refine lv_iload hx hb dL_law_130 (lv_at hl 5 rfl) ?_
    refine lv_iconst (v := (1 : Int32)) hx hb dL_law_132 (by decide +kernel) ?_
    refine lv_iadd hx hb dL_law_133 ?_
    refine va_sld hx hb hX hbl hbA hS hi1 dL_law_134 ?_
    refine lv_aload_n hx hb dL_law_135 rfl (lv_at hl 1 rfl) ?_
    refine lv_iload hx hb dL_law_136 (lv_at hl 5 rfl) ?_
    refine lv_iconst (v := (2 : Int32)) hx hb dL_law_138 (by decide +kernel) ?_
    refine lv_iadd hx hb dL_law_139 ?_
    refine va_sld hx hb hX hbl hbA hS hi2 dL_law_140 ?_
    refine lv_aload_n hx hb dL_law_141 rfl (lv_at hl 1 rfl) ?_
    refine lv_iload hx hb dL_law_142 (lv_at hl 5 rfl) ?_
    refine lv_iconst (v := (3 : Int32)) hx hb dL_law_144 (by decide +kernel) ?_
    refine lv_iadd hx hb dL_law_145 ?_
    refine va_sld hx hb hX hbl hbA hS hi3 dL_law_146 ?_
    have ct := c_X6_size l dC dI q6 qA qB qF qR qC qL qS qO qY qH qW qM cyI cyJ cyZ m_th (nI o) (nI f) (nI r) (nI b) (nI a) (ma_F E) (ma_R E) g_F g_R g_C g_L rl lf ov (ab_n D) g_S g_O g_Y g_H m_st g_W (nI L) sn g_M H.size (xs (iv + (1 : Int32)).toNatClampNeg) (xs (iv + (2 : Int32)).toNatClampNeg) (xs (iv + (3 : Int32)).toNatClampNeg) 
    rw [e6] at ct
    refine mu_call (ws' := (la_W qx q5 q2 q1 q3 qs qo qh qw q6 qA qB qF qR qC qL qS qO qY qH qW qM cyI cyJ cyZ g_X (nI o') (nI f') (nI r') (nI b) (nI a) (ab_s (ab_1 e0 0)) t_S t_O t_H sn t_W (nI L) (ab_s (ab_1 e0 a)) (0 : Int32) (nI o') (nI f') (nI r') (nI b) (nI a) (ma_F e0) (ma_R e0) (ma_F (ab_1 e0 a)) (ma_R (ab_1 e0 a)) (ma_C (ab_1 e0 a)) (ma_L (ab_1 e0 a)) (nI ((ab_1 e0 a) 4 0)) (nI ((ab_1 e0 a) 4 1)) (nI ((ab_1 e0 a) 4 2)) (ab_n (ab_1 e0 a)) g_S g_O g_Y g_H m_st g_W (nI L) sn g_M)) (wr := lw_W qx q5 q2 q1 q3 qs qo qh qw cyI cyJ g_X (nI o') (nI f') (nI r') (nI b) (nI a) (ab_s (ab_1 e0 0)) t_S t_O t_H sn t_W (nI L) (ab_s (ab_1 e0 a))) (va_runV (As := [.int (xs (iv + (1 : Int32)).toNatClampNeg), .int (xs (iv + (2 : Int32)).toNatClampNeg), .int (xs (iv + (3 : Int32)).toNatClampNeg)]) (rest := []) ⟨hx, hb, hml, hown, hts⟩ ct (cwV 3 hts gL_law_X6_size rfl rfl rfl (by decide +kernel) ⟨Nat.le_trans (Nat.le_of_ble_eq_true rfl) hRf, Nat.le_trans (Nat.le_of_ble_eq_true rfl) hRl⟩) ⟨mu_blind, va_recv hK hP (ci := 4) (q0 := 9) rfl rfl, fun U hU hW => ⟨rfl, by rw [hU], by rw [hU]; exact hP.sub [9, 10, 11, 12, 13, 14, 15, 16, 17, 18, 19, 20, 21] rfl, va_K.moved hW.alike hK, (hD.sub [9, 10, 11, 12, 13, 14, 15, 16, 17, 18, 19, 20, 21] (by decide +kernel) rfl).weaken (fun _ _ _ _ => trivial)⟩⟩ rfl rfl hl.1 rfl (lv_room (Nat.le_of_ble_eq_true rfl)) dL_law_147 ⟨by omega, by omega⟩) hP hD hS hA [9, 10, 11, 12, 13, 14, 15, 16, 17, 18, 19, 20, 21] [0, 1, 2, 3, 4, 5, 6, 7, 8] [0, 1, 2, 3, 4, 5, 6, 7, 8, 9, 10, 11, 12, 13, 14, 15, 16, 17, 18, 19, 20, 21] rfl rfl (by decide +kernel) (by decide +kernel) (by decide +kernel) (Eq.trans (b := [q6, qA, qB, qF, qR, qC, qL, qS, qO, qY, qH, qW, qM]) rfl rfl) (by decide +kernel) rfl (fun H locs hP hD hS => ?_)
    refine W.eq (g2 := F0 m 150 ls []) rfl ?_
    refine lv_aload_n hx hb dL_law_150 rfl (lv_at hl 3 rfl) ?_
    refine rd_calli (v := (0 : Int32)) (va_runV (As := []) (rest := []) ⟨hx, hb, hml, hown, hts⟩ (c_X6_thrown l dC dI q6 qA qB qF qR qC qL qS qO qY qH qW qM cyI cyJ cyZ (0 : Int32) (nI o') (nI f') (nI r') (nI b) (nI a) (ma_F e0) (ma_R e0) (ma_F (ab_1 e0 a)) (ma_R (ab_1 e0 a)) (ma_C (ab_1 e0 a)) (ma_L (ab_1 e0 a)) (nI ((ab_1 e0 a) 4 0)) (nI ((ab_1 e0 a) 4 1)) (nI ((ab_1 e0 a) 4 2)) (ab_n (ab_1 e0 a)) g_S g_O g_Y g_H m_st g_W (nI L) sn g_M) (cwV 0 hts gL_law_X6_thrown rfl rfl rfl (by decide +kernel) ⟨Nat.le_trans (Nat.le_of_ble_eq_true rfl) hRf, Nat.le_trans (Nat.le_of_ble_eq_true rfl) hRl⟩) ⟨rd_blind, va_recv hK hP (ci := 4) (q0 := 9) rfl rfl, fun U hU hW => ⟨rfl, by rw [hU]; exact (hP.sub [9, 10, 11, 12, 13, 14, 15, 16, 17, 18, 19, 20, 21] rfl), va_K.moved hW.alike hK⟩⟩ rfl rfl hl.1 rfl (lv_room (Nat.le_of_ble_eq_true rfl)) dL_law_151 ⟨by omega, by omega⟩) ?_
    refine lv_iload hx hb dL_law_154 (lv_at hl 0 rfl) ?_
    refine lv_icmp_eq (tgt := 161) hx hb dL_law_156 (by decide) (fun _ => ?_) (fun c9 => absurd rfl c9)
    refine lv_goto (tgt := 800) hx hb dL_law_161 (by decide) ?_
    exact kk H locs ls ⟨o', f', r', b, a, L, e0, (ab_1 e0 a), (ma_F (ab_1 e0 a)), (ma_R (ab_1 e0 a)), (ma_C (ab_1 e0 a)), (ma_L (ab_1 e0 a)), t_W, g_W, g_X, t_S, t_O, t_H, sn, (0 : Int32), (nI ((ab_1 e0 a) 4 0)), (nI ((ab_1 e0 a) 4 1)), (nI ((ab_1 e0 a) 4 2)), g_S, g_O, g_Y, g_H, m_st, g_M, hI', hP, hD, hS⟩ (lv_sub hl [1, 2, 3, 4, 5] rfl)

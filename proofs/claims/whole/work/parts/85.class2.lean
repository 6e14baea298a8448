theorem nz_X0 (x : Int64) (w : Int32) : narrow .boolean (.int (cf_X0_isBroken x w)) = .int (cf_X0_isBroken x w) := by
  have key : cf_X0_isBroken x w = 0 ∨ cf_X0_isBroken x w = 1 := by
    unfold cf_X0_isBroken cf_X0_isBroken_s51 cf_X0_isBroken_s119
    repeat' split
    all_goals first | exact Or.inl rfl | exact Or.inr rfl
  rcases key with h | h <;> rw [h] <;> decide +kernel
def cf_X5_play (fu : Nat) (w_o : Int32) (w_f : Int32) (w_r : Int32) (w_b : Int32) (w_a : Int32) (w_l : Int64) (v_s : Int64) (a0 : Int32) : Except String ((Int64) × Int32) :=
  (if a0 < (0 : Int32) ∨ ¬ a0 ≤ (49 : Int32) then (Except.error ex_A) else (if (lg_cmp (cf_X1_behind w_o w_f w_r w_b w_a w_l v_s a0) (-1 : Int64)) = 0 then (Except.error ex_S) else (Except.ok ((cf_X1_behind w_o w_f w_r w_b w_a w_l v_s a0), (cf_X1_possibleActs fu w_o w_f w_r w_b w_a w_l (cf_X1_behind w_o w_f w_r w_b w_a w_l v_s a0))))))
def vc_X5_play (fu : Nat) (w_o : Int32) (w_f : Int32) (w_r : Int32) (w_b : Int32) (w_a : Int32) (w_l : Int64) (v_s : Int64) (a0 : Int32) : Prop :=
  (¬ (a0 < (0 : Int32) ∨ ¬ a0 ≤ (49 : Int32)) → (((lg_cmp (cf_X1_behind w_o w_f w_r w_b w_a w_l v_s a0) (-1 : Int64)) = 0 → True) ∧ (¬ (lg_cmp (cf_X1_behind w_o w_f w_r w_b w_a w_l v_s a0) (-1 : Int64)) = 0 → (vc_X1_possibleActs fu w_o w_f w_r w_b w_a w_l (cf_X1_behind w_o w_f w_r w_b w_a w_l v_s a0) ∧ True))))
set_option maxHeartbeats 4000000 in
set_option maxRecDepth 100000 in
theorem c_X5_play (l : Launch) (hl0 : l.stackTraces = false) (dC : Nat → ClassId) (dI : Nat → Nat → Nat) (q5 q2 q1 q3 qs qo qh qw : Nat) (cyI cyJ : ClassId) (w_o : Int32) (w_f : Int32) (w_r : Int32) (w_b : Int32) (w_a : Int32) (w_l : Int64) (t_S : Nat → Int64) (t_O : Nat → Int32) (t_H : Nat → Int32) (s_n : Int32) (t_W : Nat → Int32) (s_k : Int32) (v_s : Int64) (sz : Nat) (fu : Nat) (a0 : Int32) (hw_r : w_r ≤ 3) (hV : vc_X5_play fu w_o w_f w_r w_b w_a w_l v_s a0) (R : Except String ((Int64) × Int32)) (hR : (cf_X5_play fu w_o w_f w_r w_b w_a w_l v_s a0) = R) : vx_Met l yX5_play wsX5_play ({ frames := 7, cells := 2, slots := 12, locals := 148 }) (xw_P [.ref q5, .int a0] sz (dC, dI) kcl (cl_W q5 q2 q1 q3 qs qo qh qw cyI cyJ w_o w_f w_r w_b w_a w_l t_S t_O t_H s_n t_W s_k v_s) [(cyI, .int), (cyJ, .long)]) (xr_i R (fun u => (cl_W q5 q2 q1 q3 qs qo qh qw cyI cyJ w_o w_f w_r w_b w_a w_l t_S t_O t_H s_n t_W s_k u)) (dC, dI) kcl (va_A (cl_W q5 q2 q1 q3 qs qo qh qw cyI cyJ w_o w_f w_r w_b w_a w_l t_S t_O t_H s_n t_W s_k v_s) sz)) (xr_X R (cl_W q5 q2 q1 q3 qs qo qh qw cyI cyJ w_o w_f w_r w_b w_a w_l t_S t_O t_H s_n t_W s_k v_s) (dC, dI) kcl (va_A (cl_W q5 q2 q1 q3 qs qo qh qw cyI cyJ w_o w_f w_r w_b w_a w_l t_S t_O t_H s_n t_W s_k v_s) sz)) 2 12 (va_A (cl_W q5 q2 q1 q3 qs qo qh qw cyI cyJ w_o w_f w_r w_b w_a w_l t_S t_O t_H s_n t_W s_k v_s) sz) := by
  refine vx_ofW (cc := cX5_play) (maxL := 4) (ret := (some .int)) (by decide) rfl ?_
  intro p e s m args below meth c s₁ B hml hnt hv
  obtain ⟨rfl, hsz, hP, hK, hD0, hZ⟩ := hv
  have hx := B.exec
  have hb := B.bytes
  have hr := B.returns
  have hts := atoms_spec (ws := wsX5_play) B.pre
  have hown : s.vm.findClass RX5 = some m.cls := findClass_of_methodNamed B.named
  have hlocks := B.notSynchronized
  subst hsz
  have hD := hD0.self (sz := s.heap.size)
  generalize hAe : va_A (cl_W q5 q2 q1 q3 qs qo qh qw cyI cyJ w_o w_f w_r w_b w_a w_l t_S t_O t_H s_n t_W s_k v_s) s.heap.size = A at hD hZ ⊢
  have hA : ∀ q : Nat, s.heap.size ≤ q → A q := fun q h => by rw [← hAe]; exact Or.inr h
  have hP : va_P (dC, dI) kcl (cl_W q5 q2 q1 q3 qs qo qh qw cyI cyJ w_o w_f w_r w_b w_a w_l t_S t_O t_H s_n t_W s_k v_s) s.heap := hP
  have h0_ : (Cond.fieldLink RX5 21 "ColourTrier" "moves" "LColourTrier$Moves;").before _ s = true := hts _ (by decide +kernel)
  have h1_ : ∀ w ∈ u_ws RX5 TX5 4, w ∈ wsX5_play := fun w h => List.mem_cons_of_mem _ (List.mem_append_left _ (List.mem_append_left _ (List.mem_append_left _ (List.mem_append_left _ (List.mem_append_right _ h)))))
  have h2_ : (Cond.fieldLink RX5 38 "ColourTrier" "state" "J").before _ s = true := hts _ (by decide +kernel)
  have h3_ : (Cond.constantLong RX5 100 (-1)).before _ s = true := hts _ (by decide +kernel)
  have hl := lv_entry ([.ref q5, .int a0]) (n := 4) (Nat.le_of_ble_eq_true rfl)
  rw [lg_entry_eq]
  generalize (lg_sl ([.ref q5, .int a0]) ++ List.replicate (4 - (lg_sl ([.ref q5, .int a0])).length) Slot.unset).toArray = ls at hl ⊢
  have hl : lv_has ls 4 [(0, .ref q5), (1, .int a0)] := hl
  unfold cf_X5_play at hR
  unfold vc_X5_play at hV
  refine mu_start (A := A) (fun H locs hP hS => ?_) hP
  refine lv_iload_n hx hb dX5_play_0 rfl (lv_at hl 1 rfl) ?_
  refine lv_iconst (v := (0 : Int32)) hx hb dX5_play_1 (by decide +kernel) ?_
  refine lv_bipush (v := (49 : Int32)) hx hb dX5_play_2 (by decide +kernel) ?_
  refine xm_call (x := a0) (lo := (0 : Int32)) (hi := (49 : Int32)) (rest := []) hl0 ⟨hx, hb, hml, hown, hts⟩ gX5_play_X5_mustLieWithin ⟨Nat.le_of_ble_eq_true rfl, Nat.le_of_ble_eq_true rfl⟩ ⟨Nat.le_of_ble_eq_true rfl, Nat.le_of_ble_eq_true rfl⟩ hZ hP hS hA hl.1 (by decide) dX5_play_4 (fun hcx H locs ce q9 hP hS hce hv9 hcl => ?_) (fun hc1 hc2 H locs hP hS => ?_)
  · rw [if_pos hcx] at hR
    refine vx_widen (k := 2) (n := 12) (by decide) (by decide) (vx_out (fun x hx => absurd (hnt x hx) id) hlocks hce hv9 hcl (fun t ht _ => ⟨(), trivial, ⟨hR.symm, by rw [ht]; exact hP⟩, hS.F ht⟩) hS.2.2 (Nat.le_refl _) (Nat.le_refl _))
  · rw [if_neg (fun z => z.elim hc1 (fun y => y hc2))] at hR
    have hP : va_P (dC, dI) kcl (cl_W q5 q2 q1 q3 qs qo qh qw cyI cyJ w_o w_f w_r w_b w_a w_l t_S t_O t_H s_n t_W s_k v_s) H := hP
    have hV := hV (fun z => z.elim hc1 (fun y => y hc2))
    refine lv_aload_n hx hb dX5_play_7 rfl (lv_at hl 0 rfl) ?_
    refine va_get (D := (dC, dI)) (ci := 3) (v := .ref q1) (C := RX5) (T := TX5) (N := 4) hx hb hts h1_ hown hK hP 0 rfl rfl 1 (by decide) h0_ (fun _ h9 => h9) rfl dX5_play_8 ?_
    refine lv_aload_n hx hb dX5_play_11 rfl (lv_at hl 0 rfl) ?_
    refine va_get (D := (dC, dI)) (ci := 3) (v := .long v_s) (C := RX5) (T := TX5) (N := 4) hx hb hts h1_ hown hK hP 0 rfl rfl 3 (by decide) h2_ (fun _ h9 => h9) rfl dX5_play_12 ?_
    refine lv_iload_n hx hb dX5_play_15 rfl (lv_at hl 1 rfl) ?_
    refine rd_calll (va_runV (As := [.long v_s, .int a0]) (rest := []) ⟨hx, hb, hml, hown, hts⟩ (c_X1_behind l dC dI q1 q3 w_o w_f w_r w_b w_a w_l v_s a0 hw_r) (cwV 2 hts gX5_play_X1_behind rfl rfl rfl (by decide +kernel) ⟨Nat.le_of_ble_eq_true rfl, Nat.le_of_ble_eq_true rfl⟩) ⟨rd_blind, va_recv hK hP (ci := 0) (q0 := 2) rfl rfl, fun U hU hW => ⟨rfl, by rw [hU]; exact (hP.sub [2, 3] rfl), va_K.moved hW.alike (hK.sub [] rfl)⟩⟩ rfl rfl hl.1 rfl (lv_room (Nat.le_of_ble_eq_true rfl)) dX5_play_16 ⟨Nat.le_of_ble_eq_true rfl, Nat.le_of_ble_eq_true rfl⟩) ?_
    refine lv_lstore_n (lv' := [(2, .long (cf_X1_behind w_o w_f w_r w_b w_a w_l v_s a0)), (0, .ref q5), (1, .int a0)]) hx hb dX5_play_19 rfl hl (by decide) rfl (fun ls hl => ?_)
    refine lv_lload_n hx hb dX5_play_20 rfl (lv_at hl 0 rfl) ?_
    refine lv_ldc2 (v := (-1 : Int64)) hx hb hown h3_ dX5_play_21 ?_
    refine W.lcmp hx hb dX5_play_24 ?_
    refine lv_if_ne (tgt := 38) hx hb dX5_play_25 (by decide) (fun c_1 => ?_) (fun c_1 => ?_)
    · rw [if_neg c_1] at hR
      have hV := hV.2 c_1
      refine lv_aload_n hx hb dX5_play_38 rfl (lv_at hl 1 rfl) ?_
      refine lv_lload_n hx hb dX5_play_39 rfl (lv_at hl 0 rfl) ?_
      refine va_put (D := (dC, dI)) (ci := 3) (v := .long (cf_X1_behind w_o w_f w_r w_b w_a w_l v_s a0)) (ty := .long) (C := RX5) (T := TX5) (N := 4) hx hb hts h1_ tyX5 tyX5_ok nmX5 hown hK hP hD hS 0 rfl rfl 3 (by decide) h2_ (fun _ h9 => h9) rfl (by decide +kernel) rfl rfl (Nat.le_of_ble_eq_true rfl) dX5_play_40 (fun H locs hP hD hS => ?_)
      have hP : va_P (dC, dI) kcl (cl_W q5 q2 q1 q3 qs qo qh qw cyI cyJ w_o w_f w_r w_b w_a w_l t_S t_O t_H s_n t_W s_k (cf_X1_behind w_o w_f w_r w_b w_a w_l v_s a0)) H := hP
      have hD : va_D A (cl_W q5 q2 q1 q3 qs qo qh qw cyI cyJ w_o w_f w_r w_b w_a w_l t_S t_O t_H s_n t_W s_k (cf_X1_behind w_o w_f w_r w_b w_a w_l v_s a0)) := hD
      refine lv_aload_n hx hb dX5_play_43 rfl (lv_at hl 1 rfl) ?_
      refine va_get (D := (dC, dI)) (ci := 3) (v := .ref q1) (C := RX5) (T := TX5) (N := 4) hx hb hts h1_ hown hK hP 0 rfl rfl 1 (by decide) h0_ (fun _ h9 => h9) rfl dX5_play_44 ?_
      refine lv_aload_n hx hb dX5_play_47 rfl (lv_at hl 1 rfl) ?_
      refine va_get (D := (dC, dI)) (ci := 3) (v := .long (cf_X1_behind w_o w_f w_r w_b w_a w_l v_s a0)) (C := RX5) (T := TX5) (N := 4) hx hb hts h1_ hown hK hP 0 rfl rfl 3 (by decide) h2_ (fun _ h9 => h9) rfl dX5_play_48 ?_
      obtain ⟨hv2, hV⟩ := hV
      refine rd_calli (va_runV (As := [.long (cf_X1_behind w_o w_f w_r w_b w_a w_l v_s a0)]) (rest := []) ⟨hx, hb, hml, hown, hts⟩ (c_X1_possibleActs l dC dI q1 q3  w_o w_f w_r w_b w_a w_l fu (cf_X1_behind w_o w_f w_r w_b w_a w_l v_s a0) hw_r hv2) (cwV 1 hts gX5_play_X1_possibleActs rfl rfl rfl (by decide +kernel) ⟨Nat.le_of_ble_eq_true rfl, Nat.le_of_ble_eq_true rfl⟩) ⟨rd_blind, va_recv hK hP (ci := 0) (q0 := 2) rfl rfl, fun U hU hW => ⟨rfl, by rw [hU]; exact (hP.sub [2, 3] rfl), va_K.moved hW.alike (hK.sub [] rfl)⟩⟩ rfl rfl hl.1 rfl (lv_room (Nat.le_of_ble_eq_true rfl)) dX5_play_51 ⟨Nat.le_of_ble_eq_true rfl, Nat.le_of_ble_eq_true rfl⟩) ?_
      refine W.widen (k := 2) (n := 12) (by decide) (by decide) (vx_ret ?_)
      exact W.iret (v := (cf_X1_possibleActs fu w_o w_f w_r w_b w_a w_l (cf_X1_behind w_o w_f w_r w_b w_a w_l v_s a0))) hx hb hr (fun t ht _ => ⟨⟨(cf_X1_possibleActs fu w_o w_f w_r w_b w_a w_l (cf_X1_behind w_o w_f w_r w_b w_a w_l v_s a0)), (cf_X1_behind w_o w_f w_r w_b w_a w_l v_s a0), rfl, hR.symm, show va_P (dC, dI) kcl (cl_W q5 q2 q1 q3 qs qo qh qw cyI cyJ w_o w_f w_r w_b w_a w_l t_S t_O t_H s_n t_W s_k (cf_X1_behind w_o w_f w_r w_b w_a w_l v_s a0)) t.heap by rw [ht]; exact hP⟩, hS.F ht⟩) hS.2.2 dX5_play_54
    · rw [if_pos c_1] at hR
      obtain ⟨h1, h2, h3, ⟨sa4, h4⟩, ⟨sa5, h5⟩, h6, h7, h8, h9⟩ := hZ
      refine vx_throwS (A := A) (sa := sa5) (names := ex_N) (cls := ex_S) (own := RX5) (ik := 102) (is := 104) (ic := 106) (text := "the act can not be done") hx hb hl0 hown (by decide +kernel) (fun n hn => List.all_eq_true.mp (show ex_N.all Bundle.fit = true by decide +kernel) n hn) (hts _ (by decide +kernel)) (hts _ (by decide +kernel)) h5 (vx_hat (B := ex_L 106 ex_S) (fun w hw => hts w (List.mem_cons_of_mem _ (List.mem_append_left _ (List.mem_append_right _ hw)))) (fun w hw => hw) (fun w hw => va_tabs (by have := List.all_eq_true.mp ex_fS w hw; rw [Bool.and_eq_true] at this; exact this.2) rfl (h8 w hw))) (ex_g (by decide +kernel)) h1 h2 hS (hl.1.trans hml.symm) dX5_play_28 dX5_play_31 dX5_play_32 dX5_play_34 dX5_play_37 (fun x hx => absurd (hnt x hx) id) (by decide) (by decide) (Nat.le_of_ble_eq_true rfl) (Nat.le_of_ble_eq_true rfl) hlocks (fun t _ hs9 hq9 => ⟨(), trivial, ⟨hR.symm, hP.kept (fun k q hq => hq9 q.1 (vx_lt hP hq))⟩, Nat.le_trans hS.1 hs9, fun q h9 h8 => (hq9 q (Nat.lt_of_lt_of_le h9 hS.1)).trans (hS.2.1 q h9 h8)⟩) hS.2.2 (Nat.le_of_ble_eq_true rfl) (Nat.le_of_ble_eq_true rfl)
def cf_X5_again (fu : Nat) (w_o : Int32) (w_f : Int32) (w_r : Int32) (w_b : Int32) (w_a : Int32) (w_l : Int64) (v_s : Int64)  : Except String ((Int64) × Int32) :=
  (Except.ok ((cf_X3_firstState w_o w_f w_r w_b w_a w_l ), (cf_X1_possibleActs fu w_o w_f w_r w_b w_a w_l (cf_X3_firstState w_o w_f w_r w_b w_a w_l ))))
def vc_X5_again (fu : Nat) (w_o : Int32) (w_f : Int32) (w_r : Int32) (w_b : Int32) (w_a : Int32) (w_l : Int64) (v_s : Int64)  : Prop :=
  (vc_X1_possibleActs fu w_o w_f w_r w_b w_a w_l (cf_X3_firstState w_o w_f w_r w_b w_a w_l ) ∧ True)
set_option maxHeartbeats 4000000 in
set_option maxRecDepth 100000 in
theorem c_X5_again (l : Launch) (hl0 : l.stackTraces = false) (dC : Nat → ClassId) (dI : Nat → Nat → Nat) (q5 q2 q1 q3 qs qo qh qw : Nat) (cyI cyJ : ClassId) (w_o : Int32) (w_f : Int32) (w_r : Int32) (w_b : Int32) (w_a : Int32) (w_l : Int64) (t_S : Nat → Int64) (t_O : Nat → Int32) (t_H : Nat → Int32) (s_n : Int32) (t_W : Nat → Int32) (s_k : Int32) (v_s : Int64) (sz : Nat) (fu : Nat)  (hw_r : w_r ≤ 3) (hV : vc_X5_again fu w_o w_f w_r w_b w_a w_l v_s ) (R : Except String ((Int64) × Int32)) (hR : (cf_X5_again fu w_o w_f w_r w_b w_a w_l v_s ) = R) : vx_Met l yX5_again wsX5_again ({ frames := 6, cells := 0, slots := 0, locals := 148 }) (xw_P [.ref q5] sz (dC, dI) kcl (cl_W q5 q2 q1 q3 qs qo qh qw cyI cyJ w_o w_f w_r w_b w_a w_l t_S t_O t_H s_n t_W s_k v_s) [(cyI, .int), (cyJ, .long)]) (xr_i R (fun u => (cl_W q5 q2 q1 q3 qs qo qh qw cyI cyJ w_o w_f w_r w_b w_a w_l t_S t_O t_H s_n t_W s_k u)) (dC, dI) kcl (va_A (cl_W q5 q2 q1 q3 qs qo qh qw cyI cyJ w_o w_f w_r w_b w_a w_l t_S t_O t_H s_n t_W s_k v_s) sz)) (xr_X R (cl_W q5 q2 q1 q3 qs qo qh qw cyI cyJ w_o w_f w_r w_b w_a w_l t_S t_O t_H s_n t_W s_k v_s) (dC, dI) kcl (va_A (cl_W q5 q2 q1 q3 qs qo qh qw cyI cyJ w_o w_f w_r w_b w_a w_l t_S t_O t_H s_n t_W s_k v_s) sz)) 0 0 (va_A (cl_W q5 q2 q1 q3 qs qo qh qw cyI cyJ w_o w_f w_r w_b w_a w_l t_S t_O t_H s_n t_W s_k v_s) sz) := by
  refine vx_ofW (cc := cX5_again) (maxL := 1) (ret := (some .int)) (by decide) rfl ?_
  intro p e s m args below meth c s₁ B hml hnt hv
  obtain ⟨rfl, hsz, hP, hK, hD0, hZ⟩ := hv
  have hx := B.exec
  have hb := B.bytes
  have hr := B.returns
  have hts := atoms_spec (ws := wsX5_again) B.pre
  have hown : s.vm.findClass RX5 = some m.cls := findClass_of_methodNamed B.named
  have hlocks := B.notSynchronized
  subst hsz
  have hD := hD0.self (sz := s.heap.size)
  generalize hAe : va_A (cl_W q5 q2 q1 q3 qs qo qh qw cyI cyJ w_o w_f w_r w_b w_a w_l t_S t_O t_H s_n t_W s_k v_s) s.heap.size = A at hD hZ ⊢
  have hA : ∀ q : Nat, s.heap.size ≤ q → A q := fun q h => by rw [← hAe]; exact Or.inr h
  have hP : va_P (dC, dI) kcl (cl_W q5 q2 q1 q3 qs qo qh qw cyI cyJ w_o w_f w_r w_b w_a w_l t_S t_O t_H s_n t_W s_k v_s) s.heap := hP
  have h0_ : (Cond.fieldLink RX5 10 "ColourTrier" "setup" "LColourTrier$Setup;").before _ s = true := hts _ (by decide +kernel)
  have h1_ : ∀ w ∈ u_ws RX5 TX5 4, w ∈ wsX5_again := fun w h => List.mem_cons_of_mem _ (List.mem_append_left _ (List.mem_append_left _ (List.mem_append_right _ h)))
  have h2_ : (Cond.fieldLink RX5 38 "ColourTrier" "state" "J").before _ s = true := hts _ (by decide +kernel)
  have h3_ : (Cond.fieldLink RX5 21 "ColourTrier" "moves" "LColourTrier$Moves;").before _ s = true := hts _ (by decide +kernel)
  have hl := lv_entry ([.ref q5]) (n := 1) (Nat.le_of_ble_eq_true rfl)
  rw [lg_entry_eq]
  generalize (lg_sl ([.ref q5]) ++ List.replicate (1 - (lg_sl ([.ref q5])).length) Slot.unset).toArray = ls at hl ⊢
  have hl : lv_has ls 1 [(0, .ref q5)] := hl
  unfold cf_X5_again at hR
  unfold vc_X5_again at hV
  refine mu_start (A := A) (fun H locs hP hS => ?_) hP
  refine lv_aload_n hx hb dX5_again_0 rfl (lv_at hl 0 rfl) ?_
  refine lv_aload_n hx hb dX5_again_1 rfl (lv_at hl 0 rfl) ?_
  refine va_get (D := (dC, dI)) (ci := 3) (v := .ref q3) (C := RX5) (T := TX5) (N := 4) hx hb hts h1_ hown hK hP 0 rfl rfl 0 (by decide) h0_ (fun _ h9 => h9) rfl dX5_again_2 ?_
  refine rd_calll (va_runV (As := []) (rest := [.ref q5]) ⟨hx, hb, hml, hown, hts⟩ (c_X3_firstState l dC dI q3 w_o w_f w_r w_b w_a w_l  ) (cwV 0 hts gX5_again_X3_firstState rfl rfl rfl (by decide +kernel) ⟨Nat.le_of_ble_eq_true rfl, Nat.le_of_ble_eq_true rfl⟩) ⟨rd_blind, va_recv hK hP (ci := 2) (q0 := 3) rfl rfl, fun U hU hW => ⟨rfl, by rw [hU]; exact (hP.sub [3] rfl), va_K.moved hW.alike (hK.sub [] rfl)⟩⟩ rfl rfl hl.1 rfl (lv_room (Nat.le_of_ble_eq_true rfl)) dX5_again_5 ⟨Nat.le_of_ble_eq_true rfl, Nat.le_of_ble_eq_true rfl⟩) ?_
  refine va_put (D := (dC, dI)) (ci := 3) (v := .long (cf_X3_firstState w_o w_f w_r w_b w_a w_l )) (ty := .long) (C := RX5) (T := TX5) (N := 4) hx hb hts h1_ tyX5 tyX5_ok nmX5 hown hK hP hD hS 0 rfl rfl 3 (by decide) h2_ (fun _ h9 => h9) rfl (by decide +kernel) rfl rfl (Nat.le_of_ble_eq_true rfl) dX5_again_8 (fun H locs hP hD hS => ?_)
  have hP : va_P (dC, dI) kcl (cl_W q5 q2 q1 q3 qs qo qh qw cyI cyJ w_o w_f w_r w_b w_a w_l t_S t_O t_H s_n t_W s_k (cf_X3_firstState w_o w_f w_r w_b w_a w_l )) H := hP
  have hD : va_D A (cl_W q5 q2 q1 q3 qs qo qh qw cyI cyJ w_o w_f w_r w_b w_a w_l t_S t_O t_H s_n t_W s_k (cf_X3_firstState w_o w_f w_r w_b w_a w_l )) := hD
  refine lv_aload_n hx hb dX5_again_11 rfl (lv_at hl 0 rfl) ?_
  refine va_get (D := (dC, dI)) (ci := 3) (v := .ref q1) (C := RX5) (T := TX5) (N := 4) hx hb hts h1_ hown hK hP 0 rfl rfl 1 (by decide) h3_ (fun _ h9 => h9) rfl dX5_again_12 ?_
  refine lv_aload_n hx hb dX5_again_15 rfl (lv_at hl 0 rfl) ?_
  refine va_get (D := (dC, dI)) (ci := 3) (v := .long (cf_X3_firstState w_o w_f w_r w_b w_a w_l )) (C := RX5) (T := TX5) (N := 4) hx hb hts h1_ hown hK hP 0 rfl rfl 3 (by decide) h2_ (fun _ h9 => h9) rfl dX5_again_16 ?_
  obtain ⟨hv1, hV⟩ := hV
  refine rd_calli (va_runV (As := [.long (cf_X3_firstState w_o w_f w_r w_b w_a w_l )]) (rest := []) ⟨hx, hb, hml, hown, hts⟩ (c_X1_possibleActs l dC dI q1 q3  w_o w_f w_r w_b w_a w_l fu (cf_X3_firstState w_o w_f w_r w_b w_a w_l ) hw_r hv1) (cwV 1 hts gX5_again_X1_possibleActs rfl rfl rfl (by decide +kernel) ⟨Nat.le_of_ble_eq_true rfl, Nat.le_of_ble_eq_true rfl⟩) ⟨rd_blind, va_recv hK hP (ci := 0) (q0 := 2) rfl rfl, fun U hU hW => ⟨rfl, by rw [hU]; exact (hP.sub [2, 3] rfl), va_K.moved hW.alike (hK.sub [] rfl)⟩⟩ rfl rfl hl.1 rfl (lv_room (Nat.le_of_ble_eq_true rfl)) dX5_again_19 ⟨Nat.le_of_ble_eq_true rfl, Nat.le_of_ble_eq_true rfl⟩) ?_
  refine W.widen (k := 0) (n := 0) (by decide) (by decide) (vx_ret ?_)
  exact W.iret (v := (cf_X1_possibleActs fu w_o w_f w_r w_b w_a w_l (cf_X3_firstState w_o w_f w_r w_b w_a w_l ))) hx hb hr (fun t ht _ => ⟨⟨(cf_X1_possibleActs fu w_o w_f w_r w_b w_a w_l (cf_X3_firstState w_o w_f w_r w_b w_a w_l )), (cf_X3_firstState w_o w_f w_r w_b w_a w_l ), rfl, hR.symm, show va_P (dC, dI) kcl (cl_W q5 q2 q1 q3 qs qo qh qw cyI cyJ w_o w_f w_r w_b w_a w_l t_S t_O t_H s_n t_W s_k (cf_X3_firstState w_o w_f w_r w_b w_a w_l )) t.heap by rw [ht]; exact hP⟩, hS.F ht⟩) hS.2.2 dX5_again_22
def cf_X5_broken (v_s : Int64) (a0 : Int32) : Except String ((Unit) × Int32) :=
  (if a0 < (0 : Int32) ∨ ¬ a0 ≤ (3 : Int32) then (Except.error ex_A) else (Except.ok ((), (cf_X0_isBroken v_s a0))))
set_option maxHeartbeats 4000000 in
set_option maxRecDepth 100000 in
theorem c_X5_broken (l : Launch) (hl0 : l.stackTraces = false) (dC : Nat → ClassId) (dI : Nat → Nat → Nat) (q5 q2 q1 q3 qs qo qh qw : Nat) (cyI cyJ : ClassId) (w_o : Int32) (w_f : Int32) (w_r : Int32) (w_b : Int32) (w_a : Int32) (w_l : Int64) (t_S : Nat → Int64) (t_O : Nat → Int32) (t_H : Nat → Int32) (s_n : Int32) (t_W : Nat → Int32) (s_k : Int32) (v_s : Int64) (sz : Nat) (a0 : Int32)   (R : Except String ((Unit) × Int32)) (hR : (cf_X5_broken v_s a0) = R) : vx_Met l yX5_broken wsX5_broken ({ frames := 7, cells := 1, slots := 6, locals := 107 }) (xw_P [.ref q5, .int a0] sz (dC, dI) kcl (cl_W q5 q2 q1 q3 qs qo qh qw cyI cyJ w_o w_f w_r w_b w_a w_l t_S t_O t_H s_n t_W s_k v_s) [(cyI, .int), (cyJ, .long)]) (xr_i R (fun _ => (cl_W q5 q2 q1 q3 qs qo qh qw cyI cyJ w_o w_f w_r w_b w_a w_l t_S t_O t_H s_n t_W s_k v_s)) (dC, dI) kcl (va_A (cl_W q5 q2 q1 q3 qs qo qh qw cyI cyJ w_o w_f w_r w_b w_a w_l t_S t_O t_H s_n t_W s_k v_s) sz)) (xr_X R (cl_W q5 q2 q1 q3 qs qo qh qw cyI cyJ w_o w_f w_r w_b w_a w_l t_S t_O t_H s_n t_W s_k v_s) (dC, dI) kcl (va_A (cl_W q5 q2 q1 q3 qs qo qh qw cyI cyJ w_o w_f w_r w_b w_a w_l t_S t_O t_H s_n t_W s_k v_s) sz)) 1 6 (va_A (cl_W q5 q2 q1 q3 qs qo qh qw cyI cyJ w_o w_f w_r w_b w_a w_l t_S t_O t_H s_n t_W s_k v_s) sz) := by
  refine vx_ofW (cc := cX5_broken) (maxL := 2) (ret := (some .boolean)) (by decide) rfl ?_
  intro p e s m args below meth c s₁ B hml hnt hv
  obtain ⟨rfl, hsz, hP, hK, hD0, hZ⟩ := hv
  have hx := B.exec
  have hb := B.bytes
  have hr := B.returns
  have hts := atoms_spec (ws := wsX5_broken) B.pre
  have hown : s.vm.findClass RX5 = some m.cls := findClass_of_methodNamed B.named
  have hlocks := B.notSynchronized
  subst hsz
  have hD := hD0.self (sz := s.heap.size)
  generalize hAe : va_A (cl_W q5 q2 q1 q3 qs qo qh qw cyI cyJ w_o w_f w_r w_b w_a w_l t_S t_O t_H s_n t_W s_k v_s) s.heap.size = A at hD hZ ⊢
  have hA : ∀ q : Nat, s.heap.size ≤ q → A q := fun q h => by rw [← hAe]; exact Or.inr h
  have hP : va_P (dC, dI) kcl (cl_W q5 q2 q1 q3 qs qo qh qw cyI cyJ w_o w_f w_r w_b w_a w_l t_S t_O t_H s_n t_W s_k v_s) s.heap := hP
  have h0_ : (Cond.fieldLink RX5 38 "ColourTrier" "state" "J").before _ s = true := hts _ (by decide +kernel)
  have h1_ : ∀ w ∈ u_ws RX5 TX5 4, w ∈ wsX5_broken := fun w h => List.mem_cons_of_mem _ (List.mem_append_left _ (List.mem_append_right _ h))
  have hl := lv_entry ([.ref q5, .int a0]) (n := 2) (Nat.le_of_ble_eq_true rfl)
  rw [lg_entry_eq]
  generalize (lg_sl ([.ref q5, .int a0]) ++ List.replicate (2 - (lg_sl ([.ref q5, .int a0])).length) Slot.unset).toArray = ls at hl ⊢
  have hl : lv_has ls 2 [(0, .ref q5), (1, .int a0)] := hl
  unfold cf_X5_broken at hR
  refine mu_start (A := A) (fun H locs hP hS => ?_) hP
  refine lv_iload_n hx hb dX5_broken_0 rfl (lv_at hl 1 rfl) ?_
  refine lv_iconst (v := (0 : Int32)) hx hb dX5_broken_1 (by decide +kernel) ?_
  refine lv_iconst (v := (3 : Int32)) hx hb dX5_broken_2 (by decide +kernel) ?_
  refine xm_call (x := a0) (lo := (0 : Int32)) (hi := (3 : Int32)) (rest := []) hl0 ⟨hx, hb, hml, hown, hts⟩ gX5_broken_X5_mustLieWithin ⟨Nat.le_of_ble_eq_true rfl, Nat.le_of_ble_eq_true rfl⟩ ⟨Nat.le_of_ble_eq_true rfl, Nat.le_of_ble_eq_true rfl⟩ hZ hP hS hA hl.1 (by decide) dX5_broken_3 (fun hcx H locs ce q9 hP hS hce hv9 hcl => ?_) (fun hc1 hc2 H locs hP hS => ?_)
  · rw [if_pos hcx] at hR
    refine vx_widen (k := 1) (n := 6) (by decide) (by decide) (vx_out (fun x hx => absurd (hnt x hx) id) hlocks hce hv9 hcl (fun t ht _ => ⟨(), trivial, ⟨hR.symm, by rw [ht]; exact hP⟩, hS.F ht⟩) hS.2.2 (Nat.le_refl _) (Nat.le_refl _))
  · rw [if_neg (fun z => z.elim hc1 (fun y => y hc2))] at hR
    have hP : va_P (dC, dI) kcl (cl_W q5 q2 q1 q3 qs qo qh qw cyI cyJ w_o w_f w_r w_b w_a w_l t_S t_O t_H s_n t_W s_k v_s) H := hP
    refine lv_aload_n hx hb dX5_broken_6 rfl (lv_at hl 0 rfl) ?_
    refine va_get (D := (dC, dI)) (ci := 3) (v := .long v_s) (C := RX5) (T := TX5) (N := 4) hx hb hts h1_ hown hK hP 0 rfl rfl 3 (by decide) h0_ (fun _ h9 => h9) rfl dX5_broken_7 ?_
    refine lv_iload_n hx hb dX5_broken_10 rfl (lv_at hl 1 rfl) ?_
    refine rd_calli (va_runS (As := [.long v_s, .int a0]) (rest := []) ⟨hx, hb, hml, hown, hts⟩ (c_X0_isBroken l v_s a0) (va_cwS 2 hts gX5_broken_X0_isBroken rfl rfl rfl (by decide +kernel) ⟨Nat.le_of_ble_eq_true rfl, Nat.le_of_ble_eq_true rfl⟩) ⟨pu_blind, fun U hU hW => rfl⟩ rfl rfl hl.1 rfl (lv_room (Nat.le_of_ble_eq_true rfl)) dX5_broken_11 ⟨Nat.le_of_ble_eq_true rfl, Nat.le_of_ble_eq_true rfl⟩) ?_
    refine W.widen (k := 1) (n := 6) (by decide) (by decide) (vx_ret ?_)
    exact W.zret (ty := .boolean) (v := (cf_X0_isBroken v_s a0)) hx hb hr (nz_X0 _ _) (fun t ht _ => ⟨⟨(cf_X0_isBroken v_s a0), (), rfl, hR.symm, show va_P (dC, dI) kcl (cl_W q5 q2 q1 q3 qs qo qh qw cyI cyJ w_o w_f w_r w_b w_a w_l t_S t_O t_H s_n t_W s_k v_s) t.heap by rw [ht]; exact hP⟩, hS.F ht⟩) hS.2.2 dX5_broken_14
def cf_X5_colour (w_o : Int32) (v_s : Int64) (a0 : Int32) : Except String ((Unit) × Int32) :=
  (if a0 < (0 : Int32) ∨ ¬ a0 ≤ (w_o - (1 : Int32)) then (Except.error ex_A) else (if (cf_X4_isBlack v_s a0) = 0 then (if (cf_X4_isWhite v_s a0) = 0 then (Except.ok ((), (1 : Int32))) else (Except.ok ((), (0 : Int32)))) else (Except.ok ((), (2 : Int32)))))
set_option maxHeartbeats 4000000 in
set_option maxRecDepth 100000 in
theorem c_X5_colour (l : Launch) (hl0 : l.stackTraces = false) (dC : Nat → ClassId) (dI : Nat → Nat → Nat) (q5 q2 q1 q3 qs qo qh qw : Nat) (cyI cyJ : ClassId) (w_o : Int32) (w_f : Int32) (w_r : Int32) (w_b : Int32) (w_a : Int32) (w_l : Int64) (t_S : Nat → Int64) (t_O : Nat → Int32) (t_H : Nat → Int32) (s_n : Int32) (t_W : Nat → Int32) (s_k : Int32) (v_s : Int64) (sz : Nat) (a0 : Int32)   (R : Except String ((Unit) × Int32)) (hR : (cf_X5_colour w_o v_s a0) = R) : vx_Met l yX5_colour wsX5_colour ({ frames := 7, cells := 1, slots := 6, locals := 104 }) (xw_P [.ref q5, .int a0] sz (dC, dI) kcl (cl_W q5 q2 q1 q3 qs qo qh qw cyI cyJ w_o w_f w_r w_b w_a w_l t_S t_O t_H s_n t_W s_k v_s) [(cyI, .int), (cyJ, .long)]) (xr_i R (fun _ => (cl_W q5 q2 q1 q3 qs qo qh qw cyI cyJ w_o w_f w_r w_b w_a w_l t_S t_O t_H s_n t_W s_k v_s)) (dC, dI) kcl (va_A (cl_W q5 q2 q1 q3 qs qo qh qw cyI cyJ w_o w_f w_r w_b w_a w_l t_S t_O t_H s_n t_W s_k v_s) sz)) (xr_X R (cl_W q5 q2 q1 q3 qs qo qh qw cyI cyJ w_o w_f w_r w_b w_a w_l t_S t_O t_H s_n t_W s_k v_s) (dC, dI) kcl (va_A (cl_W q5 q2 q1 q3 qs qo qh qw cyI cyJ w_o w_f w_r w_b w_a w_l t_S t_O t_H s_n t_W s_k v_s) sz)) 1 6 (va_A (cl_W q5 q2 q1 q3 qs qo qh qw cyI cyJ w_o w_f w_r w_b w_a w_l t_S t_O t_H s_n t_W s_k v_s) sz) := by
  refine vx_ofW (cc := cX5_colour) (maxL := 2) (ret := (some .int)) (by decide) rfl ?_
  intro p e s m args below meth c s₁ B hml hnt hv
  obtain ⟨rfl, hsz, hP, hK, hD0, hZ⟩ := hv
  have hx := B.exec
  have hb := B.bytes
  have hr := B.returns
  have hts := atoms_spec (ws := wsX5_colour) B.pre
  have hown : s.vm.findClass RX5 = some m.cls := findClass_of_methodNamed B.named
  have hlocks := B.notSynchronized
  subst hsz
  have hD := hD0.self (sz := s.heap.size)
  generalize hAe : va_A (cl_W q5 q2 q1 q3 qs qo qh qw cyI cyJ w_o w_f w_r w_b w_a w_l t_S t_O t_H s_n t_W s_k v_s) s.heap.size = A at hD hZ ⊢
  have hA : ∀ q : Nat, s.heap.size ≤ q → A q := fun q h => by rw [← hAe]; exact Or.inr h
  have hP : va_P (dC, dI) kcl (cl_W q5 q2 q1 q3 qs qo qh qw cyI cyJ w_o w_f w_r w_b w_a w_l t_S t_O t_H s_n t_W s_k v_s) s.heap := hP
  have h0_ : (Cond.fieldLink RX5 10 "ColourTrier" "setup" "LColourTrier$Setup;").before _ s = true := hts _ (by decide +kernel)
  have h1_ : ∀ w ∈ u_ws RX5 TX5 4, w ∈ wsX5_colour := fun w h => List.mem_cons_of_mem _ (List.mem_append_left _ (List.mem_append_left _ (List.mem_append_right _ h)))
  have h2_ : (Cond.fieldLink RX5 49 "ColourTrier$Setup" "objects" "I").before _ s = true := hts _ (by decide +kernel)
  have h3_ : ∀ w ∈ u_ws RX3 TX3 6, w ∈ wsX5_colour := fun w h => List.mem_cons_of_mem _ (List.mem_append_left _ (List.mem_append_right _ h))
  have h4_ : (Cond.fieldLink RX5 38 "ColourTrier" "state" "J").before _ s = true := hts _ (by decide +kernel)
  have hl := lv_entry ([.ref q5, .int a0]) (n := 2) (Nat.le_of_ble_eq_true rfl)
  rw [lg_entry_eq]
  generalize (lg_sl ([.ref q5, .int a0]) ++ List.replicate (2 - (lg_sl ([.ref q5, .int a0])).length) Slot.unset).toArray = ls at hl ⊢
  have hl : lv_has ls 2 [(0, .ref q5), (1, .int a0)] := hl
  unfold cf_X5_colour at hR
  refine mu_start (A := A) (fun H locs hP hS => ?_) hP
  refine lv_iload_n hx hb dX5_colour_0 rfl (lv_at hl 1 rfl) ?_
  refine lv_iconst (v := (0 : Int32)) hx hb dX5_colour_1 (by decide +kernel) ?_
  refine lv_aload_n hx hb dX5_colour_2 rfl (lv_at hl 0 rfl) ?_
  refine va_get (D := (dC, dI)) (ci := 3) (v := .ref q3) (C := RX5) (T := TX5) (N := 4) hx hb hts h1_ hown hK hP 0 rfl rfl 0 (by decide) h0_ (fun _ h9 => h9) rfl dX5_colour_3 ?_
  refine va_get (D := (dC, dI)) (ci := 2) (v := .int w_o) (C := RX3) (T := TX3) (N := 6) hx hb hts h3_ hown hK hP 3 rfl rfl 0 (by decide) h2_ (fun _ h9 => h9) rfl dX5_colour_6 ?_
  refine lv_iconst (v := (1 : Int32)) hx hb dX5_colour_9 (by decide +kernel) ?_
  refine lv_isub hx hb dX5_colour_10 ?_
  refine xm_call (x := a0) (lo := (0 : Int32)) (hi := (w_o - (1 : Int32))) (rest := []) hl0 ⟨hx, hb, hml, hown, hts⟩ gX5_colour_X5_mustLieWithin ⟨Nat.le_of_ble_eq_true rfl, Nat.le_of_ble_eq_true rfl⟩ ⟨Nat.le_of_ble_eq_true rfl, Nat.le_of_ble_eq_true rfl⟩ hZ hP hS hA hl.1 (by decide) dX5_colour_11 (fun hcx H locs ce q9 hP hS hce hv9 hcl => ?_) (fun hc1 hc2 H locs hP hS => ?_)
  · rw [if_pos hcx] at hR
    refine vx_widen (k := 1) (n := 6) (by decide) (by decide) (vx_out (fun x hx => absurd (hnt x hx) id) hlocks hce hv9 hcl (fun t ht _ => ⟨(), trivial, ⟨hR.symm, by rw [ht]; exact hP⟩, hS.F ht⟩) hS.2.2 (Nat.le_refl _) (Nat.le_refl _))
  · rw [if_neg (fun z => z.elim hc1 (fun y => y hc2))] at hR
    have hP : va_P (dC, dI) kcl (cl_W q5 q2 q1 q3 qs qo qh qw cyI cyJ w_o w_f w_r w_b w_a w_l t_S t_O t_H s_n t_W s_k v_s) H := hP
    refine lv_aload_n hx hb dX5_colour_14 rfl (lv_at hl 0 rfl) ?_
    refine va_get (D := (dC, dI)) (ci := 3) (v := .long v_s) (C := RX5) (T := TX5) (N := 4) hx hb hts h1_ hown hK hP 0 rfl rfl 3 (by decide) h4_ (fun _ h9 => h9) rfl dX5_colour_15 ?_
    refine lv_iload_n hx hb dX5_colour_18 rfl (lv_at hl 1 rfl) ?_
    refine rd_calli (va_runS (As := [.long v_s, .int a0]) (rest := []) ⟨hx, hb, hml, hown, hts⟩ (c_X4_isBlack l v_s a0) (va_cwS 2 hts gX5_colour_X4_isBlack rfl rfl rfl (by decide +kernel) ⟨Nat.le_of_ble_eq_true rfl, Nat.le_of_ble_eq_true rfl⟩) ⟨pu_blind, fun U hU hW => rfl⟩ rfl rfl hl.1 rfl (lv_room (Nat.le_of_ble_eq_true rfl)) dX5_colour_19 ⟨Nat.le_of_ble_eq_true rfl, Nat.le_of_ble_eq_true rfl⟩) ?_
    refine lv_if_eq (tgt := 27) hx hb dX5_colour_22 (by decide) (fun c_1 => ?_) (fun c_1 => ?_)
    · rw [if_pos c_1] at hR
      refine lv_aload_n hx hb dX5_colour_27 rfl (lv_at hl 0 rfl) ?_
      refine va_get (D := (dC, dI)) (ci := 3) (v := .long v_s) (C := RX5) (T := TX5) (N := 4) hx hb hts h1_ hown hK hP 0 rfl rfl 3 (by decide) h4_ (fun _ h9 => h9) rfl dX5_colour_28 ?_
      refine lv_iload_n hx hb dX5_colour_31 rfl (lv_at hl 1 rfl) ?_
      refine rd_calli (va_runS (As := [.long v_s, .int a0]) (rest := []) ⟨hx, hb, hml, hown, hts⟩ (c_X4_isWhite l v_s a0) (va_cwS 2 hts gX5_colour_X4_isWhite rfl rfl rfl (by decide +kernel) ⟨Nat.le_of_ble_eq_true rfl, Nat.le_of_ble_eq_true rfl⟩) ⟨pu_blind, fun U hU hW => rfl⟩ rfl rfl hl.1 rfl (lv_room (Nat.le_of_ble_eq_true rfl)) dX5_colour_32 ⟨Nat.le_of_ble_eq_true rfl, Nat.le_of_ble_eq_true rfl⟩) ?_
      refine lv_if_eq (tgt := 42) hx hb dX5_colour_35 (by decide) (fun c_2 => ?_) (fun c_2 => ?_)
      · rw [if_pos c_2] at hR
        refine lv_iconst (v := (1 : Int32)) hx hb dX5_colour_42 (by decide +kernel) ?_
        refine W.widen (k := 1) (n := 6) (by decide) (by decide) (vx_ret ?_)
        exact W.iret (v := (1 : Int32)) hx hb hr (fun t ht _ => ⟨⟨(1 : Int32), (), rfl, hR.symm, show va_P (dC, dI) kcl (cl_W q5 q2 q1 q3 qs qo qh qw cyI cyJ w_o w_f w_r w_b w_a w_l t_S t_O t_H s_n t_W s_k v_s) t.heap by rw [ht]; exact hP⟩, hS.F ht⟩) hS.2.2 dX5_colour_43
      · rw [if_neg c_2] at hR
        refine lv_iconst (v := (0 : Int32)) hx hb dX5_colour_38 (by decide +kernel) ?_
        refine lv_goto (tgt := 43) hx hb dX5_colour_39 (by decide) ?_
        refine W.widen (k := 1) (n := 6) (by decide) (by decide) (vx_ret ?_)
        exact W.iret (v := (0 : Int32)) hx hb hr (fun t ht _ => ⟨⟨(0 : Int32), (), rfl, hR.symm, show va_P (dC, dI) kcl (cl_W q5 q2 q1 q3 qs qo qh qw cyI cyJ w_o w_f w_r w_b w_a w_l t_S t_O t_H s_n t_W s_k v_s) t.heap by rw [ht]; exact hP⟩, hS.F ht⟩) hS.2.2 dX5_colour_43
    · rw [if_neg c_1] at hR
      refine lv_iconst (v := (2 : Int32)) hx hb dX5_colour_25 (by decide +kernel) ?_
      refine W.widen (k := 1) (n := 6) (by decide) (by decide) (vx_ret ?_)
      exact W.iret (v := (2 : Int32)) hx hb hr (fun t ht _ => ⟨⟨(2 : Int32), (), rfl, hR.symm, show va_P (dC, dI) kcl (cl_W q5 q2 q1 q3 qs qo qh qw cyI cyJ w_o w_f w_r w_b w_a w_l t_S t_O t_H s_n t_W s_k v_s) t.heap by rw [ht]; exact hP⟩, hS.F ht⟩) hS.2.2 dX5_colour_26
def cf_X5_field (w_o : Int32) (w_f : Int32) (v_s : Int64) (a0 : Int32) (a1 : Int32) : Except String ((Unit) × Int32) :=
  (if a0 < (0 : Int32) ∨ ¬ a0 ≤ (w_o - (1 : Int32)) then (Except.error ex_A) else (if a1 < (0 : Int32) ∨ ¬ a1 ≤ (w_f - (1 : Int32)) then (Except.error ex_A) else (Except.ok ((), (cf_X4_inField v_s a0 a1)))))
set_option maxHeartbeats 4000000 in
set_option maxRecDepth 100000 in
theorem c_X5_field (l : Launch) (hl0 : l.stackTraces = false) (dC : Nat → ClassId) (dI : Nat → Nat → Nat) (q5 q2 q1 q3 qs qo qh qw : Nat) (cyI cyJ : ClassId) (w_o : Int32) (w_f : Int32) (w_r : Int32) (w_b : Int32) (w_a : Int32) (w_l : Int64) (t_S : Nat → Int64) (t_O : Nat → Int32) (t_H : Nat → Int32) (s_n : Int32) (t_W : Nat → Int32) (s_k : Int32) (v_s : Int64) (sz : Nat) (a0 : Int32) (a1 : Int32)   (R : Except String ((Unit) × Int32)) (hR : (cf_X5_field w_o w_f v_s a0 a1) = R) : vx_Met l yX5_field wsX5_field ({ frames := 7, cells := 2, slots := 12, locals := 104 }) (xw_P [.ref q5, .int a0, .int a1] sz (dC, dI) kcl (cl_W q5 q2 q1 q3 qs qo qh qw cyI cyJ w_o w_f w_r w_b w_a w_l t_S t_O t_H s_n t_W s_k v_s) [(cyI, .int), (cyJ, .long)]) (xr_i R (fun _ => (cl_W q5 q2 q1 q3 qs qo qh qw cyI cyJ w_o w_f w_r w_b w_a w_l t_S t_O t_H s_n t_W s_k v_s)) (dC, dI) kcl (va_A (cl_W q5 q2 q1 q3 qs qo qh qw cyI cyJ w_o w_f w_r w_b w_a w_l t_S t_O t_H s_n t_W s_k v_s) sz)) (xr_X R (cl_W q5 q2 q1 q3 qs qo qh qw cyI cyJ w_o w_f w_r w_b w_a w_l t_S t_O t_H s_n t_W s_k v_s) (dC, dI) kcl (va_A (cl_W q5 q2 q1 q3 qs qo qh qw cyI cyJ w_o w_f w_r w_b w_a w_l t_S t_O t_H s_n t_W s_k v_s) sz)) 2 12 (va_A (cl_W q5 q2 q1 q3 qs qo qh qw cyI cyJ w_o w_f w_r w_b w_a w_l t_S t_O t_H s_n t_W s_k v_s) sz) := by
  refine vx_ofW (cc := cX5_field) (maxL := 3) (ret := (some .int)) (by decide) rfl ?_
  intro p e s m args below meth c s₁ B hml hnt hv
  obtain ⟨rfl, hsz, hP, hK, hD0, hZ⟩ := hv
  have hx := B.exec
  have hb := B.bytes
  have hr := B.returns
  have hts := atoms_spec (ws := wsX5_field) B.pre
  have hown : s.vm.findClass RX5 = some m.cls := findClass_of_methodNamed B.named
  have hlocks := B.notSynchronized
  subst hsz
  have hD := hD0.self (sz := s.heap.size)
  generalize hAe : va_A (cl_W q5 q2 q1 q3 qs qo qh qw cyI cyJ w_o w_f w_r w_b w_a w_l t_S t_O t_H s_n t_W s_k v_s) s.heap.size = A at hD hZ ⊢
  have hA : ∀ q : Nat, s.heap.size ≤ q → A q := fun q h => by rw [← hAe]; exact Or.inr h
  have hP : va_P (dC, dI) kcl (cl_W q5 q2 q1 q3 qs qo qh qw cyI cyJ w_o w_f w_r w_b w_a w_l t_S t_O t_H s_n t_W s_k v_s) s.heap := hP
  have h0_ : (Cond.fieldLink RX5 10 "ColourTrier" "setup" "LColourTrier$Setup;").before _ s = true := hts _ (by decide +kernel)
  have h1_ : ∀ w ∈ u_ws RX5 TX5 4, w ∈ wsX5_field := fun w h => List.mem_cons_of_mem _ (List.mem_append_left _ (List.mem_append_left _ (List.mem_append_right _ h)))
  have h2_ : (Cond.fieldLink RX5 49 "ColourTrier$Setup" "objects" "I").before _ s = true := hts _ (by decide +kernel)
  have h3_ : ∀ w ∈ u_ws RX3 TX3 6, w ∈ wsX5_field := fun w h => List.mem_cons_of_mem _ (List.mem_append_left _ (List.mem_append_right _ h))
  have h4_ : (Cond.fieldLink RX5 53 "ColourTrier$Setup" "fields" "I").before _ s = true := hts _ (by decide +kernel)
  have h5_ : (Cond.fieldLink RX5 38 "ColourTrier" "state" "J").before _ s = true := hts _ (by decide +kernel)
  have hl := lv_entry ([.ref q5, .int a0, .int a1]) (n := 3) (Nat.le_of_ble_eq_true rfl)
  rw [lg_entry_eq]
  generalize (lg_sl ([.ref q5, .int a0, .int a1]) ++ List.replicate (3 - (lg_sl ([.ref q5, .int a0, .int a1])).length) Slot.unset).toArray = ls at hl ⊢
  have hl : lv_has ls 3 [(0, .ref q5), (1, .int a0), (2, .int a1)] := hl
  unfold cf_X5_field at hR
  refine mu_start (A := A) (fun H locs hP hS => ?_) hP
  refine lv_iload_n hx hb dX5_field_0 rfl (lv_at hl 1 rfl) ?_
  refine lv_iconst (v := (0 : Int32)) hx hb dX5_field_1 (by decide +kernel) ?_
  refine lv_aload_n hx hb dX5_field_2 rfl (lv_at hl 0 rfl) ?_
  refine va_get (D := (dC, dI)) (ci := 3) (v := .ref q3) (C := RX5) (T := TX5) (N := 4) hx hb hts h1_ hown hK hP 0 rfl rfl 0 (by decide) h0_ (fun _ h9 => h9) rfl dX5_field_3 ?_
  refine va_get (D := (dC, dI)) (ci := 2) (v := .int w_o) (C := RX3) (T := TX3) (N := 6) hx hb hts h3_ hown hK hP 3 rfl rfl 0 (by decide) h2_ (fun _ h9 => h9) rfl dX5_field_6 ?_
  refine lv_iconst (v := (1 : Int32)) hx hb dX5_field_9 (by decide +kernel) ?_
  refine lv_isub hx hb dX5_field_10 ?_
  refine xm_call (x := a0) (lo := (0 : Int32)) (hi := (w_o - (1 : Int32))) (rest := []) hl0 ⟨hx, hb, hml, hown, hts⟩ gX5_field_X5_mustLieWithin ⟨Nat.le_of_ble_eq_true rfl, Nat.le_of_ble_eq_true rfl⟩ ⟨Nat.le_of_ble_eq_true rfl, Nat.le_of_ble_eq_true rfl⟩ hZ hP hS hA hl.1 (by decide) dX5_field_11 (fun hcx H locs ce q9 hP hS hce hv9 hcl => ?_) (fun hc1 hc2 H locs hP hS => ?_)
  · rw [if_pos hcx] at hR
    refine vx_widen (k := 2) (n := 12) (by decide) (by decide) (vx_out (fun x hx => absurd (hnt x hx) id) hlocks hce hv9 hcl (fun t ht _ => ⟨(), trivial, ⟨hR.symm, by rw [ht]; exact hP⟩, hS.F ht⟩) hS.2.2 (Nat.le_refl _) (Nat.le_refl _))
  · rw [if_neg (fun z => z.elim hc1 (fun y => y hc2))] at hR
    have hP : va_P (dC, dI) kcl (cl_W q5 q2 q1 q3 qs qo qh qw cyI cyJ w_o w_f w_r w_b w_a w_l t_S t_O t_H s_n t_W s_k v_s) H := hP
    refine lv_iload_n hx hb dX5_field_14 rfl (lv_at hl 2 rfl) ?_
    refine lv_iconst (v := (0 : Int32)) hx hb dX5_field_15 (by decide +kernel) ?_
    refine lv_aload_n hx hb dX5_field_16 rfl (lv_at hl 0 rfl) ?_
    refine va_get (D := (dC, dI)) (ci := 3) (v := .ref q3) (C := RX5) (T := TX5) (N := 4) hx hb hts h1_ hown hK hP 0 rfl rfl 0 (by decide) h0_ (fun _ h9 => h9) rfl dX5_field_17 ?_
    refine va_get (D := (dC, dI)) (ci := 2) (v := .int w_f) (C := RX3) (T := TX3) (N := 6) hx hb hts h3_ hown hK hP 3 rfl rfl 1 (by decide) h4_ (fun _ h9 => h9) rfl dX5_field_20 ?_
    refine lv_iconst (v := (1 : Int32)) hx hb dX5_field_23 (by decide +kernel) ?_
    refine lv_isub hx hb dX5_field_24 ?_
    refine xm_call (x := a1) (lo := (0 : Int32)) (hi := (w_f - (1 : Int32))) (rest := []) hl0 ⟨hx, hb, hml, hown, hts⟩ gX5_field_X5_mustLieWithin ⟨Nat.le_of_ble_eq_true rfl, Nat.le_of_ble_eq_true rfl⟩ ⟨Nat.le_of_ble_eq_true rfl, Nat.le_of_ble_eq_true rfl⟩ hZ hP hS hA hl.1 (by decide) dX5_field_25 (fun hcx H locs ce q9 hP hS hce hv9 hcl => ?_) (fun hc1 hc2 H locs hP hS => ?_)
    · rw [if_pos hcx] at hR
      refine vx_widen (k := 2) (n := 12) (by decide) (by decide) (vx_out (fun x hx => absurd (hnt x hx) id) hlocks hce hv9 hcl (fun t ht _ => ⟨(), trivial, ⟨hR.symm, by rw [ht]; exact hP⟩, hS.F ht⟩) hS.2.2 (Nat.le_refl _) (Nat.le_refl _))
    · rw [if_neg (fun z => z.elim hc1 (fun y => y hc2))] at hR
      have hP : va_P (dC, dI) kcl (cl_W q5 q2 q1 q3 qs qo qh qw cyI cyJ w_o w_f w_r w_b w_a w_l t_S t_O t_H s_n t_W s_k v_s) H := hP
      refine lv_aload_n hx hb dX5_field_28 rfl (lv_at hl 0 rfl) ?_
      refine va_get (D := (dC, dI)) (ci := 3) (v := .long v_s) (C := RX5) (T := TX5) (N := 4) hx hb hts h1_ hown hK hP 0 rfl rfl 3 (by decide) h5_ (fun _ h9 => h9) rfl dX5_field_29 ?_
      refine lv_iload_n hx hb dX5_field_32 rfl (lv_at hl 1 rfl) ?_
      refine lv_iload_n hx hb dX5_field_33 rfl (lv_at hl 2 rfl) ?_
      refine rd_calli (va_runS (As := [.long v_s, .int a0, .int a1]) (rest := []) ⟨hx, hb, hml, hown, hts⟩ (c_X4_inField l v_s a0 a1) (va_cwS 3 hts gX5_field_X4_inField rfl rfl rfl (by decide +kernel) ⟨Nat.le_of_ble_eq_true rfl, Nat.le_of_ble_eq_true rfl⟩) ⟨pu_blind, fun U hU hW => rfl⟩ rfl rfl hl.1 rfl (lv_room (Nat.le_of_ble_eq_true rfl)) dX5_field_34 ⟨Nat.le_of_ble_eq_true rfl, Nat.le_of_ble_eq_true rfl⟩) ?_
      refine W.widen (k := 2) (n := 12) (by decide) (by decide) (vx_ret ?_)
      exact W.iret (v := (cf_X4_inField v_s a0 a1)) hx hb hr (fun t ht _ => ⟨⟨(cf_X4_inField v_s a0 a1), (), rfl, hR.symm, show va_P (dC, dI) kcl (cl_W q5 q2 q1 q3 qs qo qh qw cyI cyJ w_o w_f w_r w_b w_a w_l t_S t_O t_H s_n t_W s_k v_s) t.heap by rw [ht]; exact hP⟩, hS.F ht⟩) hS.2.2 dX5_field_37
def cf_X5_has (w_r : Int32) (v_s : Int64) (a0 : Int32) : Except String ((Unit) × Int32) :=
  (if a0 < (0 : Int32) ∨ ¬ a0 ≤ (w_r - (1 : Int32)) then (Except.error ex_A) else (Except.ok ((), (cf_X4_inRoot v_s a0))))
set_option maxHeartbeats 4000000 in
set_option maxRecDepth 100000 in
theorem c_X5_has (l : Launch) (hl0 : l.stackTraces = false) (dC : Nat → ClassId) (dI : Nat → Nat → Nat) (q5 q2 q1 q3 qs qo qh qw : Nat) (cyI cyJ : ClassId) (w_o : Int32) (w_f : Int32) (w_r : Int32) (w_b : Int32) (w_a : Int32) (w_l : Int64) (t_S : Nat → Int64) (t_O : Nat → Int32) (t_H : Nat → Int32) (s_n : Int32) (t_W : Nat → Int32) (s_k : Int32) (v_s : Int64) (sz : Nat) (a0 : Int32)   (R : Except String ((Unit) × Int32)) (hR : (cf_X5_has w_r v_s a0) = R) : vx_Met l yX5_has wsX5_has ({ frames := 7, cells := 1, slots := 6, locals := 104 }) (xw_P [.ref q5, .int a0] sz (dC, dI) kcl (cl_W q5 q2 q1 q3 qs qo qh qw cyI cyJ w_o w_f w_r w_b w_a w_l t_S t_O t_H s_n t_W s_k v_s) [(cyI, .int), (cyJ, .long)]) (xr_i R (fun _ => (cl_W q5 q2 q1 q3 qs qo qh qw cyI cyJ w_o w_f w_r w_b w_a w_l t_S t_O t_H s_n t_W s_k v_s)) (dC, dI) kcl (va_A (cl_W q5 q2 q1 q3 qs qo qh qw cyI cyJ w_o w_f w_r w_b w_a w_l t_S t_O t_H s_n t_W s_k v_s) sz)) (xr_X R (cl_W q5 q2 q1 q3 qs qo qh qw cyI cyJ w_o w_f w_r w_b w_a w_l t_S t_O t_H s_n t_W s_k v_s) (dC, dI) kcl (va_A (cl_W q5 q2 q1 q3 qs qo qh qw cyI cyJ w_o w_f w_r w_b w_a w_l t_S t_O t_H s_n t_W s_k v_s) sz)) 1 6 (va_A (cl_W q5 q2 q1 q3 qs qo qh qw cyI cyJ w_o w_f w_r w_b w_a w_l t_S t_O t_H s_n t_W s_k v_s) sz) := by
  refine vx_ofW (cc := cX5_has) (maxL := 2) (ret := (some .int)) (by decide) rfl ?_
  intro p e s m args below meth c s₁ B hml hnt hv
  obtain ⟨rfl, hsz, hP, hK, hD0, hZ⟩ := hv
  have hx := B.exec
  have hb := B.bytes
  have hr := B.returns
  have hts := atoms_spec (ws := wsX5_has) B.pre
  have hown : s.vm.findClass RX5 = some m.cls := findClass_of_methodNamed B.named
  have hlocks := B.notSynchronized
  subst hsz
  have hD := hD0.self (sz := s.heap.size)
  generalize hAe : va_A (cl_W q5 q2 q1 q3 qs qo qh qw cyI cyJ w_o w_f w_r w_b w_a w_l t_S t_O t_H s_n t_W s_k v_s) s.heap.size = A at hD hZ ⊢
  have hA : ∀ q : Nat, s.heap.size ≤ q → A q := fun q h => by rw [← hAe]; exact Or.inr h
  have hP : va_P (dC, dI) kcl (cl_W q5 q2 q1 q3 qs qo qh qw cyI cyJ w_o w_f w_r w_b w_a w_l t_S t_O t_H s_n t_W s_k v_s) s.heap := hP
  have h0_ : (Cond.fieldLink RX5 10 "ColourTrier" "setup" "LColourTrier$Setup;").before _ s = true := hts _ (by decide +kernel)
  have h1_ : ∀ w ∈ u_ws RX5 TX5 4, w ∈ wsX5_has := fun w h => List.mem_cons_of_mem _ (List.mem_append_left _ (List.mem_append_left _ (List.mem_append_right _ h)))
  have h2_ : (Cond.fieldLink RX5 65 "ColourTrier$Setup" "roots" "I").before _ s = true := hts _ (by decide +kernel)
  have h3_ : ∀ w ∈ u_ws RX3 TX3 6, w ∈ wsX5_has := fun w h => List.mem_cons_of_mem _ (List.mem_append_left _ (List.mem_append_right _ h))
  have h4_ : (Cond.fieldLink RX5 38 "ColourTrier" "state" "J").before _ s = true := hts _ (by decide +kernel)
  have hl := lv_entry ([.ref q5, .int a0]) (n := 2) (Nat.le_of_ble_eq_true rfl)
  rw [lg_entry_eq]
  generalize (lg_sl ([.ref q5, .int a0]) ++ List.replicate (2 - (lg_sl ([.ref q5, .int a0])).length) Slot.unset).toArray = ls at hl ⊢
  have hl : lv_has ls 2 [(0, .ref q5), (1, .int a0)] := hl
  unfold cf_X5_has at hR
  refine mu_start (A := A) (fun H locs hP hS => ?_) hP
  refine lv_iload_n hx hb dX5_has_0 rfl (lv_at hl 1 rfl) ?_
  refine lv_iconst (v := (0 : Int32)) hx hb dX5_has_1 (by decide +kernel) ?_
  refine lv_aload_n hx hb dX5_has_2 rfl (lv_at hl 0 rfl) ?_
  refine va_get (D := (dC, dI)) (ci := 3) (v := .ref q3) (C := RX5) (T := TX5) (N := 4) hx hb hts h1_ hown hK hP 0 rfl rfl 0 (by decide) h0_ (fun _ h9 => h9) rfl dX5_has_3 ?_
  refine va_get (D := (dC, dI)) (ci := 2) (v := .int w_r) (C := RX3) (T := TX3) (N := 6) hx hb hts h3_ hown hK hP 3 rfl rfl 2 (by decide) h2_ (fun _ h9 => h9) rfl dX5_has_6 ?_
  refine lv_iconst (v := (1 : Int32)) hx hb dX5_has_9 (by decide +kernel) ?_
  refine lv_isub hx hb dX5_has_10 ?_
  refine xm_call (x := a0) (lo := (0 : Int32)) (hi := (w_r - (1 : Int32))) (rest := []) hl0 ⟨hx, hb, hml, hown, hts⟩ gX5_has_X5_mustLieWithin ⟨Nat.le_of_ble_eq_true rfl, Nat.le_of_ble_eq_true rfl⟩ ⟨Nat.le_of_ble_eq_true rfl, Nat.le_of_ble_eq_true rfl⟩ hZ hP hS hA hl.1 (by decide) dX5_has_11 (fun hcx H locs ce q9 hP hS hce hv9 hcl => ?_) (fun hc1 hc2 H locs hP hS => ?_)
  · rw [if_pos hcx] at hR
    refine vx_widen (k := 1) (n := 6) (by decide) (by decide) (vx_out (fun x hx => absurd (hnt x hx) id) hlocks hce hv9 hcl (fun t ht _ => ⟨(), trivial, ⟨hR.symm, by rw [ht]; exact hP⟩, hS.F ht⟩) hS.2.2 (Nat.le_refl _) (Nat.le_refl _))
  · rw [if_neg (fun z => z.elim hc1 (fun y => y hc2))] at hR
    have hP : va_P (dC, dI) kcl (cl_W q5 q2 q1 q3 qs qo qh qw cyI cyJ w_o w_f w_r w_b w_a w_l t_S t_O t_H s_n t_W s_k v_s) H := hP
    refine lv_aload_n hx hb dX5_has_14 rfl (lv_at hl 0 rfl) ?_
    refine va_get (D := (dC, dI)) (ci := 3) (v := .long v_s) (C := RX5) (T := TX5) (N := 4) hx hb hts h1_ hown hK hP 0 rfl rfl 3 (by decide) h4_ (fun _ h9 => h9) rfl dX5_has_15 ?_
    refine lv_iload_n hx hb dX5_has_18 rfl (lv_at hl 1 rfl) ?_
    refine rd_calli (va_runS (As := [.long v_s, .int a0]) (rest := []) ⟨hx, hb, hml, hown, hts⟩ (c_X4_inRoot l v_s a0) (va_cwS 2 hts gX5_has_X4_inRoot rfl rfl rfl (by decide +kernel) ⟨Nat.le_of_ble_eq_true rfl, Nat.le_of_ble_eq_true rfl⟩) ⟨pu_blind, fun U hU hW => rfl⟩ rfl rfl hl.1 rfl (lv_room (Nat.le_of_ble_eq_true rfl)) dX5_has_19 ⟨Nat.le_of_ble_eq_true rfl, Nat.le_of_ble_eq_true rfl⟩) ?_
    refine W.widen (k := 1) (n := 6) (by decide) (by decide) (vx_ret ?_)
    exact W.iret (v := (cf_X4_inRoot v_s a0)) hx hb hr (fun t ht _ => ⟨⟨(cf_X4_inRoot v_s a0), (), rfl, hR.symm, show va_P (dC, dI) kcl (cl_W q5 q2 q1 q3 qs qo qh qw cyI cyJ w_o w_f w_r w_b w_a w_l t_S t_O t_H s_n t_W s_k v_s) t.heap by rw [ht]; exact hP⟩, hS.F ht⟩) hS.2.2 dX5_has_22
def cf_X5_count (w_o : Int32) (w_f : Int32) (w_r : Int32) (w_b : Int32) (w_a : Int32) (s_n : Int32) (s_k : Int32) (v_s : Int64) (a0 : Int32) : Except String ((Unit) × Int32) :=
  (if a0 < (0 : Int32) ∨ ¬ a0 ≤ (8 : Int32) then (Except.error ex_A) else (if a0 = 0 then (Except.ok ((), w_o)) else (if a0 = 1 then (Except.ok ((), w_f)) else (if a0 = 2 then (Except.ok ((), w_r)) else (if a0 = 3 then (Except.ok ((), w_b)) else (if a0 = 4 then (Except.ok ((), w_a)) else (if a0 = 5 then (Except.ok ((), s_n)) else (if a0 = 6 then (Except.ok ((), s_k)) else (if a0 = 7 then (if (cf_X4_isOver v_s) = 0 then (Except.ok ((), (0 : Int32))) else (Except.ok ((), (1 : Int32)))) else (Except.ok ((), (cf_X4_actsLeft v_s))))))))))))
set_option maxHeartbeats 4000000 in
set_option maxRecDepth 100000 in
theorem c_X5_count (l : Launch) (hl0 : l.stackTraces = false) (dC : Nat → ClassId) (dI : Nat → Nat → Nat) (q5 q2 q1 q3 qs qo qh qw : Nat) (cyI cyJ : ClassId) (w_o : Int32) (w_f : Int32) (w_r : Int32) (w_b : Int32) (w_a : Int32) (w_l : Int64) (t_S : Nat → Int64) (t_O : Nat → Int32) (t_H : Nat → Int32) (s_n : Int32) (t_W : Nat → Int32) (s_k : Int32) (v_s : Int64) (sz : Nat) (a0 : Int32)   (R : Except String ((Unit) × Int32)) (hR : (cf_X5_count w_o w_f w_r w_b w_a s_n s_k v_s a0) = R) : vx_Met l yX5_count wsX5_count ({ frames := 7, cells := 1, slots := 6, locals := 104 }) (xw_P [.ref q5, .int a0] sz (dC, dI) kcl (cl_W q5 q2 q1 q3 qs qo qh qw cyI cyJ w_o w_f w_r w_b w_a w_l t_S t_O t_H s_n t_W s_k v_s) [(cyI, .int), (cyJ, .long)]) (xr_i R (fun _ => (cl_W q5 q2 q1 q3 qs qo qh qw cyI cyJ w_o w_f w_r w_b w_a w_l t_S t_O t_H s_n t_W s_k v_s)) (dC, dI) kcl (va_A (cl_W q5 q2 q1 q3 qs qo qh qw cyI cyJ w_o w_f w_r w_b w_a w_l t_S t_O t_H s_n t_W s_k v_s) sz)) (xr_X R (cl_W q5 q2 q1 q3 qs qo qh qw cyI cyJ w_o w_f w_r w_b w_a w_l t_S t_O t_H s_n t_W s_k v_s) (dC, dI) kcl (va_A (cl_W q5 q2 q1 q3 qs qo qh qw cyI cyJ w_o w_f w_r w_b w_a w_l t_S t_O t_H s_n t_W s_k v_s) sz)) 1 6 (va_A (cl_W q5 q2 q1 q3 qs qo qh qw cyI cyJ w_o w_f w_r w_b w_a w_l t_S t_O t_H s_n t_W s_k v_s) sz) := by
  refine vx_ofW (cc := cX5_count) (maxL := 2) (ret := (some .int)) (by decide) rfl ?_
  intro p e s m args below meth c s₁ B hml hnt hv
  obtain ⟨rfl, hsz, hP, hK, hD0, hZ⟩ := hv
  have hx := B.exec
  have hb := B.bytes
  have hr := B.returns
  have hts := atoms_spec (ws := wsX5_count) B.pre
  have hown : s.vm.findClass RX5 = some m.cls := findClass_of_methodNamed B.named
  have hlocks := B.notSynchronized
  subst hsz
  have hD := hD0.self (sz := s.heap.size)
  generalize hAe : va_A (cl_W q5 q2 q1 q3 qs qo qh qw cyI cyJ w_o w_f w_r w_b w_a w_l t_S t_O t_H s_n t_W s_k v_s) s.heap.size = A at hD hZ ⊢
  have hA : ∀ q : Nat, s.heap.size ≤ q → A q := fun q h => by rw [← hAe]; exact Or.inr h
  have hP : va_P (dC, dI) kcl (cl_W q5 q2 q1 q3 qs qo qh qw cyI cyJ w_o w_f w_r w_b w_a w_l t_S t_O t_H s_n t_W s_k v_s) s.heap := hP
  have h0_ : (Cond.fieldLink RX5 10 "ColourTrier" "setup" "LColourTrier$Setup;").before _ s = true := hts _ (by decide +kernel)
  have h1_ : ∀ w ∈ u_ws RX5 TX5 4, w ∈ wsX5_count := fun w h => List.mem_cons_of_mem _ (List.mem_append_left _ (List.mem_append_left _ (List.mem_append_left _ (List.mem_append_right _ h))))
  have h2_ : (Cond.fieldLink RX5 49 "ColourTrier$Setup" "objects" "I").before _ s = true := hts _ (by decide +kernel)
  have h3_ : ∀ w ∈ u_ws RX3 TX3 6, w ∈ wsX5_count := fun w h => List.mem_cons_of_mem _ (List.mem_append_left _ (List.mem_append_left _ (List.mem_append_right _ h)))
  have h4_ : (Cond.fieldLink RX5 53 "ColourTrier$Setup" "fields" "I").before _ s = true := hts _ (by decide +kernel)
  have h5_ : (Cond.fieldLink RX5 65 "ColourTrier$Setup" "roots" "I").before _ s = true := hts _ (by decide +kernel)
  have h6_ : (Cond.fieldLink RX5 72 "ColourTrier$Setup" "barriers" "I").before _ s = true := hts _ (by decide +kernel)
  have h7_ : (Cond.fieldLink RX5 75 "ColourTrier$Setup" "acts" "I").before _ s = true := hts _ (by decide +kernel)
  have h8_ : (Cond.fieldLink RX5 30 "ColourTrier" "search" "LColourTrier$Search;").before _ s = true := hts _ (by decide +kernel)
  have h9_ : (Cond.fieldLink RX5 130 "ColourTrier$Search" "stateCount" "I").before _ s = true := hts _ (by decide +kernel)
  have h10_ : ∀ w ∈ u_ws RX2 TX2 7, w ∈ wsX5_count := fun w h => List.mem_cons_of_mem _ (List.mem_append_left _ (List.mem_append_right _ h))
  have h11_ : (Cond.fieldLink RX5 82 "ColourTrier$Search" "rowLength" "I").before _ s = true := hts _ (by decide +kernel)
  have h12_ : (Cond.fieldLink RX5 38 "ColourTrier" "state" "J").before _ s = true := hts _ (by decide +kernel)
  have hl := lv_entry ([.ref q5, .int a0]) (n := 2) (Nat.le_of_ble_eq_true rfl)
  rw [lg_entry_eq]
  generalize (lg_sl ([.ref q5, .int a0]) ++ List.replicate (2 - (lg_sl ([.ref q5, .int a0])).length) Slot.unset).toArray = ls at hl ⊢
  have hl : lv_has ls 2 [(0, .ref q5), (1, .int a0)] := hl
  unfold cf_X5_count at hR
  refine mu_start (A := A) (fun H locs hP hS => ?_) hP
  refine lv_iload_n hx hb dX5_count_0 rfl (lv_at hl 1 rfl) ?_
  refine lv_iconst (v := (0 : Int32)) hx hb dX5_count_1 (by decide +kernel) ?_
  refine lv_bipush (v := (8 : Int32)) hx hb dX5_count_2 (by decide +kernel) ?_
  refine xm_call (x := a0) (lo := (0 : Int32)) (hi := (8 : Int32)) (rest := []) hl0 ⟨hx, hb, hml, hown, hts⟩ gX5_count_X5_mustLieWithin ⟨Nat.le_of_ble_eq_true rfl, Nat.le_of_ble_eq_true rfl⟩ ⟨Nat.le_of_ble_eq_true rfl, Nat.le_of_ble_eq_true rfl⟩ hZ hP hS hA hl.1 (by decide) dX5_count_4 (fun hcx H locs ce q9 hP hS hce hv9 hcl => ?_) (fun hc1 hc2 H locs hP hS => ?_)
  · rw [if_pos hcx] at hR
    refine vx_widen (k := 1) (n := 6) (by decide) (by decide) (vx_out (fun x hx => absurd (hnt x hx) id) hlocks hce hv9 hcl (fun t ht _ => ⟨(), trivial, ⟨hR.symm, by rw [ht]; exact hP⟩, hS.F ht⟩) hS.2.2 (Nat.le_refl _) (Nat.le_refl _))
  · rw [if_neg (fun z => z.elim hc1 (fun y => y hc2))] at hR
    have hP : va_P (dC, dI) kcl (cl_W q5 q2 q1 q3 qs qo qh qw cyI cyJ w_o w_f w_r w_b w_a w_l t_S t_O t_H s_n t_W s_k v_s) H := hP
    refine lv_iload_n hx hb dX5_count_7 rfl (lv_at hl 1 rfl) ?_
    by_cases c_1 : a0 = 0
    · rw [if_pos c_1] at hR
      refine lv_tableIn (off := 48) (tgt := 56) hx hb dX5_count_8 (by rw [c_1]; decide +kernel) (by rw [c_1]; decide +kernel) (by rw [c_1]; decide +kernel) (by decide) ?_
      refine lv_aload_n hx hb dX5_count_56 rfl (lv_at hl 0 rfl) ?_
      refine va_get (D := (dC, dI)) (ci := 3) (v := .ref q3) (C := RX5) (T := TX5) (N := 4) hx hb hts h1_ hown hK hP 0 rfl rfl 0 (by decide) h0_ (fun _ h9 => h9) rfl dX5_count_57 ?_
      refine va_get (D := (dC, dI)) (ci := 2) (v := .int w_o) (C := RX3) (T := TX3) (N := 6) hx hb hts h3_ hown hK hP 3 rfl rfl 0 (by decide) h2_ (fun _ h9 => h9) rfl dX5_count_60 ?_
      refine W.widen (k := 1) (n := 6) (by decide) (by decide) (vx_ret ?_)
      exact W.iret (v := w_o) hx hb hr (fun t ht _ => ⟨⟨w_o, (), rfl, hR.symm, show va_P (dC, dI) kcl (cl_W q5 q2 q1 q3 qs qo qh qw cyI cyJ w_o w_f w_r w_b w_a w_l t_S t_O t_H s_n t_W s_k v_s) t.heap by rw [ht]; exact hP⟩, hS.F ht⟩) hS.2.2 dX5_count_63
    · rw [if_neg c_1] at hR
      by_cases c_2 : a0 = 1
      · rw [if_pos c_2] at hR
        refine lv_tableIn (off := 56) (tgt := 64) hx hb dX5_count_8 (by rw [c_2]; decide +kernel) (by rw [c_2]; decide +kernel) (by rw [c_2]; decide +kernel) (by decide) ?_
        refine lv_aload_n hx hb dX5_count_64 rfl (lv_at hl 0 rfl) ?_
        refine va_get (D := (dC, dI)) (ci := 3) (v := .ref q3) (C := RX5) (T := TX5) (N := 4) hx hb hts h1_ hown hK hP 0 rfl rfl 0 (by decide) h0_ (fun _ h9 => h9) rfl dX5_count_65 ?_
        refine va_get (D := (dC, dI)) (ci := 2) (v := .int w_f) (C := RX3) (T := TX3) (N := 6) hx hb hts h3_ hown hK hP 3 rfl rfl 1 (by decide) h4_ (fun _ h9 => h9) rfl dX5_count_68 ?_
        refine W.widen (k := 1) (n := 6) (by decide) (by decide) (vx_ret ?_)
        exact W.iret (v := w_f) hx hb hr (fun t ht _ => ⟨⟨w_f, (), rfl, hR.symm, show va_P (dC, dI) kcl (cl_W q5 q2 q1 q3 qs qo qh qw cyI cyJ w_o w_f w_r w_b w_a w_l t_S t_O t_H s_n t_W s_k v_s) t.heap by rw [ht]; exact hP⟩, hS.F ht⟩) hS.2.2 dX5_count_71
      · rw [if_neg c_2] at hR
        by_cases c_3 : a0 = 2
        · rw [if_pos c_3] at hR
          refine lv_tableIn (off := 64) (tgt := 72) hx hb dX5_count_8 (by rw [c_3]; decide +kernel) (by rw [c_3]; decide +kernel) (by rw [c_3]; decide +kernel) (by decide) ?_
          refine lv_aload_n hx hb dX5_count_72 rfl (lv_at hl 0 rfl) ?_
          refine va_get (D := (dC, dI)) (ci := 3) (v := .ref q3) (C := RX5) (T := TX5) (N := 4) hx hb hts h1_ hown hK hP 0 rfl rfl 0 (by decide) h0_ (fun _ h9 => h9) rfl dX5_count_73 ?_
          refine va_get (D := (dC, dI)) (ci := 2) (v := .int w_r) (C := RX3) (T := TX3) (N := 6) hx hb hts h3_ hown hK hP 3 rfl rfl 2 (by decide) h5_ (fun _ h9 => h9) rfl dX5_count_76 ?_
          refine W.widen (k := 1) (n := 6) (by decide) (by decide) (vx_ret ?_)
          exact W.iret (v := w_r) hx hb hr (fun t ht _ => ⟨⟨w_r, (), rfl, hR.symm, show va_P (dC, dI) kcl (cl_W q5 q2 q1 q3 qs qo qh qw cyI cyJ w_o w_f w_r w_b w_a w_l t_S t_O t_H s_n t_W s_k v_s) t.heap by rw [ht]; exact hP⟩, hS.F ht⟩) hS.2.2 dX5_count_79
        · rw [if_neg c_3] at hR
          by_cases c_4 : a0 = 3
          · rw [if_pos c_4] at hR
            refine lv_tableIn (off := 72) (tgt := 80) hx hb dX5_count_8 (by rw [c_4]; decide +kernel) (by rw [c_4]; decide +kernel) (by rw [c_4]; decide +kernel) (by decide) ?_
            refine lv_aload_n hx hb dX5_count_80 rfl (lv_at hl 0 rfl) ?_
            refine va_get (D := (dC, dI)) (ci := 3) (v := .ref q3) (C := RX5) (T := TX5) (N := 4) hx hb hts h1_ hown hK hP 0 rfl rfl 0 (by decide) h0_ (fun _ h9 => h9) rfl dX5_count_81 ?_
            refine va_get (D := (dC, dI)) (ci := 2) (v := .int w_b) (C := RX3) (T := TX3) (N := 6) hx hb hts h3_ hown hK hP 3 rfl rfl 3 (by decide) h6_ (fun _ h9 => h9) rfl dX5_count_84 ?_
            refine W.widen (k := 1) (n := 6) (by decide) (by decide) (vx_ret ?_)
            exact W.iret (v := w_b) hx hb hr (fun t ht _ => ⟨⟨w_b, (), rfl, hR.symm, show va_P (dC, dI) kcl (cl_W q5 q2 q1 q3 qs qo qh qw cyI cyJ w_o w_f w_r w_b w_a w_l t_S t_O t_H s_n t_W s_k v_s) t.heap by rw [ht]; exact hP⟩, hS.F ht⟩) hS.2.2 dX5_count_87
          · rw [if_neg c_4] at hR
            by_cases c_5 : a0 = 4
            · rw [if_pos c_5] at hR
              refine lv_tableIn (off := 80) (tgt := 88) hx hb dX5_count_8 (by rw [c_5]; decide +kernel) (by rw [c_5]; decide +kernel) (by rw [c_5]; decide +kernel) (by decide) ?_
              refine lv_aload_n hx hb dX5_count_88 rfl (lv_at hl 0 rfl) ?_
              refine va_get (D := (dC, dI)) (ci := 3) (v := .ref q3) (C := RX5) (T := TX5) (N := 4) hx hb hts h1_ hown hK hP 0 rfl rfl 0 (by decide) h0_ (fun _ h9 => h9) rfl dX5_count_89 ?_
              refine va_get (D := (dC, dI)) (ci := 2) (v := .int w_a) (C := RX3) (T := TX3) (N := 6) hx hb hts h3_ hown hK hP 3 rfl rfl 4 (by decide) h7_ (fun _ h9 => h9) rfl dX5_count_92 ?_
              refine W.widen (k := 1) (n := 6) (by decide) (by decide) (vx_ret ?_)
              exact W.iret (v := w_a) hx hb hr (fun t ht _ => ⟨⟨w_a, (), rfl, hR.symm, show va_P (dC, dI) kcl (cl_W q5 q2 q1 q3 qs qo qh qw cyI cyJ w_o w_f w_r w_b w_a w_l t_S t_O t_H s_n t_W s_k v_s) t.heap by rw [ht]; exact hP⟩, hS.F ht⟩) hS.2.2 dX5_count_95
            · rw [if_neg c_5] at hR
              by_cases c_6 : a0 = 5
              · rw [if_pos c_6] at hR
                refine lv_tableIn (off := 88) (tgt := 96) hx hb dX5_count_8 (by rw [c_6]; decide +kernel) (by rw [c_6]; decide +kernel) (by rw [c_6]; decide +kernel) (by decide) ?_
                refine lv_aload_n hx hb dX5_count_96 rfl (lv_at hl 0 rfl) ?_
                refine va_get (D := (dC, dI)) (ci := 3) (v := .ref q2) (C := RX5) (T := TX5) (N := 4) hx hb hts h1_ hown hK hP 0 rfl rfl 2 (by decide) h8_ (fun _ h9 => h9) rfl dX5_count_97 ?_
                refine va_get (D := (dC, dI)) (ci := 1) (v := .int s_n) (C := RX2) (T := TX2) (N := 7) hx hb hts h10_ hown hK hP 1 rfl rfl 4 (by decide) h9_ (fun _ h9 => h9) rfl dX5_count_100 ?_
                refine W.widen (k := 1) (n := 6) (by decide) (by decide) (vx_ret ?_)
                exact W.iret (v := s_n) hx hb hr (fun t ht _ => ⟨⟨s_n, (), rfl, hR.symm, show va_P (dC, dI) kcl (cl_W q5 q2 q1 q3 qs qo qh qw cyI cyJ w_o w_f w_r w_b w_a w_l t_S t_O t_H s_n t_W s_k v_s) t.heap by rw [ht]; exact hP⟩, hS.F ht⟩) hS.2.2 dX5_count_103
              · rw [if_neg c_6] at hR
                by_cases c_7 : a0 = 6
                · rw [if_pos c_7] at hR
                  refine lv_tableIn (off := 96) (tgt := 104) hx hb dX5_count_8 (by rw [c_7]; decide +kernel) (by rw [c_7]; decide +kernel) (by rw [c_7]; decide +kernel) (by decide) ?_
                  refine lv_aload_n hx hb dX5_count_104 rfl (lv_at hl 0 rfl) ?_
                  refine va_get (D := (dC, dI)) (ci := 3) (v := .ref q2) (C := RX5) (T := TX5) (N := 4) hx hb hts h1_ hown hK hP 0 rfl rfl 2 (by decide) h8_ (fun _ h9 => h9) rfl dX5_count_105 ?_
                  refine va_get (D := (dC, dI)) (ci := 1) (v := .int s_k) (C := RX2) (T := TX2) (N := 7) hx hb hts h10_ hown hK hP 1 rfl rfl 6 (by decide) h11_ (fun _ h9 => h9) rfl dX5_count_108 ?_
                  refine W.widen (k := 1) (n := 6) (by decide) (by decide) (vx_ret ?_)
                  exact W.iret (v := s_k) hx hb hr (fun t ht _ => ⟨⟨s_k, (), rfl, hR.symm, show va_P (dC, dI) kcl (cl_W q5 q2 q1 q3 qs qo qh qw cyI cyJ w_o w_f w_r w_b w_a w_l t_S t_O t_H s_n t_W s_k v_s) t.heap by rw [ht]; exact hP⟩, hS.F ht⟩) hS.2.2 dX5_count_111
                · rw [if_neg c_7] at hR
                  by_cases c_8 : a0 = 7
                  · rw [if_pos c_8] at hR
                    refine lv_tableIn (off := 104) (tgt := 112) hx hb dX5_count_8 (by rw [c_8]; decide +kernel) (by rw [c_8]; decide +kernel) (by rw [c_8]; decide +kernel) (by decide) ?_
                    refine lv_aload_n hx hb dX5_count_112 rfl (lv_at hl 0 rfl) ?_
                    refine va_get (D := (dC, dI)) (ci := 3) (v := .long v_s) (C := RX5) (T := TX5) (N := 4) hx hb hts h1_ hown hK hP 0 rfl rfl 3 (by decide) h12_ (fun _ h9 => h9) rfl dX5_count_113 ?_
                    refine rd_calli (va_runS (As := [.long v_s]) (rest := []) ⟨hx, hb, hml, hown, hts⟩ (c_X4_isOver l v_s) (va_cwS 1 hts gX5_count_X4_isOver rfl rfl rfl (by decide +kernel) ⟨Nat.le_of_ble_eq_true rfl, Nat.le_of_ble_eq_true rfl⟩) ⟨pu_blind, fun U hU hW => rfl⟩ rfl rfl hl.1 rfl (lv_room (Nat.le_of_ble_eq_true rfl)) dX5_count_116 ⟨Nat.le_of_ble_eq_true rfl, Nat.le_of_ble_eq_true rfl⟩) ?_
                    refine lv_if_eq (tgt := 126) hx hb dX5_count_119 (by decide) (fun c_9 => ?_) (fun c_9 => ?_)
                    · rw [if_pos c_9] at hR
                      refine lv_iconst (v := (0 : Int32)) hx hb dX5_count_126 (by decide +kernel) ?_
                      refine W.widen (k := 1) (n := 6) (by decide) (by decide) (vx_ret ?_)
                      exact W.iret (v := (0 : Int32)) hx hb hr (fun t ht _ => ⟨⟨(0 : Int32), (), rfl, hR.symm, show va_P (dC, dI) kcl (cl_W q5 q2 q1 q3 qs qo qh qw cyI cyJ w_o w_f w_r w_b w_a w_l t_S t_O t_H s_n t_W s_k v_s) t.heap by rw [ht]; exact hP⟩, hS.F ht⟩) hS.2.2 dX5_count_127
                    · rw [if_neg c_9] at hR
                      refine lv_iconst (v := (1 : Int32)) hx hb dX5_count_122 (by decide +kernel) ?_
                      refine lv_goto (tgt := 127) hx hb dX5_count_123 (by decide) ?_
                      refine W.widen (k := 1) (n := 6) (by decide) (by decide) (vx_ret ?_)
                      exact W.iret (v := (1 : Int32)) hx hb hr (fun t ht _ => ⟨⟨(1 : Int32), (), rfl, hR.symm, show va_P (dC, dI) kcl (cl_W q5 q2 q1 q3 qs qo qh qw cyI cyJ w_o w_f w_r w_b w_a w_l t_S t_O t_H s_n t_W s_k v_s) t.heap by rw [ht]; exact hP⟩, hS.F ht⟩) hS.2.2 dX5_count_127
                  · rw [if_neg c_8] at hR
                    refine lv_tableOut (tgt := 128) hx hb dX5_count_8 (by have q0 := lv_neT (a := 0) c_1 (by decide +kernel); have q1 := lv_neT (a := 1) c_2 (by decide +kernel); have q2 := lv_neT (a := 2) c_3 (by decide +kernel); have q3 := lv_neT (a := 3) c_4 (by decide +kernel); have q4 := lv_neT (a := 4) c_5 (by decide +kernel); have q5 := lv_neT (a := 5) c_6 (by decide +kernel); have q6 := lv_neT (a := 6) c_7 (by decide +kernel); have q7 := lv_neT (a := 7) c_8 (by decide +kernel); omega) (by decide) ?_
                    refine lv_aload_n hx hb dX5_count_128 rfl (lv_at hl 0 rfl) ?_
                    refine va_get (D := (dC, dI)) (ci := 3) (v := .long v_s) (C := RX5) (T := TX5) (N := 4) hx hb hts h1_ hown hK hP 0 rfl rfl 3 (by decide) h12_ (fun _ h9 => h9) rfl dX5_count_129 ?_
                    refine rd_calli (va_runS (As := [.long v_s]) (rest := []) ⟨hx, hb, hml, hown, hts⟩ (c_X4_actsLeft l v_s) (va_cwS 1 hts gX5_count_X4_actsLeft rfl rfl rfl (by decide +kernel) ⟨Nat.le_of_ble_eq_true rfl, Nat.le_of_ble_eq_true rfl⟩) ⟨pu_blind, fun U hU hW => rfl⟩ rfl rfl hl.1 rfl (lv_room (Nat.le_of_ble_eq_true rfl)) dX5_count_132 ⟨Nat.le_of_ble_eq_true rfl, Nat.le_of_ble_eq_true rfl⟩) ?_
                    refine W.widen (k := 1) (n := 6) (by decide) (by decide) (vx_ret ?_)
                    exact W.iret (v := (cf_X4_actsLeft v_s)) hx hb hr (fun t ht _ => ⟨⟨(cf_X4_actsLeft v_s), (), rfl, hR.symm, show va_P (dC, dI) kcl (cl_W q5 q2 q1 q3 qs qo qh qw cyI cyJ w_o w_f w_r w_b w_a w_l t_S t_O t_H s_n t_W s_k v_s) t.heap by rw [ht]; exact hP⟩, hS.F ht⟩) hS.2.2 dX5_count_135

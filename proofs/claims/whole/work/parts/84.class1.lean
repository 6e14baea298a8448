def cf_X3_resize (w_o : Int32) (w_f : Int32) (w_r : Int32) (w_l : Int64) (a0 : Int32) (a1 : Int32) (a2 : Int32) : Int32 × Int32 × Int32 × Int64 :=
  (a0, a1, a2, (0 : Int64))
set_option maxHeartbeats 4000000 in
set_option maxRecDepth 100000 in
theorem c_X3_resize (l : Launch) (dC : Nat → ClassId) (dI : Nat → Nat → Nat) (q3 : Nat) (w_o : Int32) (w_f : Int32) (w_r : Int32) (w_b : Int32) (w_a : Int32) (w_l : Int64) (sz : Nat) (a0 : Int32) (a1 : Int32) (a2 : Int32)   : Met l yX3_resize wsX3_resize ({ frames := 0, cells := 0, slots := 0, locals := 0 }) (mu_P [.ref q3, .int a0, .int a1, .int a2] sz (dC, dI) kcl (su_W q3  w_o w_f w_r w_b w_a w_l) []) (mu_Q none (dC, dI) kcl (su_W q3  ((cf_X3_resize w_o w_f w_r w_l a0 a1 a2).1) ((cf_X3_resize w_o w_f w_r w_l a0 a1 a2).2.1) ((cf_X3_resize w_o w_f w_r w_l a0 a1 a2).2.2.1) w_b w_a ((cf_X3_resize w_o w_f w_r w_l a0 a1 a2).2.2.2)) (va_A (su_W q3  w_o w_f w_r w_b w_a w_l) sz)) 0 0 (va_A (su_W q3  w_o w_f w_r w_b w_a w_l) sz) := by
  refine Met.ofW (cc := cX3_resize) (maxL := 4) (ret := none) (by decide) rfl ?_
  intro p e s m args below meth c s₁ B hml hv
  obtain ⟨rfl, hsz, hP, hK, hD0⟩ := hv
  have hx := B.exec
  have hb := B.bytes
  have hr := B.returns
  have hts := atoms_spec (ws := wsX3_resize) B.pre
  have hown : s.vm.findClass RX3 = some m.cls := findClass_of_methodNamed B.named
  have hlocks := B.notSynchronized
  subst hsz
  have hD := hD0.self (sz := s.heap.size)
  generalize hAe : va_A (su_W q3  w_o w_f w_r w_b w_a w_l) s.heap.size = A at hD ⊢
  have hA : ∀ q : Nat, s.heap.size ≤ q → A q := fun q h => by rw [← hAe]; exact Or.inr h
  have hP : va_P (dC, dI) kcl (su_W q3  w_o w_f w_r w_b w_a w_l) s.heap := hP
  have h0_ : (Cond.fieldLink RX3 7 "ColourTrier$Setup" "objects" "I").before _ s = true := hts _ (by decide +kernel)
  have h1_ : ∀ w ∈ u_ws RX3 TX3 6, w ∈ wsX3_resize := fun w h => List.mem_cons_of_mem _ (List.mem_append_right _ h)
  have h2_ : (Cond.fieldLink RX3 13 "ColourTrier$Setup" "fields" "I").before _ s = true := hts _ (by decide +kernel)
  have h3_ : (Cond.fieldLink RX3 16 "ColourTrier$Setup" "roots" "I").before _ s = true := hts _ (by decide +kernel)
  have h4_ : (Cond.fieldLink RX3 25 "ColourTrier$Setup" "links" "J").before _ s = true := hts _ (by decide +kernel)
  generalize hR : (cf_X3_resize w_o w_f w_r w_l a0 a1 a2) = R
  have hl := lv_entry ([.ref q3, .int a0, .int a1, .int a2]) (n := 4) (Nat.le_of_ble_eq_true rfl)
  rw [lg_entry_eq]
  generalize (lg_sl ([.ref q3, .int a0, .int a1, .int a2]) ++ List.replicate (4 - (lg_sl ([.ref q3, .int a0, .int a1, .int a2])).length) Slot.unset).toArray = ls at hl ⊢
  have hl : lv_has ls 4 [(0, .ref q3), (1, .int a0), (2, .int a1), (3, .int a2)] := hl
  unfold cf_X3_resize at hR
  refine mu_start (A := A) (fun H locs hP hS => ?_) hP
  refine lv_aload_n hx hb dX3_resize_0 rfl (lv_at hl 0 rfl) ?_
  refine lv_iload_n hx hb dX3_resize_1 rfl (lv_at hl 1 rfl) ?_
  refine va_put (D := (dC, dI)) (ci := 2) (v := .int a0) (ty := .int) (C := RX3) (T := TX3) (N := 6) hx hb hts h1_ tyX3 tyX3_ok nmX3 hown hK hP hD hS 0 rfl rfl 0 (by decide) h0_ (fun _ h9 => h9) rfl (by decide +kernel) rfl rfl (Nat.le_of_ble_eq_true rfl) dX3_resize_2 (fun H locs hP hD hS => ?_)
  have hP : va_P (dC, dI) kcl (su_W q3  a0 w_f w_r w_b w_a w_l) H := hP
  have hD : va_D A (su_W q3  a0 w_f w_r w_b w_a w_l) := hD
  refine lv_aload_n hx hb dX3_resize_5 rfl (lv_at hl 0 rfl) ?_
  refine lv_iload_n hx hb dX3_resize_6 rfl (lv_at hl 2 rfl) ?_
  refine va_put (D := (dC, dI)) (ci := 2) (v := .int a1) (ty := .int) (C := RX3) (T := TX3) (N := 6) hx hb hts h1_ tyX3 tyX3_ok nmX3 hown hK hP hD hS 0 rfl rfl 1 (by decide) h2_ (fun _ h9 => h9) rfl (by decide +kernel) rfl rfl (Nat.le_of_ble_eq_true rfl) dX3_resize_7 (fun H locs hP hD hS => ?_)
  have hP : va_P (dC, dI) kcl (su_W q3  a0 a1 w_r w_b w_a w_l) H := hP
  have hD : va_D A (su_W q3  a0 a1 w_r w_b w_a w_l) := hD
  refine lv_aload_n hx hb dX3_resize_10 rfl (lv_at hl 0 rfl) ?_
  refine lv_iload_n hx hb dX3_resize_11 rfl (lv_at hl 3 rfl) ?_
  refine va_put (D := (dC, dI)) (ci := 2) (v := .int a2) (ty := .int) (C := RX3) (T := TX3) (N := 6) hx hb hts h1_ tyX3 tyX3_ok nmX3 hown hK hP hD hS 0 rfl rfl 2 (by decide) h3_ (fun _ h9 => h9) rfl (by decide +kernel) rfl rfl (Nat.le_of_ble_eq_true rfl) dX3_resize_12 (fun H locs hP hD hS => ?_)
  have hP : va_P (dC, dI) kcl (su_W q3  a0 a1 a2 w_b w_a w_l) H := hP
  have hD : va_D A (su_W q3  a0 a1 a2 w_b w_a w_l) := hD
  refine lv_aload_n hx hb dX3_resize_15 rfl (lv_at hl 0 rfl) ?_
  refine lv_lconst (v := (0 : Int64)) hx hb dX3_resize_16 (by decide +kernel) ?_
  refine va_put (D := (dC, dI)) (ci := 2) (v := .long (0 : Int64)) (ty := .long) (C := RX3) (T := TX3) (N := 6) hx hb hts h1_ tyX3 tyX3_ok nmX3 hown hK hP hD hS 0 rfl rfl 5 (by decide) h4_ (fun _ h9 => h9) rfl (by decide +kernel) rfl rfl (Nat.le_of_ble_eq_true rfl) dX3_resize_17 (fun H locs hP hD hS => ?_)
  have hP : va_P (dC, dI) kcl (su_W q3  a0 a1 a2 w_b w_a (0 : Int64)) H := hP
  have hD : va_D A (su_W q3  a0 a1 a2 w_b w_a (0 : Int64)) := hD
  rw [← hR]
  exact W.vret hx hb hr (fun t ht _ => ⟨rfl, by rw [ht]; exact hP, hS.F ht⟩) hS.2.2 dX3_resize_20
def cf_X5_size (w_o : Int32) (w_f : Int32) (w_r : Int32) (w_b : Int32) (w_a : Int32) (w_l : Int64) (v_s : Int64) (a0 : Int32) (a1 : Int32) (a2 : Int32) : Except String (Int32 × Int32 × Int32 × Int64 × Int64) :=
  (if a0 < (1 : Int32) ∨ ¬ a0 ≤ (4 : Int32) then (Except.error ex_A) else (if a1 < (1 : Int32) ∨ ¬ a1 ≤ (2 : Int32) then (Except.error ex_A) else (if a2 < (1 : Int32) ∨ ¬ a2 ≤ (3 : Int32) then (Except.error ex_A) else (Except.ok ((cf_X3_resize w_o w_f w_r w_l a0 a1 a2).1, (cf_X3_resize w_o w_f w_r w_l a0 a1 a2).2.1, (cf_X3_resize w_o w_f w_r w_l a0 a1 a2).2.2.1, (cf_X3_resize w_o w_f w_r w_l a0 a1 a2).2.2.2, (cf_X3_firstState ((cf_X3_resize w_o w_f w_r w_l a0 a1 a2).1) ((cf_X3_resize w_o w_f w_r w_l a0 a1 a2).2.1) ((cf_X3_resize w_o w_f w_r w_l a0 a1 a2).2.2.1) w_b w_a ((cf_X3_resize w_o w_f w_r w_l a0 a1 a2).2.2.2) ))))))
set_option maxHeartbeats 4000000 in
set_option maxRecDepth 100000 in
theorem c_X5_size (l : Launch) (hl0 : l.stackTraces = false) (dC : Nat → ClassId) (dI : Nat → Nat → Nat) (q5 q2 q1 q3 qs qo qh qw : Nat) (cyI cyJ : ClassId) (w_o : Int32) (w_f : Int32) (w_r : Int32) (w_b : Int32) (w_a : Int32) (w_l : Int64) (t_S : Nat → Int64) (t_O : Nat → Int32) (t_H : Nat → Int32) (s_n : Int32) (t_W : Nat → Int32) (s_k : Int32) (v_s : Int64) (sz : Nat) (a0 : Int32) (a1 : Int32) (a2 : Int32)   (R : Except String (Int32 × Int32 × Int32 × Int64 × Int64)) (hR : (cf_X5_size w_o w_f w_r w_b w_a w_l v_s a0 a1 a2) = R) : vx_Met l yX5_size wsX5_size ({ frames := 7, cells := 3, slots := 18, locals := 104 }) (xw_P [.ref q5, .int a0, .int a1, .int a2] sz (dC, dI) kcl (cl_W q5 q2 q1 q3 qs qo qh qw cyI cyJ w_o w_f w_r w_b w_a w_l t_S t_O t_H s_n t_W s_k v_s) [(cyI, .int), (cyJ, .long)]) (xr_v R (fun u => (cl_W q5 q2 q1 q3 qs qo qh qw cyI cyJ u.1 u.2.1 u.2.2.1 w_b w_a u.2.2.2.1 t_S t_O t_H s_n t_W s_k u.2.2.2.2)) (dC, dI) kcl (va_A (cl_W q5 q2 q1 q3 qs qo qh qw cyI cyJ w_o w_f w_r w_b w_a w_l t_S t_O t_H s_n t_W s_k v_s) sz)) (xr_X R (cl_W q5 q2 q1 q3 qs qo qh qw cyI cyJ w_o w_f w_r w_b w_a w_l t_S t_O t_H s_n t_W s_k v_s) (dC, dI) kcl (va_A (cl_W q5 q2 q1 q3 qs qo qh qw cyI cyJ w_o w_f w_r w_b w_a w_l t_S t_O t_H s_n t_W s_k v_s) sz)) 3 18 (va_A (cl_W q5 q2 q1 q3 qs qo qh qw cyI cyJ w_o w_f w_r w_b w_a w_l t_S t_O t_H s_n t_W s_k v_s) sz) := by
  refine vx_ofW (cc := cX5_size) (maxL := 4) (ret := none) (by decide) rfl ?_
  intro p e s m args below meth c s₁ B hml hnt hv
  obtain ⟨rfl, hsz, hP, hK, hD0, hZ⟩ := hv
  have hx := B.exec
  have hb := B.bytes
  have hr := B.returns
  have hts := atoms_spec (ws := wsX5_size) B.pre
  have hown : s.vm.findClass RX5 = some m.cls := findClass_of_methodNamed B.named
  have hlocks := B.notSynchronized
  subst hsz
  have hD := hD0.self (sz := s.heap.size)
  generalize hAe : va_A (cl_W q5 q2 q1 q3 qs qo qh qw cyI cyJ w_o w_f w_r w_b w_a w_l t_S t_O t_H s_n t_W s_k v_s) s.heap.size = A at hD hZ ⊢
  have hA : ∀ q : Nat, s.heap.size ≤ q → A q := fun q h => by rw [← hAe]; exact Or.inr h
  have hP : va_P (dC, dI) kcl (cl_W q5 q2 q1 q3 qs qo qh qw cyI cyJ w_o w_f w_r w_b w_a w_l t_S t_O t_H s_n t_W s_k v_s) s.heap := hP
  have h0_ : (Cond.fieldLink RX5 10 "ColourTrier" "setup" "LColourTrier$Setup;").before _ s = true := hts _ (by decide +kernel)
  have h1_ : ∀ w ∈ u_ws RX5 TX5 4, w ∈ wsX5_size := fun w h => List.mem_cons_of_mem _ (List.mem_append_left _ (List.mem_append_left _ (List.mem_append_right _ h)))
  have h2_ : (Cond.fieldLink RX5 38 "ColourTrier" "state" "J").before _ s = true := hts _ (by decide +kernel)
  have hl := lv_entry ([.ref q5, .int a0, .int a1, .int a2]) (n := 4) (Nat.le_of_ble_eq_true rfl)
  rw [lg_entry_eq]
  generalize (lg_sl ([.ref q5, .int a0, .int a1, .int a2]) ++ List.replicate (4 - (lg_sl ([.ref q5, .int a0, .int a1, .int a2])).length) Slot.unset).toArray = ls at hl ⊢
  have hl : lv_has ls 4 [(0, .ref q5), (1, .int a0), (2, .int a1), (3, .int a2)] := hl
  unfold cf_X5_size at hR
  refine mu_start (A := A) (fun H locs hP hS => ?_) hP
  refine lv_iload_n hx hb dX5_size_0 rfl (lv_at hl 1 rfl) ?_
  refine lv_iconst (v := (1 : Int32)) hx hb dX5_size_1 (by decide +kernel) ?_
  refine lv_iconst (v := (4 : Int32)) hx hb dX5_size_2 (by decide +kernel) ?_
  refine xm_call (x := a0) (lo := (1 : Int32)) (hi := (4 : Int32)) (rest := []) hl0 ⟨hx, hb, hml, hown, hts⟩ gX5_size_X5_mustLieWithin ⟨Nat.le_of_ble_eq_true rfl, Nat.le_of_ble_eq_true rfl⟩ ⟨Nat.le_of_ble_eq_true rfl, Nat.le_of_ble_eq_true rfl⟩ hZ hP hS hA hl.1 (by decide) dX5_size_3 (fun hcx H locs ce q9 hP hS hce hv9 hcl => ?_) (fun hc1 hc2 H locs hP hS => ?_)
  · rw [if_pos hcx] at hR
    refine vx_widen (k := 3) (n := 18) (by decide) (by decide) (vx_out (fun x hx => absurd (hnt x hx) id) hlocks hce hv9 hcl (fun t ht _ => ⟨(), trivial, ⟨hR.symm, by rw [ht]; exact hP⟩, hS.F ht⟩) hS.2.2 (Nat.le_refl _) (Nat.le_refl _))
  · rw [if_neg (fun z => z.elim hc1 (fun y => y hc2))] at hR
    have hP : va_P (dC, dI) kcl (cl_W q5 q2 q1 q3 qs qo qh qw cyI cyJ w_o w_f w_r w_b w_a w_l t_S t_O t_H s_n t_W s_k v_s) H := hP
    refine lv_iload_n hx hb dX5_size_6 rfl (lv_at hl 2 rfl) ?_
    refine lv_iconst (v := (1 : Int32)) hx hb dX5_size_7 (by decide +kernel) ?_
    refine lv_iconst (v := (2 : Int32)) hx hb dX5_size_8 (by decide +kernel) ?_
    refine xm_call (x := a1) (lo := (1 : Int32)) (hi := (2 : Int32)) (rest := []) hl0 ⟨hx, hb, hml, hown, hts⟩ gX5_size_X5_mustLieWithin ⟨Nat.le_of_ble_eq_true rfl, Nat.le_of_ble_eq_true rfl⟩ ⟨Nat.le_of_ble_eq_true rfl, Nat.le_of_ble_eq_true rfl⟩ hZ hP hS hA hl.1 (by decide) dX5_size_9 (fun hcx H locs ce q9 hP hS hce hv9 hcl => ?_) (fun hc1 hc2 H locs hP hS => ?_)
    · rw [if_pos hcx] at hR
      refine vx_widen (k := 3) (n := 18) (by decide) (by decide) (vx_out (fun x hx => absurd (hnt x hx) id) hlocks hce hv9 hcl (fun t ht _ => ⟨(), trivial, ⟨hR.symm, by rw [ht]; exact hP⟩, hS.F ht⟩) hS.2.2 (Nat.le_refl _) (Nat.le_refl _))
    · rw [if_neg (fun z => z.elim hc1 (fun y => y hc2))] at hR
      have hP : va_P (dC, dI) kcl (cl_W q5 q2 q1 q3 qs qo qh qw cyI cyJ w_o w_f w_r w_b w_a w_l t_S t_O t_H s_n t_W s_k v_s) H := hP
      refine lv_iload_n hx hb dX5_size_12 rfl (lv_at hl 3 rfl) ?_
      refine lv_iconst (v := (1 : Int32)) hx hb dX5_size_13 (by decide +kernel) ?_
      refine lv_iconst (v := (3 : Int32)) hx hb dX5_size_14 (by decide +kernel) ?_
      refine xm_call (x := a2) (lo := (1 : Int32)) (hi := (3 : Int32)) (rest := []) hl0 ⟨hx, hb, hml, hown, hts⟩ gX5_size_X5_mustLieWithin ⟨Nat.le_of_ble_eq_true rfl, Nat.le_of_ble_eq_true rfl⟩ ⟨Nat.le_of_ble_eq_true rfl, Nat.le_of_ble_eq_true rfl⟩ hZ hP hS hA hl.1 (by decide) dX5_size_15 (fun hcx H locs ce q9 hP hS hce hv9 hcl => ?_) (fun hc1 hc2 H locs hP hS => ?_)
      · rw [if_pos hcx] at hR
        refine vx_widen (k := 3) (n := 18) (by decide) (by decide) (vx_out (fun x hx => absurd (hnt x hx) id) hlocks hce hv9 hcl (fun t ht _ => ⟨(), trivial, ⟨hR.symm, by rw [ht]; exact hP⟩, hS.F ht⟩) hS.2.2 (Nat.le_refl _) (Nat.le_refl _))
      · rw [if_neg (fun z => z.elim hc1 (fun y => y hc2))] at hR
        have hP : va_P (dC, dI) kcl (cl_W q5 q2 q1 q3 qs qo qh qw cyI cyJ w_o w_f w_r w_b w_a w_l t_S t_O t_H s_n t_W s_k v_s) H := hP
        refine lv_aload_n hx hb dX5_size_18 rfl (lv_at hl 0 rfl) ?_
        refine va_get (D := (dC, dI)) (ci := 3) (v := .ref q3) (C := RX5) (T := TX5) (N := 4) hx hb hts h1_ hown hK hP 0 rfl rfl 0 (by decide) h0_ (fun _ h9 => h9) rfl dX5_size_19 ?_
        refine lv_iload_n hx hb dX5_size_22 rfl (lv_at hl 1 rfl) ?_
        refine lv_iload_n hx hb dX5_size_23 rfl (lv_at hl 2 rfl) ?_
        refine lv_iload_n hx hb dX5_size_24 rfl (lv_at hl 3 rfl) ?_
        refine mu_call (ws' := (cl_W q5 q2 q1 q3 qs qo qh qw cyI cyJ ((cf_X3_resize w_o w_f w_r w_l a0 a1 a2).1) ((cf_X3_resize w_o w_f w_r w_l a0 a1 a2).2.1) ((cf_X3_resize w_o w_f w_r w_l a0 a1 a2).2.2.1) w_b w_a ((cf_X3_resize w_o w_f w_r w_l a0 a1 a2).2.2.2) t_S t_O t_H s_n t_W s_k v_s)) (wr := [(q5, .inr (3, [.ref q3, .ref q1, .ref q2, .long v_s])), (q2, .inr (1, [.ref q1, .ref qs, .ref qo, .ref qh, .int s_n, .ref qw, .int s_k])), (q1, .inr (0, [.ref q3])), (qs, .inl (cyJ, 20000, .inr (.inl t_S))), (qo, .inl (cyI, 20000, .inl t_O)), (qh, .inl (cyI, 32768, .inl t_H)), (qw, .inl (cyI, 40, .inl t_W))]) (va_runV (As := [.int a0, .int a1, .int a2]) (rest := []) ⟨hx, hb, hml, hown, hts⟩ (c_X3_resize l dC dI q3  w_o w_f w_r w_b w_a w_l H.size a0 a1 a2  ) (cwV 3 hts gX5_size_X3_resize rfl rfl rfl (by decide +kernel) ⟨Nat.le_of_ble_eq_true rfl, Nat.le_of_ble_eq_true rfl⟩) ⟨mu_blind, va_recv hK hP (ci := 2) (q0 := 3) rfl rfl, fun U hU hW => ⟨rfl, by rw [hU], by rw [hU]; exact (hP.sub [3] rfl), va_K.moved hW.alike (hK.sub [] rfl), (hD.sub [3] (by decide) rfl).weaken (fun _ _ _ _ => trivial)⟩⟩ rfl rfl hl.1 rfl (lv_room (Nat.le_of_ble_eq_true rfl)) dX5_size_25 ⟨Nat.le_of_ble_eq_true rfl, Nat.le_of_ble_eq_true rfl⟩) hP hD hS hA [3] [0, 1, 2, 4, 5, 6, 7] [0, 1, 2, 7, 3, 4, 5, 6] rfl rfl (by decide) (by decide) (by decide) rfl (by decide) rfl (fun H locs hP hD hS => ?_)
        refine W.eq (g2 := F0 m 28 ls []) rfl ?_
        refine lv_aload_n hx hb dX5_size_28 rfl (lv_at hl 0 rfl) ?_
        refine lv_aload_n hx hb dX5_size_29 rfl (lv_at hl 0 rfl) ?_
        refine va_get (D := (dC, dI)) (ci := 3) (v := .ref q3) (C := RX5) (T := TX5) (N := 4) hx hb hts h1_ hown hK hP 0 rfl rfl 0 (by decide) h0_ (fun _ h9 => h9) rfl dX5_size_30 ?_
        refine rd_calll (va_runV (As := []) (rest := [.ref q5]) ⟨hx, hb, hml, hown, hts⟩ (c_X3_firstState l dC dI q3 ((cf_X3_resize w_o w_f w_r w_l a0 a1 a2).1) ((cf_X3_resize w_o w_f w_r w_l a0 a1 a2).2.1) ((cf_X3_resize w_o w_f w_r w_l a0 a1 a2).2.2.1) w_b w_a ((cf_X3_resize w_o w_f w_r w_l a0 a1 a2).2.2.2)  ) (cwV 0 hts gX5_size_X3_firstState rfl rfl rfl (by decide +kernel) ⟨Nat.le_of_ble_eq_true rfl, Nat.le_of_ble_eq_true rfl⟩) ⟨rd_blind, va_recv hK hP (ci := 2) (q0 := 3) rfl rfl, fun U hU hW => ⟨rfl, by rw [hU]; exact (hP.sub [3] rfl), va_K.moved hW.alike (hK.sub [] rfl)⟩⟩ rfl rfl hl.1 rfl (lv_room (Nat.le_of_ble_eq_true rfl)) dX5_size_33 ⟨Nat.le_of_ble_eq_true rfl, Nat.le_of_ble_eq_true rfl⟩) ?_
        refine va_put (D := (dC, dI)) (ci := 3) (v := .long (cf_X3_firstState ((cf_X3_resize w_o w_f w_r w_l a0 a1 a2).1) ((cf_X3_resize w_o w_f w_r w_l a0 a1 a2).2.1) ((cf_X3_resize w_o w_f w_r w_l a0 a1 a2).2.2.1) w_b w_a ((cf_X3_resize w_o w_f w_r w_l a0 a1 a2).2.2.2) )) (ty := .long) (C := RX5) (T := TX5) (N := 4) hx hb hts h1_ tyX5 tyX5_ok nmX5 hown hK hP hD hS 0 rfl rfl 3 (by decide) h2_ (fun _ h9 => h9) rfl (by decide +kernel) rfl rfl (Nat.le_of_ble_eq_true rfl) dX5_size_36 (fun H locs hP hD hS => ?_)
        have hP : va_P (dC, dI) kcl (cl_W q5 q2 q1 q3 qs qo qh qw cyI cyJ ((cf_X3_resize w_o w_f w_r w_l a0 a1 a2).1) ((cf_X3_resize w_o w_f w_r w_l a0 a1 a2).2.1) ((cf_X3_resize w_o w_f w_r w_l a0 a1 a2).2.2.1) w_b w_a ((cf_X3_resize w_o w_f w_r w_l a0 a1 a2).2.2.2) t_S t_O t_H s_n t_W s_k (cf_X3_firstState ((cf_X3_resize w_o w_f w_r w_l a0 a1 a2).1) ((cf_X3_resize w_o w_f w_r w_l a0 a1 a2).2.1) ((cf_X3_resize w_o w_f w_r w_l a0 a1 a2).2.2.1) w_b w_a ((cf_X3_resize w_o w_f w_r w_l a0 a1 a2).2.2.2) )) H := hP
        have hD : va_D A (cl_W q5 q2 q1 q3 qs qo qh qw cyI cyJ ((cf_X3_resize w_o w_f w_r w_l a0 a1 a2).1) ((cf_X3_resize w_o w_f w_r w_l a0 a1 a2).2.1) ((cf_X3_resize w_o w_f w_r w_l a0 a1 a2).2.2.1) w_b w_a ((cf_X3_resize w_o w_f w_r w_l a0 a1 a2).2.2.2) t_S t_O t_H s_n t_W s_k (cf_X3_firstState ((cf_X3_resize w_o w_f w_r w_l a0 a1 a2).1) ((cf_X3_resize w_o w_f w_r w_l a0 a1 a2).2.1) ((cf_X3_resize w_o w_f w_r w_l a0 a1 a2).2.2.1) w_b w_a ((cf_X3_resize w_o w_f w_r w_l a0 a1 a2).2.2.2) )) := hD
        refine W.widen (k := 3) (n := 18) (by decide) (by decide) (vx_ret ?_)
        exact W.vret hx hb hr (fun t ht _ => ⟨⟨((cf_X3_resize w_o w_f w_r w_l a0 a1 a2).1, (cf_X3_resize w_o w_f w_r w_l a0 a1 a2).2.1, (cf_X3_resize w_o w_f w_r w_l a0 a1 a2).2.2.1, (cf_X3_resize w_o w_f w_r w_l a0 a1 a2).2.2.2, (cf_X3_firstState ((cf_X3_resize w_o w_f w_r w_l a0 a1 a2).1) ((cf_X3_resize w_o w_f w_r w_l a0 a1 a2).2.1) ((cf_X3_resize w_o w_f w_r w_l a0 a1 a2).2.2.1) w_b w_a ((cf_X3_resize w_o w_f w_r w_l a0 a1 a2).2.2.2) )), rfl, hR.symm, show va_P (dC, dI) kcl (cl_W q5 q2 q1 q3 qs qo qh qw cyI cyJ ((cf_X3_resize w_o w_f w_r w_l a0 a1 a2).1) ((cf_X3_resize w_o w_f w_r w_l a0 a1 a2).2.1) ((cf_X3_resize w_o w_f w_r w_l a0 a1 a2).2.2.1) w_b w_a ((cf_X3_resize w_o w_f w_r w_l a0 a1 a2).2.2.2) t_S t_O t_H s_n t_W s_k (cf_X3_firstState ((cf_X3_resize w_o w_f w_r w_l a0 a1 a2).1) ((cf_X3_resize w_o w_f w_r w_l a0 a1 a2).2.1) ((cf_X3_resize w_o w_f w_r w_l a0 a1 a2).2.2.1) w_b w_a ((cf_X3_resize w_o w_f w_r w_l a0 a1 a2).2.2.2) )) t.heap by rw [ht]; exact hP⟩, hS.F ht⟩) hS.2.2 dX5_size_39
def cf_X5_point (w_o : Int32) (w_f : Int32) (w_r : Int32) (w_b : Int32) (w_a : Int32) (w_l : Int64) (v_s : Int64) (a0 : Int32) (a1 : Int32) (a2 : Int32) : Except String (Int64 × Int64) :=
  (if a0 < (0 : Int32) ∨ ¬ a0 ≤ (w_o - (1 : Int32)) then (Except.error ex_A) else (if a1 < (0 : Int32) ∨ ¬ a1 ≤ (w_f - (1 : Int32)) then (Except.error ex_A) else (if a2 < (-1 : Int32) ∨ ¬ a2 ≤ (w_o - (1 : Int32)) then (Except.error ex_A) else (Except.ok ((cf_X4_withField w_l a0 a1 a2), (cf_X3_firstState w_o w_f w_r w_b w_a (cf_X4_withField w_l a0 a1 a2) ))))))
set_option maxHeartbeats 4000000 in
set_option maxRecDepth 100000 in
theorem c_X5_point (l : Launch) (hl0 : l.stackTraces = false) (dC : Nat → ClassId) (dI : Nat → Nat → Nat) (q5 q2 q1 q3 qs qo qh qw : Nat) (cyI cyJ : ClassId) (w_o : Int32) (w_f : Int32) (w_r : Int32) (w_b : Int32) (w_a : Int32) (w_l : Int64) (t_S : Nat → Int64) (t_O : Nat → Int32) (t_H : Nat → Int32) (s_n : Int32) (t_W : Nat → Int32) (s_k : Int32) (v_s : Int64) (sz : Nat) (a0 : Int32) (a1 : Int32) (a2 : Int32)   (R : Except String (Int64 × Int64)) (hR : (cf_X5_point w_o w_f w_r w_b w_a w_l v_s a0 a1 a2) = R) : vx_Met l yX5_point wsX5_point ({ frames := 7, cells := 3, slots := 18, locals := 104 }) (xw_P [.ref q5, .int a0, .int a1, .int a2] sz (dC, dI) kcl (cl_W q5 q2 q1 q3 qs qo qh qw cyI cyJ w_o w_f w_r w_b w_a w_l t_S t_O t_H s_n t_W s_k v_s) [(cyI, .int), (cyJ, .long)]) (xr_v R (fun u => (cl_W q5 q2 q1 q3 qs qo qh qw cyI cyJ w_o w_f w_r w_b w_a u.1 t_S t_O t_H s_n t_W s_k u.2)) (dC, dI) kcl (va_A (cl_W q5 q2 q1 q3 qs qo qh qw cyI cyJ w_o w_f w_r w_b w_a w_l t_S t_O t_H s_n t_W s_k v_s) sz)) (xr_X R (cl_W q5 q2 q1 q3 qs qo qh qw cyI cyJ w_o w_f w_r w_b w_a w_l t_S t_O t_H s_n t_W s_k v_s) (dC, dI) kcl (va_A (cl_W q5 q2 q1 q3 qs qo qh qw cyI cyJ w_o w_f w_r w_b w_a w_l t_S t_O t_H s_n t_W s_k v_s) sz)) 3 18 (va_A (cl_W q5 q2 q1 q3 qs qo qh qw cyI cyJ w_o w_f w_r w_b w_a w_l t_S t_O t_H s_n t_W s_k v_s) sz) := by
  refine vx_ofW (cc := cX5_point) (maxL := 4) (ret := none) (by decide) rfl ?_
  intro p e s m args below meth c s₁ B hml hnt hv
  obtain ⟨rfl, hsz, hP, hK, hD0, hZ⟩ := hv
  have hx := B.exec
  have hb := B.bytes
  have hr := B.returns
  have hts := atoms_spec (ws := wsX5_point) B.pre
  have hown : s.vm.findClass RX5 = some m.cls := findClass_of_methodNamed B.named
  have hlocks := B.notSynchronized
  subst hsz
  have hD := hD0.self (sz := s.heap.size)
  generalize hAe : va_A (cl_W q5 q2 q1 q3 qs qo qh qw cyI cyJ w_o w_f w_r w_b w_a w_l t_S t_O t_H s_n t_W s_k v_s) s.heap.size = A at hD hZ ⊢
  have hA : ∀ q : Nat, s.heap.size ≤ q → A q := fun q h => by rw [← hAe]; exact Or.inr h
  have hP : va_P (dC, dI) kcl (cl_W q5 q2 q1 q3 qs qo qh qw cyI cyJ w_o w_f w_r w_b w_a w_l t_S t_O t_H s_n t_W s_k v_s) s.heap := hP
  have h0_ : (Cond.fieldLink RX5 10 "ColourTrier" "setup" "LColourTrier$Setup;").before _ s = true := hts _ (by decide +kernel)
  have h1_ : ∀ w ∈ u_ws RX5 TX5 4, w ∈ wsX5_point := fun w h => List.mem_cons_of_mem _ (List.mem_append_left _ (List.mem_append_left _ (List.mem_append_right _ h)))
  have h2_ : (Cond.fieldLink RX5 49 "ColourTrier$Setup" "objects" "I").before _ s = true := hts _ (by decide +kernel)
  have h3_ : ∀ w ∈ u_ws RX3 TX3 6, w ∈ wsX5_point := fun w h => List.mem_cons_of_mem _ (List.mem_append_left _ (List.mem_append_right _ h))
  have h4_ : (Cond.fieldLink RX5 53 "ColourTrier$Setup" "fields" "I").before _ s = true := hts _ (by decide +kernel)
  have h5_ : (Cond.fieldLink RX5 56 "ColourTrier$Setup" "links" "J").before _ s = true := hts _ (by decide +kernel)
  have h6_ : (Cond.fieldLink RX5 38 "ColourTrier" "state" "J").before _ s = true := hts _ (by decide +kernel)
  have hl := lv_entry ([.ref q5, .int a0, .int a1, .int a2]) (n := 4) (Nat.le_of_ble_eq_true rfl)
  rw [lg_entry_eq]
  generalize (lg_sl ([.ref q5, .int a0, .int a1, .int a2]) ++ List.replicate (4 - (lg_sl ([.ref q5, .int a0, .int a1, .int a2])).length) Slot.unset).toArray = ls at hl ⊢
  have hl : lv_has ls 4 [(0, .ref q5), (1, .int a0), (2, .int a1), (3, .int a2)] := hl
  unfold cf_X5_point at hR
  refine mu_start (A := A) (fun H locs hP hS => ?_) hP
  refine lv_iload_n hx hb dX5_point_0 rfl (lv_at hl 1 rfl) ?_
  refine lv_iconst (v := (0 : Int32)) hx hb dX5_point_1 (by decide +kernel) ?_
  refine lv_aload_n hx hb dX5_point_2 rfl (lv_at hl 0 rfl) ?_
  refine va_get (D := (dC, dI)) (ci := 3) (v := .ref q3) (C := RX5) (T := TX5) (N := 4) hx hb hts h1_ hown hK hP 0 rfl rfl 0 (by decide) h0_ (fun _ h9 => h9) rfl dX5_point_3 ?_
  refine va_get (D := (dC, dI)) (ci := 2) (v := .int w_o) (C := RX3) (T := TX3) (N := 6) hx hb hts h3_ hown hK hP 3 rfl rfl 0 (by decide) h2_ (fun _ h9 => h9) rfl dX5_point_6 ?_
  refine lv_iconst (v := (1 : Int32)) hx hb dX5_point_9 (by decide +kernel) ?_
  refine lv_isub hx hb dX5_point_10 ?_
  refine xm_call (x := a0) (lo := (0 : Int32)) (hi := (w_o - (1 : Int32))) (rest := []) hl0 ⟨hx, hb, hml, hown, hts⟩ gX5_point_X5_mustLieWithin ⟨Nat.le_of_ble_eq_true rfl, Nat.le_of_ble_eq_true rfl⟩ ⟨Nat.le_of_ble_eq_true rfl, Nat.le_of_ble_eq_true rfl⟩ hZ hP hS hA hl.1 (by decide) dX5_point_11 (fun hcx H locs ce q9 hP hS hce hv9 hcl => ?_) (fun hc1 hc2 H locs hP hS => ?_)
  · rw [if_pos hcx] at hR
    refine vx_widen (k := 3) (n := 18) (by decide) (by decide) (vx_out (fun x hx => absurd (hnt x hx) id) hlocks hce hv9 hcl (fun t ht _ => ⟨(), trivial, ⟨hR.symm, by rw [ht]; exact hP⟩, hS.F ht⟩) hS.2.2 (Nat.le_refl _) (Nat.le_refl _))
  · rw [if_neg (fun z => z.elim hc1 (fun y => y hc2))] at hR
    have hP : va_P (dC, dI) kcl (cl_W q5 q2 q1 q3 qs qo qh qw cyI cyJ w_o w_f w_r w_b w_a w_l t_S t_O t_H s_n t_W s_k v_s) H := hP
    refine lv_iload_n hx hb dX5_point_14 rfl (lv_at hl 2 rfl) ?_
    refine lv_iconst (v := (0 : Int32)) hx hb dX5_point_15 (by decide +kernel) ?_
    refine lv_aload_n hx hb dX5_point_16 rfl (lv_at hl 0 rfl) ?_
    refine va_get (D := (dC, dI)) (ci := 3) (v := .ref q3) (C := RX5) (T := TX5) (N := 4) hx hb hts h1_ hown hK hP 0 rfl rfl 0 (by decide) h0_ (fun _ h9 => h9) rfl dX5_point_17 ?_
    refine va_get (D := (dC, dI)) (ci := 2) (v := .int w_f) (C := RX3) (T := TX3) (N := 6) hx hb hts h3_ hown hK hP 3 rfl rfl 1 (by decide) h4_ (fun _ h9 => h9) rfl dX5_point_20 ?_
    refine lv_iconst (v := (1 : Int32)) hx hb dX5_point_23 (by decide +kernel) ?_
    refine lv_isub hx hb dX5_point_24 ?_
    refine xm_call (x := a1) (lo := (0 : Int32)) (hi := (w_f - (1 : Int32))) (rest := []) hl0 ⟨hx, hb, hml, hown, hts⟩ gX5_point_X5_mustLieWithin ⟨Nat.le_of_ble_eq_true rfl, Nat.le_of_ble_eq_true rfl⟩ ⟨Nat.le_of_ble_eq_true rfl, Nat.le_of_ble_eq_true rfl⟩ hZ hP hS hA hl.1 (by decide) dX5_point_25 (fun hcx H locs ce q9 hP hS hce hv9 hcl => ?_) (fun hc1 hc2 H locs hP hS => ?_)
    · rw [if_pos hcx] at hR
      refine vx_widen (k := 3) (n := 18) (by decide) (by decide) (vx_out (fun x hx => absurd (hnt x hx) id) hlocks hce hv9 hcl (fun t ht _ => ⟨(), trivial, ⟨hR.symm, by rw [ht]; exact hP⟩, hS.F ht⟩) hS.2.2 (Nat.le_refl _) (Nat.le_refl _))
    · rw [if_neg (fun z => z.elim hc1 (fun y => y hc2))] at hR
      have hP : va_P (dC, dI) kcl (cl_W q5 q2 q1 q3 qs qo qh qw cyI cyJ w_o w_f w_r w_b w_a w_l t_S t_O t_H s_n t_W s_k v_s) H := hP
      refine lv_iload_n hx hb dX5_point_28 rfl (lv_at hl 3 rfl) ?_
      refine lv_iconst (v := (-1 : Int32)) hx hb dX5_point_29 (by decide +kernel) ?_
      refine lv_aload_n hx hb dX5_point_30 rfl (lv_at hl 0 rfl) ?_
      refine va_get (D := (dC, dI)) (ci := 3) (v := .ref q3) (C := RX5) (T := TX5) (N := 4) hx hb hts h1_ hown hK hP 0 rfl rfl 0 (by decide) h0_ (fun _ h9 => h9) rfl dX5_point_31 ?_
      refine va_get (D := (dC, dI)) (ci := 2) (v := .int w_o) (C := RX3) (T := TX3) (N := 6) hx hb hts h3_ hown hK hP 3 rfl rfl 0 (by decide) h2_ (fun _ h9 => h9) rfl dX5_point_34 ?_
      refine lv_iconst (v := (1 : Int32)) hx hb dX5_point_37 (by decide +kernel) ?_
      refine lv_isub hx hb dX5_point_38 ?_
      refine xm_call (x := a2) (lo := (-1 : Int32)) (hi := (w_o - (1 : Int32))) (rest := []) hl0 ⟨hx, hb, hml, hown, hts⟩ gX5_point_X5_mustLieWithin ⟨Nat.le_of_ble_eq_true rfl, Nat.le_of_ble_eq_true rfl⟩ ⟨Nat.le_of_ble_eq_true rfl, Nat.le_of_ble_eq_true rfl⟩ hZ hP hS hA hl.1 (by decide) dX5_point_39 (fun hcx H locs ce q9 hP hS hce hv9 hcl => ?_) (fun hc1 hc2 H locs hP hS => ?_)
      · rw [if_pos hcx] at hR
        refine vx_widen (k := 3) (n := 18) (by decide) (by decide) (vx_out (fun x hx => absurd (hnt x hx) id) hlocks hce hv9 hcl (fun t ht _ => ⟨(), trivial, ⟨hR.symm, by rw [ht]; exact hP⟩, hS.F ht⟩) hS.2.2 (Nat.le_refl _) (Nat.le_refl _))
      · rw [if_neg (fun z => z.elim hc1 (fun y => y hc2))] at hR
        have hP : va_P (dC, dI) kcl (cl_W q5 q2 q1 q3 qs qo qh qw cyI cyJ w_o w_f w_r w_b w_a w_l t_S t_O t_H s_n t_W s_k v_s) H := hP
        refine lv_aload_n hx hb dX5_point_42 rfl (lv_at hl 0 rfl) ?_
        refine va_get (D := (dC, dI)) (ci := 3) (v := .ref q3) (C := RX5) (T := TX5) (N := 4) hx hb hts h1_ hown hK hP 0 rfl rfl 0 (by decide) h0_ (fun _ h9 => h9) rfl dX5_point_43 ?_
        refine lv_aload_n hx hb dX5_point_46 rfl (lv_at hl 0 rfl) ?_
        refine va_get (D := (dC, dI)) (ci := 3) (v := .ref q3) (C := RX5) (T := TX5) (N := 4) hx hb hts h1_ hown hK hP 0 rfl rfl 0 (by decide) h0_ (fun _ h9 => h9) rfl dX5_point_47 ?_
        refine va_get (D := (dC, dI)) (ci := 2) (v := .long w_l) (C := RX3) (T := TX3) (N := 6) hx hb hts h3_ hown hK hP 3 rfl rfl 5 (by decide) h5_ (fun _ h9 => h9) rfl dX5_point_50 ?_
        refine lv_iload_n hx hb dX5_point_53 rfl (lv_at hl 1 rfl) ?_
        refine lv_iload_n hx hb dX5_point_54 rfl (lv_at hl 2 rfl) ?_
        refine lv_iload_n hx hb dX5_point_55 rfl (lv_at hl 3 rfl) ?_
        refine rd_calll (va_runS (As := [.long w_l, .int a0, .int a1, .int a2]) (rest := [.ref q3]) ⟨hx, hb, hml, hown, hts⟩ (c_X4_withField l w_l a0 a1 a2) (va_cwS 4 hts gX5_point_X4_withField rfl rfl rfl (by decide +kernel) ⟨Nat.le_of_ble_eq_true rfl, Nat.le_of_ble_eq_true rfl⟩) ⟨pu_blind, fun U hU hW => rfl⟩ rfl rfl hl.1 rfl (lv_room (Nat.le_of_ble_eq_true rfl)) dX5_point_56 ⟨Nat.le_of_ble_eq_true rfl, Nat.le_of_ble_eq_true rfl⟩) ?_
        refine va_put (D := (dC, dI)) (ci := 2) (v := .long (cf_X4_withField w_l a0 a1 a2)) (ty := .long) (C := RX3) (T := TX3) (N := 6) hx hb hts h3_ tyX3 tyX3_ok nmX3 hown hK hP hD hS 3 rfl rfl 5 (by decide) h5_ (fun _ h9 => h9) rfl (by decide +kernel) rfl rfl (Nat.le_of_ble_eq_true rfl) dX5_point_59 (fun H locs hP hD hS => ?_)
        have hP : va_P (dC, dI) kcl (cl_W q5 q2 q1 q3 qs qo qh qw cyI cyJ w_o w_f w_r w_b w_a (cf_X4_withField w_l a0 a1 a2) t_S t_O t_H s_n t_W s_k v_s) H := hP
        have hD : va_D A (cl_W q5 q2 q1 q3 qs qo qh qw cyI cyJ w_o w_f w_r w_b w_a (cf_X4_withField w_l a0 a1 a2) t_S t_O t_H s_n t_W s_k v_s) := hD
        refine lv_aload_n hx hb dX5_point_62 rfl (lv_at hl 0 rfl) ?_
        refine lv_aload_n hx hb dX5_point_63 rfl (lv_at hl 0 rfl) ?_
        refine va_get (D := (dC, dI)) (ci := 3) (v := .ref q3) (C := RX5) (T := TX5) (N := 4) hx hb hts h1_ hown hK hP 0 rfl rfl 0 (by decide) h0_ (fun _ h9 => h9) rfl dX5_point_64 ?_
        refine rd_calll (va_runV (As := []) (rest := [.ref q5]) ⟨hx, hb, hml, hown, hts⟩ (c_X3_firstState l dC dI q3 w_o w_f w_r w_b w_a (cf_X4_withField w_l a0 a1 a2)  ) (cwV 0 hts gX5_point_X3_firstState rfl rfl rfl (by decide +kernel) ⟨Nat.le_of_ble_eq_true rfl, Nat.le_of_ble_eq_true rfl⟩) ⟨rd_blind, va_recv hK hP (ci := 2) (q0 := 3) rfl rfl, fun U hU hW => ⟨rfl, by rw [hU]; exact (hP.sub [3] rfl), va_K.moved hW.alike (hK.sub [] rfl)⟩⟩ rfl rfl hl.1 rfl (lv_room (Nat.le_of_ble_eq_true rfl)) dX5_point_67 ⟨Nat.le_of_ble_eq_true rfl, Nat.le_of_ble_eq_true rfl⟩) ?_
        refine va_put (D := (dC, dI)) (ci := 3) (v := .long (cf_X3_firstState w_o w_f w_r w_b w_a (cf_X4_withField w_l a0 a1 a2) )) (ty := .long) (C := RX5) (T := TX5) (N := 4) hx hb hts h1_ tyX5 tyX5_ok nmX5 hown hK hP hD hS 0 rfl rfl 3 (by decide) h6_ (fun _ h9 => h9) rfl (by decide +kernel) rfl rfl (Nat.le_of_ble_eq_true rfl) dX5_point_70 (fun H locs hP hD hS => ?_)
        have hP : va_P (dC, dI) kcl (cl_W q5 q2 q1 q3 qs qo qh qw cyI cyJ w_o w_f w_r w_b w_a (cf_X4_withField w_l a0 a1 a2) t_S t_O t_H s_n t_W s_k (cf_X3_firstState w_o w_f w_r w_b w_a (cf_X4_withField w_l a0 a1 a2) )) H := hP
        have hD : va_D A (cl_W q5 q2 q1 q3 qs qo qh qw cyI cyJ w_o w_f w_r w_b w_a (cf_X4_withField w_l a0 a1 a2) t_S t_O t_H s_n t_W s_k (cf_X3_firstState w_o w_f w_r w_b w_a (cf_X4_withField w_l a0 a1 a2) )) := hD
        refine W.widen (k := 3) (n := 18) (by decide) (by decide) (vx_ret ?_)
        exact W.vret hx hb hr (fun t ht _ => ⟨⟨((cf_X4_withField w_l a0 a1 a2), (cf_X3_firstState w_o w_f w_r w_b w_a (cf_X4_withField w_l a0 a1 a2) )), rfl, hR.symm, show va_P (dC, dI) kcl (cl_W q5 q2 q1 q3 qs qo qh qw cyI cyJ w_o w_f w_r w_b w_a (cf_X4_withField w_l a0 a1 a2) t_S t_O t_H s_n t_W s_k (cf_X3_firstState w_o w_f w_r w_b w_a (cf_X4_withField w_l a0 a1 a2) )) t.heap by rw [ht]; exact hP⟩, hS.F ht⟩) hS.2.2 dX5_point_73
def cf_X5_root (w_o : Int32) (w_f : Int32) (w_r : Int32) (w_b : Int32) (w_a : Int32) (w_l : Int64) (v_s : Int64) (a0 : Int32) (a1 : Int32) : Except String (Int64 × Int64) :=
  (if a0 < (0 : Int32) ∨ ¬ a0 ≤ (w_r - (1 : Int32)) then (Except.error ex_A) else (if a1 < (-1 : Int32) ∨ ¬ a1 ≤ (w_o - (1 : Int32)) then (Except.error ex_A) else (Except.ok ((cf_X4_withRoot w_l a0 a1), (cf_X3_firstState w_o w_f w_r w_b w_a (cf_X4_withRoot w_l a0 a1) )))))
set_option maxHeartbeats 4000000 in
set_option maxRecDepth 100000 in
theorem c_X5_root (l : Launch) (hl0 : l.stackTraces = false) (dC : Nat → ClassId) (dI : Nat → Nat → Nat) (q5 q2 q1 q3 qs qo qh qw : Nat) (cyI cyJ : ClassId) (w_o : Int32) (w_f : Int32) (w_r : Int32) (w_b : Int32) (w_a : Int32) (w_l : Int64) (t_S : Nat → Int64) (t_O : Nat → Int32) (t_H : Nat → Int32) (s_n : Int32) (t_W : Nat → Int32) (s_k : Int32) (v_s : Int64) (sz : Nat) (a0 : Int32) (a1 : Int32)   (R : Except String (Int64 × Int64)) (hR : (cf_X5_root w_o w_f w_r w_b w_a w_l v_s a0 a1) = R) : vx_Met l yX5_root wsX5_root ({ frames := 7, cells := 2, slots := 12, locals := 104 }) (xw_P [.ref q5, .int a0, .int a1] sz (dC, dI) kcl (cl_W q5 q2 q1 q3 qs qo qh qw cyI cyJ w_o w_f w_r w_b w_a w_l t_S t_O t_H s_n t_W s_k v_s) [(cyI, .int), (cyJ, .long)]) (xr_v R (fun u => (cl_W q5 q2 q1 q3 qs qo qh qw cyI cyJ w_o w_f w_r w_b w_a u.1 t_S t_O t_H s_n t_W s_k u.2)) (dC, dI) kcl (va_A (cl_W q5 q2 q1 q3 qs qo qh qw cyI cyJ w_o w_f w_r w_b w_a w_l t_S t_O t_H s_n t_W s_k v_s) sz)) (xr_X R (cl_W q5 q2 q1 q3 qs qo qh qw cyI cyJ w_o w_f w_r w_b w_a w_l t_S t_O t_H s_n t_W s_k v_s) (dC, dI) kcl (va_A (cl_W q5 q2 q1 q3 qs qo qh qw cyI cyJ w_o w_f w_r w_b w_a w_l t_S t_O t_H s_n t_W s_k v_s) sz)) 2 12 (va_A (cl_W q5 q2 q1 q3 qs qo qh qw cyI cyJ w_o w_f w_r w_b w_a w_l t_S t_O t_H s_n t_W s_k v_s) sz) := by
  refine vx_ofW (cc := cX5_root) (maxL := 3) (ret := none) (by decide) rfl ?_
  intro p e s m args below meth c s₁ B hml hnt hv
  obtain ⟨rfl, hsz, hP, hK, hD0, hZ⟩ := hv
  have hx := B.exec
  have hb := B.bytes
  have hr := B.returns
  have hts := atoms_spec (ws := wsX5_root) B.pre
  have hown : s.vm.findClass RX5 = some m.cls := findClass_of_methodNamed B.named
  have hlocks := B.notSynchronized
  subst hsz
  have hD := hD0.self (sz := s.heap.size)
  generalize hAe : va_A (cl_W q5 q2 q1 q3 qs qo qh qw cyI cyJ w_o w_f w_r w_b w_a w_l t_S t_O t_H s_n t_W s_k v_s) s.heap.size = A at hD hZ ⊢
  have hA : ∀ q : Nat, s.heap.size ≤ q → A q := fun q h => by rw [← hAe]; exact Or.inr h
  have hP : va_P (dC, dI) kcl (cl_W q5 q2 q1 q3 qs qo qh qw cyI cyJ w_o w_f w_r w_b w_a w_l t_S t_O t_H s_n t_W s_k v_s) s.heap := hP
  have h0_ : (Cond.fieldLink RX5 10 "ColourTrier" "setup" "LColourTrier$Setup;").before _ s = true := hts _ (by decide +kernel)
  have h1_ : ∀ w ∈ u_ws RX5 TX5 4, w ∈ wsX5_root := fun w h => List.mem_cons_of_mem _ (List.mem_append_left _ (List.mem_append_left _ (List.mem_append_right _ h)))
  have h2_ : (Cond.fieldLink RX5 65 "ColourTrier$Setup" "roots" "I").before _ s = true := hts _ (by decide +kernel)
  have h3_ : ∀ w ∈ u_ws RX3 TX3 6, w ∈ wsX5_root := fun w h => List.mem_cons_of_mem _ (List.mem_append_left _ (List.mem_append_right _ h))
  have h4_ : (Cond.fieldLink RX5 49 "ColourTrier$Setup" "objects" "I").before _ s = true := hts _ (by decide +kernel)
  have h5_ : (Cond.fieldLink RX5 56 "ColourTrier$Setup" "links" "J").before _ s = true := hts _ (by decide +kernel)
  have h6_ : (Cond.fieldLink RX5 38 "ColourTrier" "state" "J").before _ s = true := hts _ (by decide +kernel)
  have hl := lv_entry ([.ref q5, .int a0, .int a1]) (n := 3) (Nat.le_of_ble_eq_true rfl)
  rw [lg_entry_eq]
  generalize (lg_sl ([.ref q5, .int a0, .int a1]) ++ List.replicate (3 - (lg_sl ([.ref q5, .int a0, .int a1])).length) Slot.unset).toArray = ls at hl ⊢
  have hl : lv_has ls 3 [(0, .ref q5), (1, .int a0), (2, .int a1)] := hl
  unfold cf_X5_root at hR
  refine mu_start (A := A) (fun H locs hP hS => ?_) hP
  refine lv_iload_n hx hb dX5_root_0 rfl (lv_at hl 1 rfl) ?_
  refine lv_iconst (v := (0 : Int32)) hx hb dX5_root_1 (by decide +kernel) ?_
  refine lv_aload_n hx hb dX5_root_2 rfl (lv_at hl 0 rfl) ?_
  refine va_get (D := (dC, dI)) (ci := 3) (v := .ref q3) (C := RX5) (T := TX5) (N := 4) hx hb hts h1_ hown hK hP 0 rfl rfl 0 (by decide) h0_ (fun _ h9 => h9) rfl dX5_root_3 ?_
  refine va_get (D := (dC, dI)) (ci := 2) (v := .int w_r) (C := RX3) (T := TX3) (N := 6) hx hb hts h3_ hown hK hP 3 rfl rfl 2 (by decide) h2_ (fun _ h9 => h9) rfl dX5_root_6 ?_
  refine lv_iconst (v := (1 : Int32)) hx hb dX5_root_9 (by decide +kernel) ?_
  refine lv_isub hx hb dX5_root_10 ?_
  refine xm_call (x := a0) (lo := (0 : Int32)) (hi := (w_r - (1 : Int32))) (rest := []) hl0 ⟨hx, hb, hml, hown, hts⟩ gX5_root_X5_mustLieWithin ⟨Nat.le_of_ble_eq_true rfl, Nat.le_of_ble_eq_true rfl⟩ ⟨Nat.le_of_ble_eq_true rfl, Nat.le_of_ble_eq_true rfl⟩ hZ hP hS hA hl.1 (by decide) dX5_root_11 (fun hcx H locs ce q9 hP hS hce hv9 hcl => ?_) (fun hc1 hc2 H locs hP hS => ?_)
  · rw [if_pos hcx] at hR
    refine vx_widen (k := 2) (n := 12) (by decide) (by decide) (vx_out (fun x hx => absurd (hnt x hx) id) hlocks hce hv9 hcl (fun t ht _ => ⟨(), trivial, ⟨hR.symm, by rw [ht]; exact hP⟩, hS.F ht⟩) hS.2.2 (Nat.le_refl _) (Nat.le_refl _))
  · rw [if_neg (fun z => z.elim hc1 (fun y => y hc2))] at hR
    have hP : va_P (dC, dI) kcl (cl_W q5 q2 q1 q3 qs qo qh qw cyI cyJ w_o w_f w_r w_b w_a w_l t_S t_O t_H s_n t_W s_k v_s) H := hP
    refine lv_iload_n hx hb dX5_root_14 rfl (lv_at hl 2 rfl) ?_
    refine lv_iconst (v := (-1 : Int32)) hx hb dX5_root_15 (by decide +kernel) ?_
    refine lv_aload_n hx hb dX5_root_16 rfl (lv_at hl 0 rfl) ?_
    refine va_get (D := (dC, dI)) (ci := 3) (v := .ref q3) (C := RX5) (T := TX5) (N := 4) hx hb hts h1_ hown hK hP 0 rfl rfl 0 (by decide) h0_ (fun _ h9 => h9) rfl dX5_root_17 ?_
    refine va_get (D := (dC, dI)) (ci := 2) (v := .int w_o) (C := RX3) (T := TX3) (N := 6) hx hb hts h3_ hown hK hP 3 rfl rfl 0 (by decide) h4_ (fun _ h9 => h9) rfl dX5_root_20 ?_
    refine lv_iconst (v := (1 : Int32)) hx hb dX5_root_23 (by decide +kernel) ?_
    refine lv_isub hx hb dX5_root_24 ?_
    refine xm_call (x := a1) (lo := (-1 : Int32)) (hi := (w_o - (1 : Int32))) (rest := []) hl0 ⟨hx, hb, hml, hown, hts⟩ gX5_root_X5_mustLieWithin ⟨Nat.le_of_ble_eq_true rfl, Nat.le_of_ble_eq_true rfl⟩ ⟨Nat.le_of_ble_eq_true rfl, Nat.le_of_ble_eq_true rfl⟩ hZ hP hS hA hl.1 (by decide) dX5_root_25 (fun hcx H locs ce q9 hP hS hce hv9 hcl => ?_) (fun hc1 hc2 H locs hP hS => ?_)
    · rw [if_pos hcx] at hR
      refine vx_widen (k := 2) (n := 12) (by decide) (by decide) (vx_out (fun x hx => absurd (hnt x hx) id) hlocks hce hv9 hcl (fun t ht _ => ⟨(), trivial, ⟨hR.symm, by rw [ht]; exact hP⟩, hS.F ht⟩) hS.2.2 (Nat.le_refl _) (Nat.le_refl _))
    · rw [if_neg (fun z => z.elim hc1 (fun y => y hc2))] at hR
      have hP : va_P (dC, dI) kcl (cl_W q5 q2 q1 q3 qs qo qh qw cyI cyJ w_o w_f w_r w_b w_a w_l t_S t_O t_H s_n t_W s_k v_s) H := hP
      refine lv_aload_n hx hb dX5_root_28 rfl (lv_at hl 0 rfl) ?_
      refine va_get (D := (dC, dI)) (ci := 3) (v := .ref q3) (C := RX5) (T := TX5) (N := 4) hx hb hts h1_ hown hK hP 0 rfl rfl 0 (by decide) h0_ (fun _ h9 => h9) rfl dX5_root_29 ?_
      refine lv_aload_n hx hb dX5_root_32 rfl (lv_at hl 0 rfl) ?_
      refine va_get (D := (dC, dI)) (ci := 3) (v := .ref q3) (C := RX5) (T := TX5) (N := 4) hx hb hts h1_ hown hK hP 0 rfl rfl 0 (by decide) h0_ (fun _ h9 => h9) rfl dX5_root_33 ?_
      refine va_get (D := (dC, dI)) (ci := 2) (v := .long w_l) (C := RX3) (T := TX3) (N := 6) hx hb hts h3_ hown hK hP 3 rfl rfl 5 (by decide) h5_ (fun _ h9 => h9) rfl dX5_root_36 ?_
      refine lv_iload_n hx hb dX5_root_39 rfl (lv_at hl 1 rfl) ?_
      refine lv_iload_n hx hb dX5_root_40 rfl (lv_at hl 2 rfl) ?_
      refine rd_calll (va_runS (As := [.long w_l, .int a0, .int a1]) (rest := [.ref q3]) ⟨hx, hb, hml, hown, hts⟩ (c_X4_withRoot l w_l a0 a1) (va_cwS 3 hts gX5_root_X4_withRoot rfl rfl rfl (by decide +kernel) ⟨Nat.le_of_ble_eq_true rfl, Nat.le_of_ble_eq_true rfl⟩) ⟨pu_blind, fun U hU hW => rfl⟩ rfl rfl hl.1 rfl (lv_room (Nat.le_of_ble_eq_true rfl)) dX5_root_41 ⟨Nat.le_of_ble_eq_true rfl, Nat.le_of_ble_eq_true rfl⟩) ?_
      refine va_put (D := (dC, dI)) (ci := 2) (v := .long (cf_X4_withRoot w_l a0 a1)) (ty := .long) (C := RX3) (T := TX3) (N := 6) hx hb hts h3_ tyX3 tyX3_ok nmX3 hown hK hP hD hS 3 rfl rfl 5 (by decide) h5_ (fun _ h9 => h9) rfl (by decide +kernel) rfl rfl (Nat.le_of_ble_eq_true rfl) dX5_root_44 (fun H locs hP hD hS => ?_)
      have hP : va_P (dC, dI) kcl (cl_W q5 q2 q1 q3 qs qo qh qw cyI cyJ w_o w_f w_r w_b w_a (cf_X4_withRoot w_l a0 a1) t_S t_O t_H s_n t_W s_k v_s) H := hP
      have hD : va_D A (cl_W q5 q2 q1 q3 qs qo qh qw cyI cyJ w_o w_f w_r w_b w_a (cf_X4_withRoot w_l a0 a1) t_S t_O t_H s_n t_W s_k v_s) := hD
      refine lv_aload_n hx hb dX5_root_47 rfl (lv_at hl 0 rfl) ?_
      refine lv_aload_n hx hb dX5_root_48 rfl (lv_at hl 0 rfl) ?_
      refine va_get (D := (dC, dI)) (ci := 3) (v := .ref q3) (C := RX5) (T := TX5) (N := 4) hx hb hts h1_ hown hK hP 0 rfl rfl 0 (by decide) h0_ (fun _ h9 => h9) rfl dX5_root_49 ?_
      refine rd_calll (va_runV (As := []) (rest := [.ref q5]) ⟨hx, hb, hml, hown, hts⟩ (c_X3_firstState l dC dI q3 w_o w_f w_r w_b w_a (cf_X4_withRoot w_l a0 a1)  ) (cwV 0 hts gX5_root_X3_firstState rfl rfl rfl (by decide +kernel) ⟨Nat.le_of_ble_eq_true rfl, Nat.le_of_ble_eq_true rfl⟩) ⟨rd_blind, va_recv hK hP (ci := 2) (q0 := 3) rfl rfl, fun U hU hW => ⟨rfl, by rw [hU]; exact (hP.sub [3] rfl), va_K.moved hW.alike (hK.sub [] rfl)⟩⟩ rfl rfl hl.1 rfl (lv_room (Nat.le_of_ble_eq_true rfl)) dX5_root_52 ⟨Nat.le_of_ble_eq_true rfl, Nat.le_of_ble_eq_true rfl⟩) ?_
      refine va_put (D := (dC, dI)) (ci := 3) (v := .long (cf_X3_firstState w_o w_f w_r w_b w_a (cf_X4_withRoot w_l a0 a1) )) (ty := .long) (C := RX5) (T := TX5) (N := 4) hx hb hts h1_ tyX5 tyX5_ok nmX5 hown hK hP hD hS 0 rfl rfl 3 (by decide) h6_ (fun _ h9 => h9) rfl (by decide +kernel) rfl rfl (Nat.le_of_ble_eq_true rfl) dX5_root_55 (fun H locs hP hD hS => ?_)
      have hP : va_P (dC, dI) kcl (cl_W q5 q2 q1 q3 qs qo qh qw cyI cyJ w_o w_f w_r w_b w_a (cf_X4_withRoot w_l a0 a1) t_S t_O t_H s_n t_W s_k (cf_X3_firstState w_o w_f w_r w_b w_a (cf_X4_withRoot w_l a0 a1) )) H := hP
      have hD : va_D A (cl_W q5 q2 q1 q3 qs qo qh qw cyI cyJ w_o w_f w_r w_b w_a (cf_X4_withRoot w_l a0 a1) t_S t_O t_H s_n t_W s_k (cf_X3_firstState w_o w_f w_r w_b w_a (cf_X4_withRoot w_l a0 a1) )) := hD
      refine W.widen (k := 2) (n := 12) (by decide) (by decide) (vx_ret ?_)
      exact W.vret hx hb hr (fun t ht _ => ⟨⟨((cf_X4_withRoot w_l a0 a1), (cf_X3_firstState w_o w_f w_r w_b w_a (cf_X4_withRoot w_l a0 a1) )), rfl, hR.symm, show va_P (dC, dI) kcl (cl_W q5 q2 q1 q3 qs qo qh qw cyI cyJ w_o w_f w_r w_b w_a (cf_X4_withRoot w_l a0 a1) t_S t_O t_H s_n t_W s_k (cf_X3_firstState w_o w_f w_r w_b w_a (cf_X4_withRoot w_l a0 a1) )) t.heap by rw [ht]; exact hP⟩, hS.F ht⟩) hS.2.2 dX5_root_58
def cf_X5_rules (w_o : Int32) (w_f : Int32) (w_r : Int32) (w_b : Int32) (w_a : Int32) (w_l : Int64) (v_s : Int64) (a0 : Int32) (a1 : Int32) : Except String (Int32 × Int32 × Int64) :=
  (if a0 < (0 : Int32) ∨ ¬ a0 ≤ (127 : Int32) then (Except.error ex_A) else (if a1 < (0 : Int32) ∨ ¬ a1 ≤ (8 : Int32) then (Except.error ex_A) else (Except.ok (a0, a1, (cf_X3_firstState w_o w_f w_r a0 a1 w_l )))))
set_option maxHeartbeats 4000000 in
set_option maxRecDepth 100000 in
theorem c_X5_rules (l : Launch) (hl0 : l.stackTraces = false) (dC : Nat → ClassId) (dI : Nat → Nat → Nat) (q5 q2 q1 q3 qs qo qh qw : Nat) (cyI cyJ : ClassId) (w_o : Int32) (w_f : Int32) (w_r : Int32) (w_b : Int32) (w_a : Int32) (w_l : Int64) (t_S : Nat → Int64) (t_O : Nat → Int32) (t_H : Nat → Int32) (s_n : Int32) (t_W : Nat → Int32) (s_k : Int32) (v_s : Int64) (sz : Nat) (a0 : Int32) (a1 : Int32)   (R : Except String (Int32 × Int32 × Int64)) (hR : (cf_X5_rules w_o w_f w_r w_b w_a w_l v_s a0 a1) = R) : vx_Met l yX5_rules wsX5_rules ({ frames := 7, cells := 2, slots := 12, locals := 104 }) (xw_P [.ref q5, .int a0, .int a1] sz (dC, dI) kcl (cl_W q5 q2 q1 q3 qs qo qh qw cyI cyJ w_o w_f w_r w_b w_a w_l t_S t_O t_H s_n t_W s_k v_s) [(cyI, .int), (cyJ, .long)]) (xr_v R (fun u => (cl_W q5 q2 q1 q3 qs qo qh qw cyI cyJ w_o w_f w_r u.1 u.2.1 w_l t_S t_O t_H s_n t_W s_k u.2.2)) (dC, dI) kcl (va_A (cl_W q5 q2 q1 q3 qs qo qh qw cyI cyJ w_o w_f w_r w_b w_a w_l t_S t_O t_H s_n t_W s_k v_s) sz)) (xr_X R (cl_W q5 q2 q1 q3 qs qo qh qw cyI cyJ w_o w_f w_r w_b w_a w_l t_S t_O t_H s_n t_W s_k v_s) (dC, dI) kcl (va_A (cl_W q5 q2 q1 q3 qs qo qh qw cyI cyJ w_o w_f w_r w_b w_a w_l t_S t_O t_H s_n t_W s_k v_s) sz)) 2 12 (va_A (cl_W q5 q2 q1 q3 qs qo qh qw cyI cyJ w_o w_f w_r w_b w_a w_l t_S t_O t_H s_n t_W s_k v_s) sz) := by
  refine vx_ofW (cc := cX5_rules) (maxL := 3) (ret := none) (by decide) rfl ?_
  intro p e s m args below meth c s₁ B hml hnt hv
  obtain ⟨rfl, hsz, hP, hK, hD0, hZ⟩ := hv
  have hx := B.exec
  have hb := B.bytes
  have hr := B.returns
  have hts := atoms_spec (ws := wsX5_rules) B.pre
  have hown : s.vm.findClass RX5 = some m.cls := findClass_of_methodNamed B.named
  have hlocks := B.notSynchronized
  subst hsz
  have hD := hD0.self (sz := s.heap.size)
  generalize hAe : va_A (cl_W q5 q2 q1 q3 qs qo qh qw cyI cyJ w_o w_f w_r w_b w_a w_l t_S t_O t_H s_n t_W s_k v_s) s.heap.size = A at hD hZ ⊢
  have hA : ∀ q : Nat, s.heap.size ≤ q → A q := fun q h => by rw [← hAe]; exact Or.inr h
  have hP : va_P (dC, dI) kcl (cl_W q5 q2 q1 q3 qs qo qh qw cyI cyJ w_o w_f w_r w_b w_a w_l t_S t_O t_H s_n t_W s_k v_s) s.heap := hP
  have h0_ : (Cond.fieldLink RX5 10 "ColourTrier" "setup" "LColourTrier$Setup;").before _ s = true := hts _ (by decide +kernel)
  have h1_ : ∀ w ∈ u_ws RX5 TX5 4, w ∈ wsX5_rules := fun w h => List.mem_cons_of_mem _ (List.mem_append_left _ (List.mem_append_left _ (List.mem_append_right _ h)))
  have h2_ : (Cond.fieldLink RX5 72 "ColourTrier$Setup" "barriers" "I").before _ s = true := hts _ (by decide +kernel)
  have h3_ : ∀ w ∈ u_ws RX3 TX3 6, w ∈ wsX5_rules := fun w h => List.mem_cons_of_mem _ (List.mem_append_left _ (List.mem_append_right _ h))
  have h4_ : (Cond.fieldLink RX5 75 "ColourTrier$Setup" "acts" "I").before _ s = true := hts _ (by decide +kernel)
  have h5_ : (Cond.fieldLink RX5 38 "ColourTrier" "state" "J").before _ s = true := hts _ (by decide +kernel)
  have hl := lv_entry ([.ref q5, .int a0, .int a1]) (n := 3) (Nat.le_of_ble_eq_true rfl)
  rw [lg_entry_eq]
  generalize (lg_sl ([.ref q5, .int a0, .int a1]) ++ List.replicate (3 - (lg_sl ([.ref q5, .int a0, .int a1])).length) Slot.unset).toArray = ls at hl ⊢
  have hl : lv_has ls 3 [(0, .ref q5), (1, .int a0), (2, .int a1)] := hl
  unfold cf_X5_rules at hR
  refine mu_start (A := A) (fun H locs hP hS => ?_) hP
  refine lv_iload_n hx hb dX5_rules_0 rfl (lv_at hl 1 rfl) ?_
  refine lv_iconst (v := (0 : Int32)) hx hb dX5_rules_1 (by decide +kernel) ?_
  refine lv_bipush (v := (127 : Int32)) hx hb dX5_rules_2 (by decide +kernel) ?_
  refine xm_call (x := a0) (lo := (0 : Int32)) (hi := (127 : Int32)) (rest := []) hl0 ⟨hx, hb, hml, hown, hts⟩ gX5_rules_X5_mustLieWithin ⟨Nat.le_of_ble_eq_true rfl, Nat.le_of_ble_eq_true rfl⟩ ⟨Nat.le_of_ble_eq_true rfl, Nat.le_of_ble_eq_true rfl⟩ hZ hP hS hA hl.1 (by decide) dX5_rules_4 (fun hcx H locs ce q9 hP hS hce hv9 hcl => ?_) (fun hc1 hc2 H locs hP hS => ?_)
  · rw [if_pos hcx] at hR
    refine vx_widen (k := 2) (n := 12) (by decide) (by decide) (vx_out (fun x hx => absurd (hnt x hx) id) hlocks hce hv9 hcl (fun t ht _ => ⟨(), trivial, ⟨hR.symm, by rw [ht]; exact hP⟩, hS.F ht⟩) hS.2.2 (Nat.le_refl _) (Nat.le_refl _))
  · rw [if_neg (fun z => z.elim hc1 (fun y => y hc2))] at hR
    have hP : va_P (dC, dI) kcl (cl_W q5 q2 q1 q3 qs qo qh qw cyI cyJ w_o w_f w_r w_b w_a w_l t_S t_O t_H s_n t_W s_k v_s) H := hP
    refine lv_iload_n hx hb dX5_rules_7 rfl (lv_at hl 2 rfl) ?_
    refine lv_iconst (v := (0 : Int32)) hx hb dX5_rules_8 (by decide +kernel) ?_
    refine lv_bipush (v := (8 : Int32)) hx hb dX5_rules_9 (by decide +kernel) ?_
    refine xm_call (x := a1) (lo := (0 : Int32)) (hi := (8 : Int32)) (rest := []) hl0 ⟨hx, hb, hml, hown, hts⟩ gX5_rules_X5_mustLieWithin ⟨Nat.le_of_ble_eq_true rfl, Nat.le_of_ble_eq_true rfl⟩ ⟨Nat.le_of_ble_eq_true rfl, Nat.le_of_ble_eq_true rfl⟩ hZ hP hS hA hl.1 (by decide) dX5_rules_11 (fun hcx H locs ce q9 hP hS hce hv9 hcl => ?_) (fun hc1 hc2 H locs hP hS => ?_)
    · rw [if_pos hcx] at hR
      refine vx_widen (k := 2) (n := 12) (by decide) (by decide) (vx_out (fun x hx => absurd (hnt x hx) id) hlocks hce hv9 hcl (fun t ht _ => ⟨(), trivial, ⟨hR.symm, by rw [ht]; exact hP⟩, hS.F ht⟩) hS.2.2 (Nat.le_refl _) (Nat.le_refl _))
    · rw [if_neg (fun z => z.elim hc1 (fun y => y hc2))] at hR
      have hP : va_P (dC, dI) kcl (cl_W q5 q2 q1 q3 qs qo qh qw cyI cyJ w_o w_f w_r w_b w_a w_l t_S t_O t_H s_n t_W s_k v_s) H := hP
      refine lv_aload_n hx hb dX5_rules_14 rfl (lv_at hl 0 rfl) ?_
      refine va_get (D := (dC, dI)) (ci := 3) (v := .ref q3) (C := RX5) (T := TX5) (N := 4) hx hb hts h1_ hown hK hP 0 rfl rfl 0 (by decide) h0_ (fun _ h9 => h9) rfl dX5_rules_15 ?_
      refine lv_iload_n hx hb dX5_rules_18 rfl (lv_at hl 1 rfl) ?_
      refine va_put (D := (dC, dI)) (ci := 2) (v := .int a0) (ty := .int) (C := RX3) (T := TX3) (N := 6) hx hb hts h3_ tyX3 tyX3_ok nmX3 hown hK hP hD hS 3 rfl rfl 3 (by decide) h2_ (fun _ h9 => h9) rfl (by decide +kernel) rfl rfl (Nat.le_of_ble_eq_true rfl) dX5_rules_19 (fun H locs hP hD hS => ?_)
      have hP : va_P (dC, dI) kcl (cl_W q5 q2 q1 q3 qs qo qh qw cyI cyJ w_o w_f w_r a0 w_a w_l t_S t_O t_H s_n t_W s_k v_s) H := hP
      have hD : va_D A (cl_W q5 q2 q1 q3 qs qo qh qw cyI cyJ w_o w_f w_r a0 w_a w_l t_S t_O t_H s_n t_W s_k v_s) := hD
      refine lv_aload_n hx hb dX5_rules_22 rfl (lv_at hl 0 rfl) ?_
      refine va_get (D := (dC, dI)) (ci := 3) (v := .ref q3) (C := RX5) (T := TX5) (N := 4) hx hb hts h1_ hown hK hP 0 rfl rfl 0 (by decide) h0_ (fun _ h9 => h9) rfl dX5_rules_23 ?_
      refine lv_iload_n hx hb dX5_rules_26 rfl (lv_at hl 2 rfl) ?_
      refine va_put (D := (dC, dI)) (ci := 2) (v := .int a1) (ty := .int) (C := RX3) (T := TX3) (N := 6) hx hb hts h3_ tyX3 tyX3_ok nmX3 hown hK hP hD hS 3 rfl rfl 4 (by decide) h4_ (fun _ h9 => h9) rfl (by decide +kernel) rfl rfl (Nat.le_of_ble_eq_true rfl) dX5_rules_27 (fun H locs hP hD hS => ?_)
      have hP : va_P (dC, dI) kcl (cl_W q5 q2 q1 q3 qs qo qh qw cyI cyJ w_o w_f w_r a0 a1 w_l t_S t_O t_H s_n t_W s_k v_s) H := hP
      have hD : va_D A (cl_W q5 q2 q1 q3 qs qo qh qw cyI cyJ w_o w_f w_r a0 a1 w_l t_S t_O t_H s_n t_W s_k v_s) := hD
      refine lv_aload_n hx hb dX5_rules_30 rfl (lv_at hl 0 rfl) ?_
      refine lv_aload_n hx hb dX5_rules_31 rfl (lv_at hl 0 rfl) ?_
      refine va_get (D := (dC, dI)) (ci := 3) (v := .ref q3) (C := RX5) (T := TX5) (N := 4) hx hb hts h1_ hown hK hP 0 rfl rfl 0 (by decide) h0_ (fun _ h9 => h9) rfl dX5_rules_32 ?_
      refine rd_calll (va_runV (As := []) (rest := [.ref q5]) ⟨hx, hb, hml, hown, hts⟩ (c_X3_firstState l dC dI q3 w_o w_f w_r a0 a1 w_l  ) (cwV 0 hts gX5_rules_X3_firstState rfl rfl rfl (by decide +kernel) ⟨Nat.le_of_ble_eq_true rfl, Nat.le_of_ble_eq_true rfl⟩) ⟨rd_blind, va_recv hK hP (ci := 2) (q0 := 3) rfl rfl, fun U hU hW => ⟨rfl, by rw [hU]; exact (hP.sub [3] rfl), va_K.moved hW.alike (hK.sub [] rfl)⟩⟩ rfl rfl hl.1 rfl (lv_room (Nat.le_of_ble_eq_true rfl)) dX5_rules_35 ⟨Nat.le_of_ble_eq_true rfl, Nat.le_of_ble_eq_true rfl⟩) ?_
      refine va_put (D := (dC, dI)) (ci := 3) (v := .long (cf_X3_firstState w_o w_f w_r a0 a1 w_l )) (ty := .long) (C := RX5) (T := TX5) (N := 4) hx hb hts h1_ tyX5 tyX5_ok nmX5 hown hK hP hD hS 0 rfl rfl 3 (by decide) h5_ (fun _ h9 => h9) rfl (by decide +kernel) rfl rfl (Nat.le_of_ble_eq_true rfl) dX5_rules_38 (fun H locs hP hD hS => ?_)
      have hP : va_P (dC, dI) kcl (cl_W q5 q2 q1 q3 qs qo qh qw cyI cyJ w_o w_f w_r a0 a1 w_l t_S t_O t_H s_n t_W s_k (cf_X3_firstState w_o w_f w_r a0 a1 w_l )) H := hP
      have hD : va_D A (cl_W q5 q2 q1 q3 qs qo qh qw cyI cyJ w_o w_f w_r a0 a1 w_l t_S t_O t_H s_n t_W s_k (cf_X3_firstState w_o w_f w_r a0 a1 w_l )) := hD
      refine W.widen (k := 2) (n := 12) (by decide) (by decide) (vx_ret ?_)
      exact W.vret hx hb hr (fun t ht _ => ⟨⟨(a0, a1, (cf_X3_firstState w_o w_f w_r a0 a1 w_l )), rfl, hR.symm, show va_P (dC, dI) kcl (cl_W q5 q2 q1 q3 qs qo qh qw cyI cyJ w_o w_f w_r a0 a1 w_l t_S t_O t_H s_n t_W s_k (cf_X3_firstState w_o w_f w_r a0 a1 w_l )) t.heap by rw [ht]; exact hP⟩, hS.F ht⟩) hS.2.2 dX5_rules_41
def cf_X5_find (fu : Nat) (w_o : Int32) (w_f : Int32) (w_r : Int32) (w_b : Int32) (w_a : Int32) (w_l : Int64) (t_S : Nat → Int64) (t_O : Nat → Int32) (t_H : Nat → Int32) (s_n : Int32) (t_W : Nat → Int32) (s_k : Int32) (a0 : Int32) : Except String (((Nat → Int64) × (Nat → Int32) × (Nat → Int32) × Int32 × (Nat → Int32) × Int32) × Int32) :=
  (if a0 < (0 : Int32) ∨ ¬ a0 ≤ (3 : Int32) then (Except.error ex_A) else (Except.ok (((cf_X2_shortestRow fu w_o w_f w_r w_b w_a w_l t_S t_O t_H s_n t_W s_k (cf_X3_firstState w_o w_f w_r w_b w_a w_l ) a0).1, (cf_X2_shortestRow fu w_o w_f w_r w_b w_a w_l t_S t_O t_H s_n t_W s_k (cf_X3_firstState w_o w_f w_r w_b w_a w_l ) a0).2.1, (cf_X2_shortestRow fu w_o w_f w_r w_b w_a w_l t_S t_O t_H s_n t_W s_k (cf_X3_firstState w_o w_f w_r w_b w_a w_l ) a0).2.2.1, (cf_X2_shortestRow fu w_o w_f w_r w_b w_a w_l t_S t_O t_H s_n t_W s_k (cf_X3_firstState w_o w_f w_r w_b w_a w_l ) a0).2.2.2.1, (cf_X2_shortestRow fu w_o w_f w_r w_b w_a w_l t_S t_O t_H s_n t_W s_k (cf_X3_firstState w_o w_f w_r w_b w_a w_l ) a0).2.2.2.2.1, (cf_X2_shortestRow fu w_o w_f w_r w_b w_a w_l t_S t_O t_H s_n t_W s_k (cf_X3_firstState w_o w_f w_r w_b w_a w_l ) a0).2.2.2.2.2.1), (cf_X2_shortestRow fu w_o w_f w_r w_b w_a w_l t_S t_O t_H s_n t_W s_k (cf_X3_firstState w_o w_f w_r w_b w_a w_l ) a0).2.2.2.2.2.2)))
def vc_X5_find (fu : Nat) (w_o : Int32) (w_f : Int32) (w_r : Int32) (w_b : Int32) (w_a : Int32) (w_l : Int64) (t_S : Nat → Int64) (t_O : Nat → Int32) (t_H : Nat → Int32) (s_n : Int32) (t_W : Nat → Int32) (s_k : Int32) (a0 : Int32) : Prop :=
  (¬ (a0 < (0 : Int32) ∨ ¬ a0 ≤ (3 : Int32)) → (vc_X2_shortestRow fu w_o w_f w_r w_b w_a w_l t_S t_O t_H s_n t_W s_k (cf_X3_firstState w_o w_f w_r w_b w_a w_l ) a0 ∧ True))
set_option maxHeartbeats 4000000 in
set_option maxRecDepth 100000 in
theorem c_X5_find (l : Launch) (hl0 : l.stackTraces = false) (dC : Nat → ClassId) (dI : Nat → Nat → Nat) (q5 q2 q1 q3 qs qo qh qw : Nat) (cyI cyJ : ClassId) (w_o : Int32) (w_f : Int32) (w_r : Int32) (w_b : Int32) (w_a : Int32) (w_l : Int64) (t_S : Nat → Int64) (t_O : Nat → Int32) (t_H : Nat → Int32) (s_n : Int32) (t_W : Nat → Int32) (s_k : Int32) (v_s : Int64) (sz : Nat) (fu : Nat) (a0 : Int32) (hw_r : w_r ≤ 3) (hV : vc_X5_find fu w_o w_f w_r w_b w_a w_l t_S t_O t_H s_n t_W s_k a0) (R : Except String (((Nat → Int64) × (Nat → Int32) × (Nat → Int32) × Int32 × (Nat → Int32) × Int32) × Int32)) (hR : (cf_X5_find fu w_o w_f w_r w_b w_a w_l t_S t_O t_H s_n t_W s_k a0) = R) : vx_Met l yX5_find wsX5_find ({ frames := 7, cells := 1, slots := 6, locals := 177 }) (xw_P [.ref q5, .int a0] sz (dC, dI) kcl (cl_W q5 q2 q1 q3 qs qo qh qw cyI cyJ w_o w_f w_r w_b w_a w_l t_S t_O t_H s_n t_W s_k v_s) [(cyI, .int), (cyJ, .long)]) (xr_i R (fun u => (cl_W q5 q2 q1 q3 qs qo qh qw cyI cyJ w_o w_f w_r w_b w_a w_l u.1 u.2.1 u.2.2.1 u.2.2.2.1 u.2.2.2.2.1 u.2.2.2.2.2 v_s)) (dC, dI) kcl (va_A (cl_W q5 q2 q1 q3 qs qo qh qw cyI cyJ w_o w_f w_r w_b w_a w_l t_S t_O t_H s_n t_W s_k v_s) sz)) (xr_X R (cl_W q5 q2 q1 q3 qs qo qh qw cyI cyJ w_o w_f w_r w_b w_a w_l t_S t_O t_H s_n t_W s_k v_s) (dC, dI) kcl (va_A (cl_W q5 q2 q1 q3 qs qo qh qw cyI cyJ w_o w_f w_r w_b w_a w_l t_S t_O t_H s_n t_W s_k v_s) sz)) 1 6 (va_A (cl_W q5 q2 q1 q3 qs qo qh qw cyI cyJ w_o w_f w_r w_b w_a w_l t_S t_O t_H s_n t_W s_k v_s) sz) := by
  refine vx_ofW (cc := cX5_find) (maxL := 2) (ret := (some .int)) (by decide) rfl ?_
  intro p e s m args below meth c s₁ B hml hnt hv
  obtain ⟨rfl, hsz, hP, hK, hD0, hZ⟩ := hv
  have hx := B.exec
  have hb := B.bytes
  have hr := B.returns
  have hts := atoms_spec (ws := wsX5_find) B.pre
  have hown : s.vm.findClass RX5 = some m.cls := findClass_of_methodNamed B.named
  have hlocks := B.notSynchronized
  subst hsz
  have hD := hD0.self (sz := s.heap.size)
  generalize hAe : va_A (cl_W q5 q2 q1 q3 qs qo qh qw cyI cyJ w_o w_f w_r w_b w_a w_l t_S t_O t_H s_n t_W s_k v_s) s.heap.size = A at hD hZ ⊢
  have hA : ∀ q : Nat, s.heap.size ≤ q → A q := fun q h => by rw [← hAe]; exact Or.inr h
  have hP : va_P (dC, dI) kcl (cl_W q5 q2 q1 q3 qs qo qh qw cyI cyJ w_o w_f w_r w_b w_a w_l t_S t_O t_H s_n t_W s_k v_s) s.heap := hP
  have h0_ : (Cond.fieldLink RX5 30 "ColourTrier" "search" "LColourTrier$Search;").before _ s = true := hts _ (by decide +kernel)
  have h1_ : ∀ w ∈ u_ws RX5 TX5 4, w ∈ wsX5_find := fun w h => List.mem_cons_of_mem _ (List.mem_append_left _ (List.mem_append_left _ (List.mem_append_left _ (List.mem_append_left _ (List.mem_append_right _ h)))))
  have h2_ : (Cond.fieldLink RX5 10 "ColourTrier" "setup" "LColourTrier$Setup;").before _ s = true := hts _ (by decide +kernel)
  have hl := lv_entry ([.ref q5, .int a0]) (n := 2) (Nat.le_of_ble_eq_true rfl)
  rw [lg_entry_eq]
  generalize (lg_sl ([.ref q5, .int a0]) ++ List.replicate (2 - (lg_sl ([.ref q5, .int a0])).length) Slot.unset).toArray = ls at hl ⊢
  have hl : lv_has ls 2 [(0, .ref q5), (1, .int a0)] := hl
  unfold cf_X5_find at hR
  unfold vc_X5_find at hV
  refine mu_start (A := A) (fun H locs hP hS => ?_) hP
  refine lv_iload_n hx hb dX5_find_0 rfl (lv_at hl 1 rfl) ?_
  refine lv_iconst (v := (0 : Int32)) hx hb dX5_find_1 (by decide +kernel) ?_
  refine lv_iconst (v := (3 : Int32)) hx hb dX5_find_2 (by decide +kernel) ?_
  refine xm_call (x := a0) (lo := (0 : Int32)) (hi := (3 : Int32)) (rest := []) hl0 ⟨hx, hb, hml, hown, hts⟩ gX5_find_X5_mustLieWithin ⟨Nat.le_of_ble_eq_true rfl, Nat.le_of_ble_eq_true rfl⟩ ⟨Nat.le_of_ble_eq_true rfl, Nat.le_of_ble_eq_true rfl⟩ hZ hP hS hA hl.1 (by decide) dX5_find_3 (fun hcx H locs ce q9 hP hS hce hv9 hcl => ?_) (fun hc1 hc2 H locs hP hS => ?_)
  · rw [if_pos hcx] at hR
    refine vx_widen (k := 1) (n := 6) (by decide) (by decide) (vx_out (fun x hx => absurd (hnt x hx) id) hlocks hce hv9 hcl (fun t ht _ => ⟨(), trivial, ⟨hR.symm, by rw [ht]; exact hP⟩, hS.F ht⟩) hS.2.2 (Nat.le_refl _) (Nat.le_refl _))
  · rw [if_neg (fun z => z.elim hc1 (fun y => y hc2))] at hR
    have hP : va_P (dC, dI) kcl (cl_W q5 q2 q1 q3 qs qo qh qw cyI cyJ w_o w_f w_r w_b w_a w_l t_S t_O t_H s_n t_W s_k v_s) H := hP
    have hV := hV (fun z => z.elim hc1 (fun y => y hc2))
    refine lv_aload_n hx hb dX5_find_6 rfl (lv_at hl 0 rfl) ?_
    refine va_get (D := (dC, dI)) (ci := 3) (v := .ref q2) (C := RX5) (T := TX5) (N := 4) hx hb hts h1_ hown hK hP 0 rfl rfl 2 (by decide) h0_ (fun _ h9 => h9) rfl dX5_find_7 ?_
    refine lv_aload_n hx hb dX5_find_10 rfl (lv_at hl 0 rfl) ?_
    refine va_get (D := (dC, dI)) (ci := 3) (v := .ref q3) (C := RX5) (T := TX5) (N := 4) hx hb hts h1_ hown hK hP 0 rfl rfl 0 (by decide) h2_ (fun _ h9 => h9) rfl dX5_find_11 ?_
    refine rd_calll (va_runV (As := []) (rest := [.ref q2]) ⟨hx, hb, hml, hown, hts⟩ (c_X3_firstState l dC dI q3 w_o w_f w_r w_b w_a w_l  ) (cwV 0 hts gX5_find_X3_firstState rfl rfl rfl (by decide +kernel) ⟨Nat.le_of_ble_eq_true rfl, Nat.le_of_ble_eq_true rfl⟩) ⟨rd_blind, va_recv hK hP (ci := 2) (q0 := 3) rfl rfl, fun U hU hW => ⟨rfl, by rw [hU]; exact (hP.sub [3] rfl), va_K.moved hW.alike (hK.sub [] rfl)⟩⟩ rfl rfl hl.1 rfl (lv_room (Nat.le_of_ble_eq_true rfl)) dX5_find_14 ⟨Nat.le_of_ble_eq_true rfl, Nat.le_of_ble_eq_true rfl⟩) ?_
    refine lv_iload_n hx hb dX5_find_17 rfl (lv_at hl 1 rfl) ?_
    obtain ⟨hv1, hV⟩ := hV
    refine mu_call (ws' := (cl_W q5 q2 q1 q3 qs qo qh qw cyI cyJ w_o w_f w_r w_b w_a w_l ((cf_X2_shortestRow fu w_o w_f w_r w_b w_a w_l t_S t_O t_H s_n t_W s_k (cf_X3_firstState w_o w_f w_r w_b w_a w_l ) a0).1) ((cf_X2_shortestRow fu w_o w_f w_r w_b w_a w_l t_S t_O t_H s_n t_W s_k (cf_X3_firstState w_o w_f w_r w_b w_a w_l ) a0).2.1) ((cf_X2_shortestRow fu w_o w_f w_r w_b w_a w_l t_S t_O t_H s_n t_W s_k (cf_X3_firstState w_o w_f w_r w_b w_a w_l ) a0).2.2.1) ((cf_X2_shortestRow fu w_o w_f w_r w_b w_a w_l t_S t_O t_H s_n t_W s_k (cf_X3_firstState w_o w_f w_r w_b w_a w_l ) a0).2.2.2.1) ((cf_X2_shortestRow fu w_o w_f w_r w_b w_a w_l t_S t_O t_H s_n t_W s_k (cf_X3_firstState w_o w_f w_r w_b w_a w_l ) a0).2.2.2.2.1) ((cf_X2_shortestRow fu w_o w_f w_r w_b w_a w_l t_S t_O t_H s_n t_W s_k (cf_X3_firstState w_o w_f w_r w_b w_a w_l ) a0).2.2.2.2.2.1) v_s)) (wr := [(q5, .inr (3, [.ref q3, .ref q1, .ref q2, .long v_s]))]) (va_runV (As := [.long (cf_X3_firstState w_o w_f w_r w_b w_a w_l ), .int a0]) (rest := []) ⟨hx, hb, hml, hown, hts⟩ (c_X2_shortestRow l dC dI q2 q1 q3 qs qo qh qw cyI cyJ w_o w_f w_r w_b w_a w_l t_S t_O t_H s_n t_W s_k H.size fu (cf_X3_firstState w_o w_f w_r w_b w_a w_l ) a0 hw_r hv1) (cwV 2 hts gX5_find_X2_shortestRow rfl rfl rfl (by decide +kernel) ⟨Nat.le_of_ble_eq_true rfl, Nat.le_of_ble_eq_true rfl⟩) ⟨mu_blind, va_recv hK hP (ci := 1) (q0 := 1) rfl rfl, fun U hU hW => ⟨rfl, by rw [hU], by rw [hU]; exact (hP.sub [1, 2, 3, 4, 5, 6, 7] rfl), va_K.moved hW.alike (hK.sub [0, 1] rfl), (hD.sub [1, 2, 3, 4, 5, 6, 7] (by decide) rfl).weaken (fun _ _ _ _ => trivial)⟩⟩ rfl rfl hl.1 rfl (lv_room (Nat.le_of_ble_eq_true rfl)) dX5_find_18 ⟨Nat.le_of_ble_eq_true rfl, Nat.le_of_ble_eq_true rfl⟩) hP hD hS hA [1, 2, 3, 4, 5, 6, 7] [0] [0, 1, 2, 3, 4, 5, 6, 7] rfl rfl (by decide) (by decide) (by decide) rfl (by decide) rfl (fun H locs hP hD hS => ?_)
    refine W.eq (g2 := F0 m 21 ls [.int ((cf_X2_shortestRow fu w_o w_f w_r w_b w_a w_l t_S t_O t_H s_n t_W s_k (cf_X3_firstState w_o w_f w_r w_b w_a w_l ) a0).2.2.2.2.2.2)]) rfl ?_
    refine W.widen (k := 1) (n := 6) (by decide) (by decide) (vx_ret ?_)
    exact W.iret (v := (cf_X2_shortestRow fu w_o w_f w_r w_b w_a w_l t_S t_O t_H s_n t_W s_k (cf_X3_firstState w_o w_f w_r w_b w_a w_l ) a0).2.2.2.2.2.2) hx hb hr (fun t ht _ => ⟨⟨(cf_X2_shortestRow fu w_o w_f w_r w_b w_a w_l t_S t_O t_H s_n t_W s_k (cf_X3_firstState w_o w_f w_r w_b w_a w_l ) a0).2.2.2.2.2.2, ((cf_X2_shortestRow fu w_o w_f w_r w_b w_a w_l t_S t_O t_H s_n t_W s_k (cf_X3_firstState w_o w_f w_r w_b w_a w_l ) a0).1, (cf_X2_shortestRow fu w_o w_f w_r w_b w_a w_l t_S t_O t_H s_n t_W s_k (cf_X3_firstState w_o w_f w_r w_b w_a w_l ) a0).2.1, (cf_X2_shortestRow fu w_o w_f w_r w_b w_a w_l t_S t_O t_H s_n t_W s_k (cf_X3_firstState w_o w_f w_r w_b w_a w_l ) a0).2.2.1, (cf_X2_shortestRow fu w_o w_f w_r w_b w_a w_l t_S t_O t_H s_n t_W s_k (cf_X3_firstState w_o w_f w_r w_b w_a w_l ) a0).2.2.2.1, (cf_X2_shortestRow fu w_o w_f w_r w_b w_a w_l t_S t_O t_H s_n t_W s_k (cf_X3_firstState w_o w_f w_r w_b w_a w_l ) a0).2.2.2.2.1, (cf_X2_shortestRow fu w_o w_f w_r w_b w_a w_l t_S t_O t_H s_n t_W s_k (cf_X3_firstState w_o w_f w_r w_b w_a w_l ) a0).2.2.2.2.2.1), rfl, hR.symm, show va_P (dC, dI) kcl (cl_W q5 q2 q1 q3 qs qo qh qw cyI cyJ w_o w_f w_r w_b w_a w_l ((cf_X2_shortestRow fu w_o w_f w_r w_b w_a w_l t_S t_O t_H s_n t_W s_k (cf_X3_firstState w_o w_f w_r w_b w_a w_l ) a0).1) ((cf_X2_shortestRow fu w_o w_f w_r w_b w_a w_l t_S t_O t_H s_n t_W s_k (cf_X3_firstState w_o w_f w_r w_b w_a w_l ) a0).2.1) ((cf_X2_shortestRow fu w_o w_f w_r w_b w_a w_l t_S t_O t_H s_n t_W s_k (cf_X3_firstState w_o w_f w_r w_b w_a w_l ) a0).2.2.1) ((cf_X2_shortestRow fu w_o w_f w_r w_b w_a w_l t_S t_O t_H s_n t_W s_k (cf_X3_firstState w_o w_f w_r w_b w_a w_l ) a0).2.2.2.1) ((cf_X2_shortestRow fu w_o w_f w_r w_b w_a w_l t_S t_O t_H s_n t_W s_k (cf_X3_firstState w_o w_f w_r w_b w_a w_l ) a0).2.2.2.2.1) ((cf_X2_shortestRow fu w_o w_f w_r w_b w_a w_l t_S t_O t_H s_n t_W s_k (cf_X3_firstState w_o w_f w_r w_b w_a w_l ) a0).2.2.2.2.2.1) v_s) t.heap by rw [ht]; exact hP⟩, hS.F ht⟩) hS.2.2 dX5_find_21
def cf_X5_act (t_W : Nat → Int32) (s_k : Int32) (a0 : Int32) : Except String ((Unit) × Int32) :=
  (if a0 < 0 then (Except.error ex_I) else (if a0 < s_k then (Except.ok ((), (t_W (a0).toNatClampNeg))) else (Except.error ex_I)))
def vc_X5_act (t_W : Nat → Int32) (s_k : Int32) (a0 : Int32) : Prop :=
  ((a0 < 0 → True) ∧ (¬ a0 < 0 → ((a0 < s_k → (vp_in a0 40 ∧ True)) ∧ (¬ a0 < s_k → True))))
set_option maxHeartbeats 4000000 in
set_option maxRecDepth 100000 in
theorem c_X5_act (l : Launch) (hl0 : l.stackTraces = false) (dC : Nat → ClassId) (dI : Nat → Nat → Nat) (q5 q2 q1 q3 qs qo qh qw : Nat) (cyI cyJ : ClassId) (w_o : Int32) (w_f : Int32) (w_r : Int32) (w_b : Int32) (w_a : Int32) (w_l : Int64) (t_S : Nat → Int64) (t_O : Nat → Int32) (t_H : Nat → Int32) (s_n : Int32) (t_W : Nat → Int32) (s_k : Int32) (v_s : Int64) (sz : Nat) (a0 : Int32)  (hV : vc_X5_act t_W s_k a0) (R : Except String ((Unit) × Int32)) (hR : (cf_X5_act t_W s_k a0) = R) : vx_Met l yX5_act wsX5_act ({ frames := 6, cells := 1, slots := 6, locals := 82 }) (xw_P [.ref q5, .int a0] sz (dC, dI) kcl (cl_W q5 q2 q1 q3 qs qo qh qw cyI cyJ w_o w_f w_r w_b w_a w_l t_S t_O t_H s_n t_W s_k v_s) [(cyI, .int), (cyJ, .long)]) (xr_i R (fun _ => (cl_W q5 q2 q1 q3 qs qo qh qw cyI cyJ w_o w_f w_r w_b w_a w_l t_S t_O t_H s_n t_W s_k v_s)) (dC, dI) kcl (va_A (cl_W q5 q2 q1 q3 qs qo qh qw cyI cyJ w_o w_f w_r w_b w_a w_l t_S t_O t_H s_n t_W s_k v_s) sz)) (xr_X R (cl_W q5 q2 q1 q3 qs qo qh qw cyI cyJ w_o w_f w_r w_b w_a w_l t_S t_O t_H s_n t_W s_k v_s) (dC, dI) kcl (va_A (cl_W q5 q2 q1 q3 qs qo qh qw cyI cyJ w_o w_f w_r w_b w_a w_l t_S t_O t_H s_n t_W s_k v_s) sz)) 1 6 (va_A (cl_W q5 q2 q1 q3 qs qo qh qw cyI cyJ w_o w_f w_r w_b w_a w_l t_S t_O t_H s_n t_W s_k v_s) sz) := by
  refine vx_ofW (cc := cX5_act) (maxL := 2) (ret := (some .int)) (by decide) rfl ?_
  intro p e s m args below meth c s₁ B hml hnt hv
  obtain ⟨rfl, hsz, hP, hK, hD0, hZ⟩ := hv
  have hx := B.exec
  have hb := B.bytes
  have hr := B.returns
  have hts := atoms_spec (ws := wsX5_act) B.pre
  have hown : s.vm.findClass RX5 = some m.cls := findClass_of_methodNamed B.named
  have hlocks := B.notSynchronized
  subst hsz
  have hD := hD0.self (sz := s.heap.size)
  generalize hAe : va_A (cl_W q5 q2 q1 q3 qs qo qh qw cyI cyJ w_o w_f w_r w_b w_a w_l t_S t_O t_H s_n t_W s_k v_s) s.heap.size = A at hD hZ ⊢
  have hA : ∀ q : Nat, s.heap.size ≤ q → A q := fun q h => by rw [← hAe]; exact Or.inr h
  have hP : va_P (dC, dI) kcl (cl_W q5 q2 q1 q3 qs qo qh qw cyI cyJ w_o w_f w_r w_b w_a w_l t_S t_O t_H s_n t_W s_k v_s) s.heap := hP
  have h0_ : (Cond.fieldLink RX5 30 "ColourTrier" "search" "LColourTrier$Search;").before _ s = true := hts _ (by decide +kernel)
  have h1_ : ∀ w ∈ u_ws RX5 TX5 4, w ∈ wsX5_act := fun w h => List.mem_cons_of_mem _ (List.mem_append_left _ (List.mem_append_left _ (List.mem_append_right _ h)))
  have h2_ : (Cond.fieldLink RX5 82 "ColourTrier$Search" "rowLength" "I").before _ s = true := hts _ (by decide +kernel)
  have h3_ : ∀ w ∈ u_ws RX2 TX2 7, w ∈ wsX5_act := fun w h => List.mem_cons_of_mem _ (List.mem_append_left _ (List.mem_append_right _ h))
  have h4_ : (Cond.fieldLink RX5 92 "ColourTrier$Search" "row" "[I").before _ s = true := hts _ (by decide +kernel)
  have hl := lv_entry ([.ref q5, .int a0]) (n := 2) (Nat.le_of_ble_eq_true rfl)
  rw [lg_entry_eq]
  generalize (lg_sl ([.ref q5, .int a0]) ++ List.replicate (2 - (lg_sl ([.ref q5, .int a0])).length) Slot.unset).toArray = ls at hl ⊢
  have hl : lv_has ls 2 [(0, .ref q5), (1, .int a0)] := hl
  unfold cf_X5_act at hR
  unfold vc_X5_act at hV
  refine mu_start (A := A) (fun H locs hP hS => ?_) hP
  refine lv_iload_n hx hb dX5_act_0 rfl (lv_at hl 1 rfl) ?_
  refine lv_if_lt (tgt := 15) hx hb dX5_act_1 (by decide) (fun c_1 => ?_) (fun c_1 => ?_)
  · rw [if_pos c_1] at hR
    obtain ⟨h1, h2, h3, ⟨sa4, h4⟩, ⟨sa5, h5⟩, h6, h7, h8, h9⟩ := hZ
    refine vx_throwS (A := A) (sa := sa4) (names := ex_N) (cls := ex_I) (own := RX5) (ik := 85) (is := 87) (ic := 89) (text := "the row has no such act") hx hb hl0 hown (by decide +kernel) (fun n hn => List.all_eq_true.mp (show ex_N.all Bundle.fit = true by decide +kernel) n hn) (hts _ (by decide +kernel)) (hts _ (by decide +kernel)) h4 (vx_hat (B := ex_L 89 ex_I) (fun w hw => hts w (List.mem_cons_of_mem _ (List.mem_append_right _ hw))) (fun w hw => hw) (fun w hw => va_tabs (by have := List.all_eq_true.mp ex_fI w hw; rw [Bool.and_eq_true] at this; exact this.2) rfl (h7 w hw))) (ex_g (by decide +kernel)) h1 h2 hS (hl.1.trans hml.symm) dX5_act_15 dX5_act_18 dX5_act_19 dX5_act_21 dX5_act_24 (fun x hx => absurd (hnt x hx) id) (by decide) (by decide) (Nat.le_of_ble_eq_true rfl) (Nat.le_of_ble_eq_true rfl) hlocks (fun t _ hs9 hq9 => ⟨(), trivial, ⟨hR.symm, hP.kept (fun k q hq => hq9 q.1 (vx_lt hP hq))⟩, Nat.le_trans hS.1 hs9, fun q h9 h8 => (hq9 q (Nat.lt_of_lt_of_le h9 hS.1)).trans (hS.2.1 q h9 h8)⟩) hS.2.2 (Nat.le_of_ble_eq_true rfl) (Nat.le_of_ble_eq_true rfl)
  · rw [if_neg c_1] at hR
    have hV := hV.2 c_1
    refine lv_iload_n hx hb dX5_act_4 rfl (lv_at hl 1 rfl) ?_
    refine lv_aload_n hx hb dX5_act_5 rfl (lv_at hl 0 rfl) ?_
    refine va_get (D := (dC, dI)) (ci := 3) (v := .ref q2) (C := RX5) (T := TX5) (N := 4) hx hb hts h1_ hown hK hP 0 rfl rfl 2 (by decide) h0_ (fun _ h9 => h9) rfl dX5_act_6 ?_
    refine va_get (D := (dC, dI)) (ci := 1) (v := .int s_k) (C := RX2) (T := TX2) (N := 7) hx hb hts h3_ hown hK hP 1 rfl rfl 6 (by decide) h2_ (fun _ h9 => h9) rfl dX5_act_9 ?_
    refine lv_icmp_lt (tgt := 25) hx hb dX5_act_12 (by decide) (fun c_2 => ?_) (fun c_2 => ?_)
    · rw [if_pos c_2] at hR
      have hV := hV.1 c_2
      refine lv_aload_n hx hb dX5_act_25 rfl (lv_at hl 0 rfl) ?_
      refine va_get (D := (dC, dI)) (ci := 3) (v := .ref q2) (C := RX5) (T := TX5) (N := 4) hx hb hts h1_ hown hK hP 0 rfl rfl 2 (by decide) h0_ (fun _ h9 => h9) rfl dX5_act_26 ?_
      refine va_get (D := (dC, dI)) (ci := 1) (v := .ref qw) (C := RX2) (T := TX2) (N := 7) hx hb hts h3_ hown hK hP 1 rfl rfl 5 (by decide) h4_ (fun _ h9 => h9) rfl dX5_act_29 ?_
      refine lv_iload_n hx hb dX5_act_32 rfl (lv_at hl 1 rfl) ?_
      obtain ⟨hi3, hV⟩ := hV
      refine va_iald hx hb hK hP 7 0 rfl rfl hi3 dX5_act_33 ?_
      refine W.widen (k := 1) (n := 6) (by decide) (by decide) (vx_ret ?_)
      exact W.iret (v := (t_W (a0).toNatClampNeg)) hx hb hr (fun t ht _ => ⟨⟨(t_W (a0).toNatClampNeg), (), rfl, hR.symm, show va_P (dC, dI) kcl (cl_W q5 q2 q1 q3 qs qo qh qw cyI cyJ w_o w_f w_r w_b w_a w_l t_S t_O t_H s_n t_W s_k v_s) t.heap by rw [ht]; exact hP⟩, hS.F ht⟩) hS.2.2 dX5_act_34
    · rw [if_neg c_2] at hR
      obtain ⟨h1, h2, h3, ⟨sa4, h4⟩, ⟨sa5, h5⟩, h6, h7, h8, h9⟩ := hZ
      refine vx_throwS (A := A) (sa := sa4) (names := ex_N) (cls := ex_I) (own := RX5) (ik := 85) (is := 87) (ic := 89) (text := "the row has no such act") hx hb hl0 hown (by decide +kernel) (fun n hn => List.all_eq_true.mp (show ex_N.all Bundle.fit = true by decide +kernel) n hn) (hts _ (by decide +kernel)) (hts _ (by decide +kernel)) h4 (vx_hat (B := ex_L 89 ex_I) (fun w hw => hts w (List.mem_cons_of_mem _ (List.mem_append_right _ hw))) (fun w hw => hw) (fun w hw => va_tabs (by have := List.all_eq_true.mp ex_fI w hw; rw [Bool.and_eq_true] at this; exact this.2) rfl (h7 w hw))) (ex_g (by decide +kernel)) h1 h2 hS (hl.1.trans hml.symm) dX5_act_15 dX5_act_18 dX5_act_19 dX5_act_21 dX5_act_24 (fun x hx => absurd (hnt x hx) id) (by decide) (by decide) (Nat.le_of_ble_eq_true rfl) (Nat.le_of_ble_eq_true rfl) hlocks (fun t _ hs9 hq9 => ⟨(), trivial, ⟨hR.symm, hP.kept (fun k q hq => hq9 q.1 (vx_lt hP hq))⟩, Nat.le_trans hS.1 hs9, fun q h9 h8 => (hq9 q (Nat.lt_of_lt_of_le h9 hS.1)).trans (hS.2.1 q h9 h8)⟩) hS.2.2 (Nat.le_of_ble_eq_true rfl) (Nat.le_of_ble_eq_true rfl)

def cf_X0_closure_s6_4  (x0 : Int64) (x3 : Int32) (x4 : Int32) : Int32 :=
  x4
def cf_X0_closure_s6_3  (x0 : Int64) (x3 : Int32) (x4 : Int32) : Int32 :=
  cf_X0_closure_s6_4  x0 x3 (x4 ||| ((cf_X4_setInFields x0 x4) &&& x3))
def cf_X0_closure_s6_2  (x0 : Int64) (x3 : Int32) (x4 : Int32) : Int32 :=
  cf_X0_closure_s6_3  x0 x3 (x4 ||| ((cf_X4_setInFields x0 x4) &&& x3))
def cf_X0_closure_s6_1  (x0 : Int64) (x3 : Int32) (x4 : Int32) : Int32 :=
  cf_X0_closure_s6_2  x0 x3 (x4 ||| ((cf_X4_setInFields x0 x4) &&& x3))
def cf_X0_closure  (a0 : Int64) (a1 : Int32) (a2 : Int32) : Int32 :=
  cf_X0_closure_s6_1  a0 a2 a1
set_option maxHeartbeats 4000000 in
set_option maxRecDepth 100000 in
theorem c_X0_closure (l : Launch)  (a0 : Int64) (a1 : Int32) (a2 : Int32)  : Met l yX0_closure wsX0_closure ({ frames := 1, cells := 0, slots := 0, locals := 25 }) (pu_P [.long a0, .int a1, .int a2]) (rd_Q (some (.int (cf_X0_closure  a0 a1 a2)))) 0 0 (fun _ => False) := by
  refine Met.ofW (cc := cX0_closure) (maxL := 6) (ret := (some .int)) (by decide) rfl ?_
  intro p e s m args below meth c s₁ B hml hv
  obtain rfl := hv
  have hx := B.exec
  have hb := B.bytes
  have hr := B.returns
  have hts := atoms_spec (ws := wsX0_closure) B.pre
  have hown : s.vm.findClass RX0 = some m.cls := findClass_of_methodNamed B.named
  have hlocks := B.notSynchronized
  generalize hR : cf_X0_closure  a0 a1 a2 = R
  have K6_4 : ∀ (x0 : Int64) (x3 : Int32) (x4 : Int32) (ls : Array Slot), lv_has ls 6 [(0, .long x0), (3, .int x3), (4, .int x4), (5, .int (4 : Int32))] → cf_X0_closure_s6_4  x0 x3 x4 = R → W p l e (headSpec wsX0_closure ({ frames := 1, cells := 0, slots := 0, locals := 25 })).room s m ([.long a0, .int a1, .int a2] : List Value).toArray below meth c s.heap [] 0 0 (MQ below (rd_Q (some (.int R))) ([.long a0, .int a1, .int a2] : List Value).toArray s 0 0 (fun _ => False)) (F0 m 6 ls []) := by
    intro x0 x3 x4 ls hl hR
    unfold cf_X0_closure_s6_4 at hR
    refine lv_iload hx hb dX0_closure_6 (lv_at hl 3 rfl) ?_
    refine lv_iconst (v := (4 : Int32)) hx hb dX0_closure_8 (by decide +kernel) ?_
    refine lv_icmp_ge (tgt := 31) hx hb dX0_closure_9 (by decide) (fun _ => ?_) (fun c_0 => absurd c_0 (by decide +kernel))
    refine lv_iload hx hb dX0_closure_31 (lv_at hl 2 rfl) ?_
    exact W.iret (v := x4) hx hb hr (fun t ht _ => ⟨congrArg (fun z => Outcome.returned (some (Value.int z))) hR, ht⟩) t_nil dX0_closure_33
  have K6_3 : ∀ (x0 : Int64) (x3 : Int32) (x4 : Int32) (ls : Array Slot), lv_has ls 6 [(0, .long x0), (3, .int x3), (4, .int x4), (5, .int (3 : Int32))] → cf_X0_closure_s6_3  x0 x3 x4 = R → W p l e (headSpec wsX0_closure ({ frames := 1, cells := 0, slots := 0, locals := 25 })).room s m ([.long a0, .int a1, .int a2] : List Value).toArray below meth c s.heap [] 0 0 (MQ below (rd_Q (some (.int R))) ([.long a0, .int a1, .int a2] : List Value).toArray s 0 0 (fun _ => False)) (F0 m 6 ls []) := by
    intro x0 x3 x4 ls hl hR
    unfold cf_X0_closure_s6_3 at hR
    refine lv_iload hx hb dX0_closure_6 (lv_at hl 3 rfl) ?_
    refine lv_iconst (v := (4 : Int32)) hx hb dX0_closure_8 (by decide +kernel) ?_
    refine lv_icmp_ge (tgt := 31) hx hb dX0_closure_9 (by decide) (fun c_0 => absurd c_0 (by decide +kernel)) (fun _ => ?_)
    refine lv_iload hx hb dX0_closure_12 (lv_at hl 2 rfl) ?_
    refine lv_lload_n hx hb dX0_closure_14 rfl (lv_at hl 0 rfl) ?_
    refine lv_iload hx hb dX0_closure_15 (lv_at hl 2 rfl) ?_
    refine rd_calli (va_runS (As := [.long x0, .int x4]) (rest := [.int x4]) ⟨hx, hb, hml, hown, hts⟩ (c_X4_setInFields l x0 x4) (va_cwS 2 hts gX0_closure_X4_setInFields rfl rfl rfl (by decide +kernel) ⟨Nat.le_of_ble_eq_true rfl, Nat.le_of_ble_eq_true rfl⟩) ⟨pu_blind, fun U hU hW => rfl⟩ rfl rfl hl.1 rfl (lv_room (Nat.le_of_ble_eq_true rfl)) dX0_closure_17 ⟨Nat.le_refl _, Nat.le_refl _⟩) ?_
    refine lv_iload_n hx hb dX0_closure_20 rfl (lv_at hl 1 rfl) ?_
    refine lv_iand hx hb dX0_closure_21 ?_
    refine lv_ior hx hb dX0_closure_22 ?_
    refine lv_istore (lv' := [(4, .int (x4 ||| ((cf_X4_setInFields x0 x4) &&& x3))), (0, .long x0), (3, .int x3), (5, .int (3 : Int32))]) hx hb dX0_closure_23 hl (by decide) rfl (fun ls hl => ?_)
    refine lv_iinc (v := (4 : Int32)) (lv' := [(5, .int (4 : Int32)), (4, .int (x4 ||| ((cf_X4_setInFields x0 x4) &&& x3))), (0, .long x0), (3, .int x3)]) hx hb dX0_closure_25 hl (k := 3) rfl (by decide +kernel) (by decide) rfl (fun ls hl => ?_)
    refine lv_goto (tgt := 6) hx hb dX0_closure_28 (by decide) ?_
    exact K6_4 x0 x3 (x4 ||| ((cf_X4_setInFields x0 x4) &&& x3)) ls (lv_sub hl [2, 3, 1, 0] rfl) hR
  have K6_2 : ∀ (x0 : Int64) (x3 : Int32) (x4 : Int32) (ls : Array Slot), lv_has ls 6 [(0, .long x0), (3, .int x3), (4, .int x4), (5, .int (2 : Int32))] → cf_X0_closure_s6_2  x0 x3 x4 = R → W p l e (headSpec wsX0_closure ({ frames := 1, cells := 0, slots := 0, locals := 25 })).room s m ([.long a0, .int a1, .int a2] : List Value).toArray below meth c s.heap [] 0 0 (MQ below (rd_Q (some (.int R))) ([.long a0, .int a1, .int a2] : List Value).toArray s 0 0 (fun _ => False)) (F0 m 6 ls []) := by
    intro x0 x3 x4 ls hl hR
    unfold cf_X0_closure_s6_2 at hR
    refine lv_iload hx hb dX0_closure_6 (lv_at hl 3 rfl) ?_
    refine lv_iconst (v := (4 : Int32)) hx hb dX0_closure_8 (by decide +kernel) ?_
    refine lv_icmp_ge (tgt := 31) hx hb dX0_closure_9 (by decide) (fun c_0 => absurd c_0 (by decide +kernel)) (fun _ => ?_)
    refine lv_iload hx hb dX0_closure_12 (lv_at hl 2 rfl) ?_
    refine lv_lload_n hx hb dX0_closure_14 rfl (lv_at hl 0 rfl) ?_
    refine lv_iload hx hb dX0_closure_15 (lv_at hl 2 rfl) ?_
    refine rd_calli (va_runS (As := [.long x0, .int x4]) (rest := [.int x4]) ⟨hx, hb, hml, hown, hts⟩ (c_X4_setInFields l x0 x4) (va_cwS 2 hts gX0_closure_X4_setInFields rfl rfl rfl (by decide +kernel) ⟨Nat.le_of_ble_eq_true rfl, Nat.le_of_ble_eq_true rfl⟩) ⟨pu_blind, fun U hU hW => rfl⟩ rfl rfl hl.1 rfl (lv_room (Nat.le_of_ble_eq_true rfl)) dX0_closure_17 ⟨Nat.le_refl _, Nat.le_refl _⟩) ?_
    refine lv_iload_n hx hb dX0_closure_20 rfl (lv_at hl 1 rfl) ?_
    refine lv_iand hx hb dX0_closure_21 ?_
    refine lv_ior hx hb dX0_closure_22 ?_
    refine lv_istore (lv' := [(4, .int (x4 ||| ((cf_X4_setInFields x0 x4) &&& x3))), (0, .long x0), (3, .int x3), (5, .int (2 : Int32))]) hx hb dX0_closure_23 hl (by decide) rfl (fun ls hl => ?_)
    refine lv_iinc (v := (3 : Int32)) (lv' := [(5, .int (3 : Int32)), (4, .int (x4 ||| ((cf_X4_setInFields x0 x4) &&& x3))), (0, .long x0), (3, .int x3)]) hx hb dX0_closure_25 hl (k := 3) rfl (by decide +kernel) (by decide) rfl (fun ls hl => ?_)
    refine lv_goto (tgt := 6) hx hb dX0_closure_28 (by decide) ?_
    exact K6_3 x0 x3 (x4 ||| ((cf_X4_setInFields x0 x4) &&& x3)) ls (lv_sub hl [2, 3, 1, 0] rfl) hR
  have K6_1 : ∀ (x0 : Int64) (x3 : Int32) (x4 : Int32) (ls : Array Slot), lv_has ls 6 [(0, .long x0), (3, .int x3), (4, .int x4), (5, .int (1 : Int32))] → cf_X0_closure_s6_1  x0 x3 x4 = R → W p l e (headSpec wsX0_closure ({ frames := 1, cells := 0, slots := 0, locals := 25 })).room s m ([.long a0, .int a1, .int a2] : List Value).toArray below meth c s.heap [] 0 0 (MQ below (rd_Q (some (.int R))) ([.long a0, .int a1, .int a2] : List Value).toArray s 0 0 (fun _ => False)) (F0 m 6 ls []) := by
    intro x0 x3 x4 ls hl hR
    unfold cf_X0_closure_s6_1 at hR
    refine lv_iload hx hb dX0_closure_6 (lv_at hl 3 rfl) ?_
    refine lv_iconst (v := (4 : Int32)) hx hb dX0_closure_8 (by decide +kernel) ?_
    refine lv_icmp_ge (tgt := 31) hx hb dX0_closure_9 (by decide) (fun c_0 => absurd c_0 (by decide +kernel)) (fun _ => ?_)
    refine lv_iload hx hb dX0_closure_12 (lv_at hl 2 rfl) ?_
    refine lv_lload_n hx hb dX0_closure_14 rfl (lv_at hl 0 rfl) ?_
    refine lv_iload hx hb dX0_closure_15 (lv_at hl 2 rfl) ?_
    refine rd_calli (va_runS (As := [.long x0, .int x4]) (rest := [.int x4]) ⟨hx, hb, hml, hown, hts⟩ (c_X4_setInFields l x0 x4) (va_cwS 2 hts gX0_closure_X4_setInFields rfl rfl rfl (by decide +kernel) ⟨Nat.le_of_ble_eq_true rfl, Nat.le_of_ble_eq_true rfl⟩) ⟨pu_blind, fun U hU hW => rfl⟩ rfl rfl hl.1 rfl (lv_room (Nat.le_of_ble_eq_true rfl)) dX0_closure_17 ⟨Nat.le_refl _, Nat.le_refl _⟩) ?_
    refine lv_iload_n hx hb dX0_closure_20 rfl (lv_at hl 1 rfl) ?_
    refine lv_iand hx hb dX0_closure_21 ?_
    refine lv_ior hx hb dX0_closure_22 ?_
    refine lv_istore (lv' := [(4, .int (x4 ||| ((cf_X4_setInFields x0 x4) &&& x3))), (0, .long x0), (3, .int x3), (5, .int (1 : Int32))]) hx hb dX0_closure_23 hl (by decide) rfl (fun ls hl => ?_)
    refine lv_iinc (v := (2 : Int32)) (lv' := [(5, .int (2 : Int32)), (4, .int (x4 ||| ((cf_X4_setInFields x0 x4) &&& x3))), (0, .long x0), (3, .int x3)]) hx hb dX0_closure_25 hl (k := 3) rfl (by decide +kernel) (by decide) rfl (fun ls hl => ?_)
    refine lv_goto (tgt := 6) hx hb dX0_closure_28 (by decide) ?_
    exact K6_2 x0 x3 (x4 ||| ((cf_X4_setInFields x0 x4) &&& x3)) ls (lv_sub hl [2, 3, 1, 0] rfl) hR
  have hl := lv_entry ([.long a0, .int a1, .int a2]) (n := 6) (Nat.le_of_ble_eq_true rfl)
  rw [lg_entry_eq]
  generalize (lg_sl ([.long a0, .int a1, .int a2]) ++ List.replicate (6 - (lg_sl ([.long a0, .int a1, .int a2])).length) Slot.unset).toArray = ls at hl ⊢
  have hl : lv_has ls 6 [(0, .long a0), (2, .int a1), (3, .int a2)] := hl
  unfold cf_X0_closure at hR
  refine lv_iload_n hx hb dX0_closure_0 rfl (lv_at hl 1 rfl) ?_
  refine lv_istore (lv' := [(4, .int a1), (0, .long a0), (2, .int a1), (3, .int a2)]) hx hb dX0_closure_1 hl (by decide) rfl (fun ls hl => ?_)
  refine lv_iconst (v := (1 : Int32)) hx hb dX0_closure_3 (by decide +kernel) ?_
  refine lv_istore (lv' := [(5, .int (1 : Int32)), (4, .int a1), (0, .long a0), (2, .int a1), (3, .int a2)]) hx hb dX0_closure_4 hl (by decide) rfl (fun ls hl => ?_)
  exact K6_1 a0 a2 a1 ls (lv_sub hl [2, 4, 1, 0] rfl) hR
def cf_X0_needed  (a0 : Int64) : Int32 :=
  (cf_X0_closure a0 (cf_X4_setInRoots a0) (15 : Int32))
set_option maxHeartbeats 4000000 in
set_option maxRecDepth 100000 in
theorem c_X0_needed (l : Launch)  (a0 : Int64)  : Met l yX0_needed wsX0_needed ({ frames := 2, cells := 0, slots := 0, locals := 50 }) (pu_P [.long a0]) (rd_Q (some (.int (cf_X0_needed  a0)))) 0 0 (fun _ => False) := by
  refine Met.ofW (cc := cX0_needed) (maxL := 2) (ret := (some .int)) (by decide) rfl ?_
  intro p e s m args below meth c s₁ B hml hv
  obtain rfl := hv
  have hx := B.exec
  have hb := B.bytes
  have hr := B.returns
  have hts := atoms_spec (ws := wsX0_needed) B.pre
  have hown : s.vm.findClass RX0 = some m.cls := findClass_of_methodNamed B.named
  have hlocks := B.notSynchronized
  generalize hR : cf_X0_needed  a0 = R
  have hl := lv_entry ([.long a0]) (n := 2) (Nat.le_of_ble_eq_true rfl)
  rw [lg_entry_eq]
  generalize (lg_sl ([.long a0]) ++ List.replicate (2 - (lg_sl ([.long a0])).length) Slot.unset).toArray = ls at hl ⊢
  have hl : lv_has ls 2 [(0, .long a0)] := hl
  unfold cf_X0_needed at hR
  refine lv_lload_n hx hb dX0_needed_0 rfl (lv_at hl 0 rfl) ?_
  refine lv_lload_n hx hb dX0_needed_1 rfl (lv_at hl 0 rfl) ?_
  refine rd_calli (va_runS (As := [.long a0]) (rest := [.long a0]) ⟨hx, hb, hml, hown, hts⟩ (c_X4_setInRoots l a0) (va_cwS 1 hts gX0_needed_X4_setInRoots rfl rfl rfl (by decide +kernel) ⟨Nat.le_of_ble_eq_true rfl, Nat.le_of_ble_eq_true rfl⟩) ⟨pu_blind, fun U hU hW => rfl⟩ rfl rfl hl.1 rfl (lv_room (Nat.le_of_ble_eq_true rfl)) dX0_needed_2 ⟨Nat.le_refl _, Nat.le_refl _⟩) ?_
  refine lv_bipush (v := (15 : Int32)) hx hb dX0_needed_5 (by decide +kernel) ?_
  refine rd_calli (va_runS (As := [.long a0, .int (cf_X4_setInRoots a0), .int (15 : Int32)]) (rest := []) ⟨hx, hb, hml, hown, hts⟩ (c_X0_closure l a0 (cf_X4_setInRoots a0) (15 : Int32)) (va_cwS 3 hts gX0_needed_X0_closure rfl rfl rfl (by decide +kernel) ⟨Nat.le_of_ble_eq_true rfl, Nat.le_of_ble_eq_true rfl⟩) ⟨pu_blind, fun U hU hW => rfl⟩ rfl rfl hl.1 rfl (lv_room (Nat.le_of_ble_eq_true rfl)) dX0_needed_7 ⟨Nat.le_refl _, Nat.le_refl _⟩) ?_
  exact W.iret (v := (cf_X0_closure a0 (cf_X4_setInRoots a0) (15 : Int32))) hx hb hr (fun t ht _ => ⟨congrArg (fun z => Outcome.returned (some (Value.int z))) hR, ht⟩) t_nil dX0_needed_10
def cf_X0_whitesIn  (a0 : Int64) (a1 : Int32) : Int32 :=
  ((cf_X4_setInFields a0 a1) &&& (cf_X4_whites a0))
set_option maxHeartbeats 4000000 in
set_option maxRecDepth 100000 in
theorem c_X0_whitesIn (l : Launch)  (a0 : Int64) (a1 : Int32)  : Met l yX0_whitesIn wsX0_whitesIn ({ frames := 2, cells := 0, slots := 0, locals := 42 }) (pu_P [.long a0, .int a1]) (rd_Q (some (.int (cf_X0_whitesIn  a0 a1)))) 0 0 (fun _ => False) := by
  refine Met.ofW (cc := cX0_whitesIn) (maxL := 3) (ret := (some .int)) (by decide) rfl ?_
  intro p e s m args below meth c s₁ B hml hv
  obtain rfl := hv
  have hx := B.exec
  have hb := B.bytes
  have hr := B.returns
  have hts := atoms_spec (ws := wsX0_whitesIn) B.pre
  have hown : s.vm.findClass RX0 = some m.cls := findClass_of_methodNamed B.named
  have hlocks := B.notSynchronized
  generalize hR : cf_X0_whitesIn  a0 a1 = R
  have hl := lv_entry ([.long a0, .int a1]) (n := 3) (Nat.le_of_ble_eq_true rfl)
  rw [lg_entry_eq]
  generalize (lg_sl ([.long a0, .int a1]) ++ List.replicate (3 - (lg_sl ([.long a0, .int a1])).length) Slot.unset).toArray = ls at hl ⊢
  have hl : lv_has ls 3 [(0, .long a0), (2, .int a1)] := hl
  unfold cf_X0_whitesIn at hR
  refine lv_lload_n hx hb dX0_whitesIn_0 rfl (lv_at hl 0 rfl) ?_
  refine lv_iload_n hx hb dX0_whitesIn_1 rfl (lv_at hl 1 rfl) ?_
  refine rd_calli (va_runS (As := [.long a0, .int a1]) (rest := []) ⟨hx, hb, hml, hown, hts⟩ (c_X4_setInFields l a0 a1) (va_cwS 2 hts gX0_whitesIn_X4_setInFields rfl rfl rfl (by decide +kernel) ⟨Nat.le_of_ble_eq_true rfl, Nat.le_of_ble_eq_true rfl⟩) ⟨pu_blind, fun U hU hW => rfl⟩ rfl rfl hl.1 rfl (lv_room (Nat.le_of_ble_eq_true rfl)) dX0_whitesIn_2 ⟨Nat.le_refl _, Nat.le_refl _⟩) ?_
  refine lv_lload_n hx hb dX0_whitesIn_5 rfl (lv_at hl 0 rfl) ?_
  refine rd_calli (va_runS (As := [.long a0]) (rest := [.int (cf_X4_setInFields a0 a1)]) ⟨hx, hb, hml, hown, hts⟩ (c_X4_whites l a0) (va_cwS 1 hts gX0_whitesIn_X4_whites rfl rfl rfl (by decide +kernel) ⟨Nat.le_of_ble_eq_true rfl, Nat.le_of_ble_eq_true rfl⟩) ⟨pu_blind, fun U hU hW => rfl⟩ rfl rfl hl.1 rfl (lv_room (Nat.le_of_ble_eq_true rfl)) dX0_whitesIn_6 ⟨Nat.le_refl _, Nat.le_refl _⟩) ?_
  refine lv_iand hx hb dX0_whitesIn_9 ?_
  exact W.iret (v := ((cf_X4_setInFields a0 a1) &&& (cf_X4_whites a0))) hx hb hr (fun t ht _ => ⟨congrArg (fun z => Outcome.returned (some (Value.int z))) hR, ht⟩) t_nil dX0_whitesIn_10
def cf_X0_whitesBehindGreys  (a0 : Int64) : Int32 :=
  (cf_X0_closure a0 (cf_X0_whitesIn a0 (cf_X4_greys a0)) (cf_X4_whites a0))
set_option maxHeartbeats 4000000 in
set_option maxRecDepth 100000 in
theorem c_X0_whitesBehindGreys (l : Launch)  (a0 : Int64)  : Met l yX0_whitesBehindGreys wsX0_whitesBehindGreys ({ frames := 3, cells := 0, slots := 0, locals := 64 }) (pu_P [.long a0]) (rd_Q (some (.int (cf_X0_whitesBehindGreys  a0)))) 0 0 (fun _ => False) := by
  refine Met.ofW (cc := cX0_whitesBehindGreys) (maxL := 2) (ret := (some .int)) (by decide) rfl ?_
  intro p e s m args below meth c s₁ B hml hv
  obtain rfl := hv
  have hx := B.exec
  have hb := B.bytes
  have hr := B.returns
  have hts := atoms_spec (ws := wsX0_whitesBehindGreys) B.pre
  have hown : s.vm.findClass RX0 = some m.cls := findClass_of_methodNamed B.named
  have hlocks := B.notSynchronized
  generalize hR : cf_X0_whitesBehindGreys  a0 = R
  have hl := lv_entry ([.long a0]) (n := 2) (Nat.le_of_ble_eq_true rfl)
  rw [lg_entry_eq]
  generalize (lg_sl ([.long a0]) ++ List.replicate (2 - (lg_sl ([.long a0])).length) Slot.unset).toArray = ls at hl ⊢
  have hl : lv_has ls 2 [(0, .long a0)] := hl
  unfold cf_X0_whitesBehindGreys at hR
  refine lv_lload_n hx hb dX0_whitesBehindGreys_0 rfl (lv_at hl 0 rfl) ?_
  refine lv_lload_n hx hb dX0_whitesBehindGreys_1 rfl (lv_at hl 0 rfl) ?_
  refine lv_lload_n hx hb dX0_whitesBehindGreys_2 rfl (lv_at hl 0 rfl) ?_
  refine rd_calli (va_runS (As := [.long a0]) (rest := [.long a0, .long a0]) ⟨hx, hb, hml, hown, hts⟩ (c_X4_greys l a0) (va_cwS 1 hts gX0_whitesBehindGreys_X4_greys rfl rfl rfl (by decide +kernel) ⟨Nat.le_of_ble_eq_true rfl, Nat.le_of_ble_eq_true rfl⟩) ⟨pu_blind, fun U hU hW => rfl⟩ rfl rfl hl.1 rfl (lv_room (Nat.le_of_ble_eq_true rfl)) dX0_whitesBehindGreys_3 ⟨Nat.le_refl _, Nat.le_refl _⟩) ?_
  refine rd_calli (va_runS (As := [.long a0, .int (cf_X4_greys a0)]) (rest := [.long a0]) ⟨hx, hb, hml, hown, hts⟩ (c_X0_whitesIn l a0 (cf_X4_greys a0)) (va_cwS 2 hts gX0_whitesBehindGreys_X0_whitesIn rfl rfl rfl (by decide +kernel) ⟨Nat.le_of_ble_eq_true rfl, Nat.le_of_ble_eq_true rfl⟩) ⟨pu_blind, fun U hU hW => rfl⟩ rfl rfl hl.1 rfl (lv_room (Nat.le_of_ble_eq_true rfl)) dX0_whitesBehindGreys_6 ⟨Nat.le_refl _, Nat.le_refl _⟩) ?_
  refine lv_lload_n hx hb dX0_whitesBehindGreys_9 rfl (lv_at hl 0 rfl) ?_
  refine rd_calli (va_runS (As := [.long a0]) (rest := [.int (cf_X0_whitesIn a0 (cf_X4_greys a0)), .long a0]) ⟨hx, hb, hml, hown, hts⟩ (c_X4_whites l a0) (va_cwS 1 hts gX0_whitesBehindGreys_X4_whites rfl rfl rfl (by decide +kernel) ⟨Nat.le_of_ble_eq_true rfl, Nat.le_of_ble_eq_true rfl⟩) ⟨pu_blind, fun U hU hW => rfl⟩ rfl rfl hl.1 rfl (lv_room (Nat.le_of_ble_eq_true rfl)) dX0_whitesBehindGreys_10 ⟨Nat.le_refl _, Nat.le_refl _⟩) ?_
  refine rd_calli (va_runS (As := [.long a0, .int (cf_X0_whitesIn a0 (cf_X4_greys a0)), .int (cf_X4_whites a0)]) (rest := []) ⟨hx, hb, hml, hown, hts⟩ (c_X0_closure l a0 (cf_X0_whitesIn a0 (cf_X4_greys a0)) (cf_X4_whites a0)) (va_cwS 3 hts gX0_whitesBehindGreys_X0_closure rfl rfl rfl (by decide +kernel) ⟨Nat.le_of_ble_eq_true rfl, Nat.le_of_ble_eq_true rfl⟩) ⟨pu_blind, fun U hU hW => rfl⟩ rfl rfl hl.1 rfl (lv_room (Nat.le_of_ble_eq_true rfl)) dX0_whitesBehindGreys_13 ⟨Nat.le_refl _, Nat.le_refl _⟩) ?_
  exact W.iret (v := (cf_X0_closure a0 (cf_X0_whitesIn a0 (cf_X4_greys a0)) (cf_X4_whites a0))) hx hb hr (fun t ht _ => ⟨congrArg (fun z => Outcome.returned (some (Value.int z))) hR, ht⟩) t_nil dX0_whitesBehindGreys_16
def cf_X0_isBroken_s51   : Int32 :=
  (0 : Int32)
def cf_X0_isBroken_s119   : Int32 :=
  (0 : Int32)
def cf_X0_isBroken  (a0 : Int64) (a1 : Int32) : Int32 :=
  (if a1 = 0 then (if (cf_X4_isOver a0) = 0 then cf_X0_isBroken_s51   else (if ((cf_X0_needed a0) &&& (cf_X4_whites a0)) = 0 then cf_X0_isBroken_s51   else (1 : Int32))) else (if a1 = 1 then (if (cf_X0_whitesIn a0 (cf_X4_blacks a0)) = 0 then (0 : Int32) else (1 : Int32)) else (if a1 = 2 then (if ((cf_X0_whitesIn a0 (cf_X4_blacks a0)) &&& ((cf_X0_whitesBehindGreys a0) ^^^ (-1 : Int32))) = 0 then (0 : Int32) else (1 : Int32)) else (if (cf_X4_isOver a0) = 0 then cf_X0_isBroken_s119   else (if ((cf_X4_blacks a0) &&& ((cf_X0_needed a0) ^^^ (-1 : Int32))) = 0 then cf_X0_isBroken_s119   else (1 : Int32))))))
set_option maxHeartbeats 4000000 in
set_option maxRecDepth 100000 in
theorem c_X0_isBroken (l : Launch)  (a0 : Int64) (a1 : Int32)  : Met l yX0_isBroken wsX0_isBroken ({ frames := 4, cells := 0, slots := 0, locals := 85 }) (pu_P [.long a0, .int a1]) (rd_Q (some (.int (cf_X0_isBroken  a0 a1)))) 0 0 (fun _ => False) := by
  refine Met.ofW (cc := cX0_isBroken) (maxL := 3) (ret := (some .boolean)) (by decide) rfl ?_
  intro p e s m args below meth c s₁ B hml hv
  obtain rfl := hv
  have hx := B.exec
  have hb := B.bytes
  have hr := B.returns
  have hts := atoms_spec (ws := wsX0_isBroken) B.pre
  have hown : s.vm.findClass RX0 = some m.cls := findClass_of_methodNamed B.named
  have hlocks := B.notSynchronized
  generalize hR : cf_X0_isBroken  a0 a1 = R
  have K51 : ∀  (ls : Array Slot), lv_has ls 3 [] → cf_X0_isBroken_s51   = R → W p l e (headSpec wsX0_isBroken ({ frames := 4, cells := 0, slots := 0, locals := 85 })).room s m ([.long a0, .int a1] : List Value).toArray below meth c s.heap [] 0 0 (MQ below (rd_Q (some (.int R))) ([.long a0, .int a1] : List Value).toArray s 0 0 (fun _ => False)) (F0 m 51 ls []) := by
    intro  ls hl hR
    unfold cf_X0_isBroken_s51 at hR
    refine lv_iconst (v := (0 : Int32)) hx hb dX0_isBroken_51 (by decide +kernel) ?_
    exact W.zret (ty := .boolean) (v := (0 : Int32)) hx hb hr (by decide +kernel) (fun t ht _ => ⟨congrArg (fun z => Outcome.returned (some (Value.int z))) hR, ht⟩) t_nil dX0_isBroken_52
  have K119 : ∀  (ls : Array Slot), lv_has ls 3 [] → cf_X0_isBroken_s119   = R → W p l e (headSpec wsX0_isBroken ({ frames := 4, cells := 0, slots := 0, locals := 85 })).room s m ([.long a0, .int a1] : List Value).toArray below meth c s.heap [] 0 0 (MQ below (rd_Q (some (.int R))) ([.long a0, .int a1] : List Value).toArray s 0 0 (fun _ => False)) (F0 m 119 ls []) := by
    intro  ls hl hR
    unfold cf_X0_isBroken_s119 at hR
    refine lv_iconst (v := (0 : Int32)) hx hb dX0_isBroken_119 (by decide +kernel) ?_
    exact W.zret (ty := .boolean) (v := (0 : Int32)) hx hb hr (by decide +kernel) (fun t ht _ => ⟨congrArg (fun z => Outcome.returned (some (Value.int z))) hR, ht⟩) t_nil dX0_isBroken_120
  have hl := lv_entry ([.long a0, .int a1]) (n := 3) (Nat.le_of_ble_eq_true rfl)
  rw [lg_entry_eq]
  generalize (lg_sl ([.long a0, .int a1]) ++ List.replicate (3 - (lg_sl ([.long a0, .int a1])).length) Slot.unset).toArray = ls at hl ⊢
  have hl : lv_has ls 3 [(0, .long a0), (2, .int a1)] := hl
  unfold cf_X0_isBroken at hR
  refine lv_iload_n hx hb dX0_isBroken_0 rfl (lv_at hl 1 rfl) ?_
  by_cases c_1 : a1 = 0
  · rw [if_pos c_1] at hR
    refine lv_tableIn (off := 27) (tgt := 28) hx hb dX0_isBroken_1 (by rw [c_1]; decide +kernel) (by rw [c_1]; decide +kernel) (by rw [c_1]; decide +kernel) (by decide) ?_
    refine lv_lload_n hx hb dX0_isBroken_28 rfl (lv_at hl 0 rfl) ?_
    refine rd_calli (va_runS (As := [.long a0]) (rest := []) ⟨hx, hb, hml, hown, hts⟩ (c_X4_isOver l a0) (va_cwS 1 hts gX0_isBroken_X4_isOver rfl rfl rfl (by decide +kernel) ⟨Nat.le_of_ble_eq_true rfl, Nat.le_of_ble_eq_true rfl⟩) ⟨pu_blind, fun U hU hW => rfl⟩ rfl rfl hl.1 rfl (lv_room (Nat.le_of_ble_eq_true rfl)) dX0_isBroken_29 ⟨Nat.le_refl _, Nat.le_refl _⟩) ?_
    refine lv_if_eq (tgt := 51) hx hb dX0_isBroken_32 (by decide) (fun c_2 => ?_) (fun c_2 => ?_)
    · rw [if_pos c_2] at hR
      exact K51  ls (lv_sub hl [] rfl) hR
    · rw [if_neg c_2] at hR
      refine lv_lload_n hx hb dX0_isBroken_35 rfl (lv_at hl 0 rfl) ?_
      refine rd_calli (va_runS (As := [.long a0]) (rest := []) ⟨hx, hb, hml, hown, hts⟩ (c_X0_needed l a0) (va_cwS 1 hts gX0_isBroken_X0_needed rfl rfl rfl (by decide +kernel) ⟨Nat.le_of_ble_eq_true rfl, Nat.le_of_ble_eq_true rfl⟩) ⟨pu_blind, fun U hU hW => rfl⟩ rfl rfl hl.1 rfl (lv_room (Nat.le_of_ble_eq_true rfl)) dX0_isBroken_36 ⟨Nat.le_refl _, Nat.le_refl _⟩) ?_
      refine lv_lload_n hx hb dX0_isBroken_39 rfl (lv_at hl 0 rfl) ?_
      refine rd_calli (va_runS (As := [.long a0]) (rest := [.int (cf_X0_needed a0)]) ⟨hx, hb, hml, hown, hts⟩ (c_X4_whites l a0) (va_cwS 1 hts gX0_isBroken_X4_whites rfl rfl rfl (by decide +kernel) ⟨Nat.le_of_ble_eq_true rfl, Nat.le_of_ble_eq_true rfl⟩) ⟨pu_blind, fun U hU hW => rfl⟩ rfl rfl hl.1 rfl (lv_room (Nat.le_of_ble_eq_true rfl)) dX0_isBroken_40 ⟨Nat.le_refl _, Nat.le_refl _⟩) ?_
      refine lv_iand hx hb dX0_isBroken_43 ?_
      refine lv_if_eq (tgt := 51) hx hb dX0_isBroken_44 (by decide) (fun c_3 => ?_) (fun c_3 => ?_)
      · rw [if_pos c_3] at hR
        exact K51  ls (lv_sub hl [] rfl) hR
      · rw [if_neg c_3] at hR
        refine lv_iconst (v := (1 : Int32)) hx hb dX0_isBroken_47 (by decide +kernel) ?_
        refine lv_goto (tgt := 52) hx hb dX0_isBroken_48 (by decide) ?_
        exact W.zret (ty := .boolean) (v := (1 : Int32)) hx hb hr (by decide +kernel) (fun t ht _ => ⟨congrArg (fun z => Outcome.returned (some (Value.int z))) hR, ht⟩) t_nil dX0_isBroken_52
  · rw [if_neg c_1] at hR
    by_cases c_4 : a1 = 1
    · rw [if_pos c_4] at hR
      refine lv_tableIn (off := 52) (tgt := 53) hx hb dX0_isBroken_1 (by rw [c_4]; decide +kernel) (by rw [c_4]; decide +kernel) (by rw [c_4]; decide +kernel) (by decide) ?_
      refine lv_lload_n hx hb dX0_isBroken_53 rfl (lv_at hl 0 rfl) ?_
      refine lv_lload_n hx hb dX0_isBroken_54 rfl (lv_at hl 0 rfl) ?_
      refine rd_calli (va_runS (As := [.long a0]) (rest := [.long a0]) ⟨hx, hb, hml, hown, hts⟩ (c_X4_blacks l a0) (va_cwS 1 hts gX0_isBroken_X4_blacks rfl rfl rfl (by decide +kernel) ⟨Nat.le_of_ble_eq_true rfl, Nat.le_of_ble_eq_true rfl⟩) ⟨pu_blind, fun U hU hW => rfl⟩ rfl rfl hl.1 rfl (lv_room (Nat.le_of_ble_eq_true rfl)) dX0_isBroken_55 ⟨Nat.le_refl _, Nat.le_refl _⟩) ?_
      refine rd_calli (va_runS (As := [.long a0, .int (cf_X4_blacks a0)]) (rest := []) ⟨hx, hb, hml, hown, hts⟩ (c_X0_whitesIn l a0 (cf_X4_blacks a0)) (va_cwS 2 hts gX0_isBroken_X0_whitesIn rfl rfl rfl (by decide +kernel) ⟨Nat.le_of_ble_eq_true rfl, Nat.le_of_ble_eq_true rfl⟩) ⟨pu_blind, fun U hU hW => rfl⟩ rfl rfl hl.1 rfl (lv_room (Nat.le_of_ble_eq_true rfl)) dX0_isBroken_58 ⟨Nat.le_refl _, Nat.le_refl _⟩) ?_
      refine lv_if_eq (tgt := 68) hx hb dX0_isBroken_61 (by decide) (fun c_5 => ?_) (fun c_5 => ?_)
      · rw [if_pos c_5] at hR
        refine lv_iconst (v := (0 : Int32)) hx hb dX0_isBroken_68 (by decide +kernel) ?_
        exact W.zret (ty := .boolean) (v := (0 : Int32)) hx hb hr (by decide +kernel) (fun t ht _ => ⟨congrArg (fun z => Outcome.returned (some (Value.int z))) hR, ht⟩) t_nil dX0_isBroken_69
      · rw [if_neg c_5] at hR
        refine lv_iconst (v := (1 : Int32)) hx hb dX0_isBroken_64 (by decide +kernel) ?_
        refine lv_goto (tgt := 69) hx hb dX0_isBroken_65 (by decide) ?_
        exact W.zret (ty := .boolean) (v := (1 : Int32)) hx hb hr (by decide +kernel) (fun t ht _ => ⟨congrArg (fun z => Outcome.returned (some (Value.int z))) hR, ht⟩) t_nil dX0_isBroken_69
    · rw [if_neg c_4] at hR
      by_cases c_6 : a1 = 2
      · rw [if_pos c_6] at hR
        refine lv_tableIn (off := 69) (tgt := 70) hx hb dX0_isBroken_1 (by rw [c_6]; decide +kernel) (by rw [c_6]; decide +kernel) (by rw [c_6]; decide +kernel) (by decide) ?_
        refine lv_lload_n hx hb dX0_isBroken_70 rfl (lv_at hl 0 rfl) ?_
        refine lv_lload_n hx hb dX0_isBroken_71 rfl (lv_at hl 0 rfl) ?_
        refine rd_calli (va_runS (As := [.long a0]) (rest := [.long a0]) ⟨hx, hb, hml, hown, hts⟩ (c_X4_blacks l a0) (va_cwS 1 hts gX0_isBroken_X4_blacks rfl rfl rfl (by decide +kernel) ⟨Nat.le_of_ble_eq_true rfl, Nat.le_of_ble_eq_true rfl⟩) ⟨pu_blind, fun U hU hW => rfl⟩ rfl rfl hl.1 rfl (lv_room (Nat.le_of_ble_eq_true rfl)) dX0_isBroken_72 ⟨Nat.le_refl _, Nat.le_refl _⟩) ?_
        refine rd_calli (va_runS (As := [.long a0, .int (cf_X4_blacks a0)]) (rest := []) ⟨hx, hb, hml, hown, hts⟩ (c_X0_whitesIn l a0 (cf_X4_blacks a0)) (va_cwS 2 hts gX0_isBroken_X0_whitesIn rfl rfl rfl (by decide +kernel) ⟨Nat.le_of_ble_eq_true rfl, Nat.le_of_ble_eq_true rfl⟩) ⟨pu_blind, fun U hU hW => rfl⟩ rfl rfl hl.1 rfl (lv_room (Nat.le_of_ble_eq_true rfl)) dX0_isBroken_75 ⟨Nat.le_refl _, Nat.le_refl _⟩) ?_
        refine lv_lload_n hx hb dX0_isBroken_78 rfl (lv_at hl 0 rfl) ?_
        refine rd_calli (va_runS (As := [.long a0]) (rest := [.int (cf_X0_whitesIn a0 (cf_X4_blacks a0))]) ⟨hx, hb, hml, hown, hts⟩ (c_X0_whitesBehindGreys l a0) (va_cwS 1 hts gX0_isBroken_X0_whitesBehindGreys rfl rfl rfl (by decide +kernel) ⟨Nat.le_of_ble_eq_true rfl, Nat.le_of_ble_eq_true rfl⟩) ⟨pu_blind, fun U hU hW => rfl⟩ rfl rfl hl.1 rfl (lv_room (Nat.le_of_ble_eq_true rfl)) dX0_isBroken_79 ⟨Nat.le_refl _, Nat.le_refl _⟩) ?_
        refine lv_iconst (v := (-1 : Int32)) hx hb dX0_isBroken_82 (by decide +kernel) ?_
        refine lv_ixor hx hb dX0_isBroken_83 ?_
        refine lv_iand hx hb dX0_isBroken_84 ?_
        refine lv_if_eq (tgt := 92) hx hb dX0_isBroken_85 (by decide) (fun c_7 => ?_) (fun c_7 => ?_)
        · rw [if_pos c_7] at hR
          refine lv_iconst (v := (0 : Int32)) hx hb dX0_isBroken_92 (by decide +kernel) ?_
          exact W.zret (ty := .boolean) (v := (0 : Int32)) hx hb hr (by decide +kernel) (fun t ht _ => ⟨congrArg (fun z => Outcome.returned (some (Value.int z))) hR, ht⟩) t_nil dX0_isBroken_93
        · rw [if_neg c_7] at hR
          refine lv_iconst (v := (1 : Int32)) hx hb dX0_isBroken_88 (by decide +kernel) ?_
          refine lv_goto (tgt := 93) hx hb dX0_isBroken_89 (by decide) ?_
          exact W.zret (ty := .boolean) (v := (1 : Int32)) hx hb hr (by decide +kernel) (fun t ht _ => ⟨congrArg (fun z => Outcome.returned (some (Value.int z))) hR, ht⟩) t_nil dX0_isBroken_93
      · rw [if_neg c_6] at hR
        refine lv_tableOut (tgt := 94) hx hb dX0_isBroken_1 (by have q0 := lv_neT (a := 0) c_1 (by decide +kernel); have q1 := lv_neT (a := 1) c_4 (by decide +kernel); have q2 := lv_neT (a := 2) c_6 (by decide +kernel); omega) (by decide) ?_
        refine lv_lload_n hx hb dX0_isBroken_94 rfl (lv_at hl 0 rfl) ?_
        refine rd_calli (va_runS (As := [.long a0]) (rest := []) ⟨hx, hb, hml, hown, hts⟩ (c_X4_isOver l a0) (va_cwS 1 hts gX0_isBroken_X4_isOver rfl rfl rfl (by decide +kernel) ⟨Nat.le_of_ble_eq_true rfl, Nat.le_of_ble_eq_true rfl⟩) ⟨pu_blind, fun U hU hW => rfl⟩ rfl rfl hl.1 rfl (lv_room (Nat.le_of_ble_eq_true rfl)) dX0_isBroken_95 ⟨Nat.le_refl _, Nat.le_refl _⟩) ?_
        refine lv_if_eq (tgt := 119) hx hb dX0_isBroken_98 (by decide) (fun c_8 => ?_) (fun c_8 => ?_)
        · rw [if_pos c_8] at hR
          exact K119  ls (lv_sub hl [] rfl) hR
        · rw [if_neg c_8] at hR
          refine lv_lload_n hx hb dX0_isBroken_101 rfl (lv_at hl 0 rfl) ?_
          refine rd_calli (va_runS (As := [.long a0]) (rest := []) ⟨hx, hb, hml, hown, hts⟩ (c_X4_blacks l a0) (va_cwS 1 hts gX0_isBroken_X4_blacks rfl rfl rfl (by decide +kernel) ⟨Nat.le_of_ble_eq_true rfl, Nat.le_of_ble_eq_true rfl⟩) ⟨pu_blind, fun U hU hW => rfl⟩ rfl rfl hl.1 rfl (lv_room (Nat.le_of_ble_eq_true rfl)) dX0_isBroken_102 ⟨Nat.le_refl _, Nat.le_refl _⟩) ?_
          refine lv_lload_n hx hb dX0_isBroken_105 rfl (lv_at hl 0 rfl) ?_
          refine rd_calli (va_runS (As := [.long a0]) (rest := [.int (cf_X4_blacks a0)]) ⟨hx, hb, hml, hown, hts⟩ (c_X0_needed l a0) (va_cwS 1 hts gX0_isBroken_X0_needed rfl rfl rfl (by decide +kernel) ⟨Nat.le_of_ble_eq_true rfl, Nat.le_of_ble_eq_true rfl⟩) ⟨pu_blind, fun U hU hW => rfl⟩ rfl rfl hl.1 rfl (lv_room (Nat.le_of_ble_eq_true rfl)) dX0_isBroken_106 ⟨Nat.le_refl _, Nat.le_refl _⟩) ?_
          refine lv_iconst (v := (-1 : Int32)) hx hb dX0_isBroken_109 (by decide +kernel) ?_
          refine lv_ixor hx hb dX0_isBroken_110 ?_
          refine lv_iand hx hb dX0_isBroken_111 ?_
          refine lv_if_eq (tgt := 119) hx hb dX0_isBroken_112 (by decide) (fun c_9 => ?_) (fun c_9 => ?_)
          · rw [if_pos c_9] at hR
            exact K119  ls (lv_sub hl [] rfl) hR
          · rw [if_neg c_9] at hR
            refine lv_iconst (v := (1 : Int32)) hx hb dX0_isBroken_115 (by decide +kernel) ?_
            refine lv_goto (tgt := 120) hx hb dX0_isBroken_116 (by decide) ?_
            exact W.zret (ty := .boolean) (v := (1 : Int32)) hx hb hr (by decide +kernel) (fun t ht _ => ⟨congrArg (fun z => Outcome.returned (some (Value.int z))) hR, ht⟩) t_nil dX0_isBroken_120

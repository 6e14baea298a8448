def cf_X4_fieldPlace  (a0 : Int32) (a1 : Int32) : Int32 :=
  (((6 : Int32) * a0) + ((3 : Int32) * a1))
set_option maxHeartbeats 4000000 in
set_option maxRecDepth 100000 in
theorem c_X4_fieldPlace (l : Launch)  (a0 : Int32) (a1 : Int32)  : Met l yX4_fieldPlace wsX4_fieldPlace ({ frames := 0, cells := 0, slots := 0, locals := 0 }) (pu_P [.int a0, .int a1]) (rd_Q (some (.int (cf_X4_fieldPlace  a0 a1)))) 0 0 (fun _ => False) := by
  refine Met.ofW (cc := cX4_fieldPlace) (maxL := 2) (ret := (some .int)) (by decide) rfl ?_
  intro p e s m args below meth c s₁ B hml hv
  obtain rfl := hv
  have hx := B.exec
  have hb := B.bytes
  have hr := B.returns
  have hts := atoms_spec (ws := wsX4_fieldPlace) B.pre
  have hown : s.vm.findClass RX4 = some m.cls := findClass_of_methodNamed B.named
  have hlocks := B.notSynchronized
  generalize hR : cf_X4_fieldPlace  a0 a1 = R
  have hl := lv_entry ([.int a0, .int a1]) (n := 2) (Nat.le_of_ble_eq_true rfl)
  rw [lg_entry_eq]
  generalize (lg_sl ([.int a0, .int a1]) ++ List.replicate (2 - (lg_sl ([.int a0, .int a1])).length) Slot.unset).toArray = ls at hl ⊢
  have hl : lv_has ls 2 [(0, .int a0), (1, .int a1)] := hl
  unfold cf_X4_fieldPlace at hR
  refine lv_bipush (v := (6 : Int32)) hx hb dX4_fieldPlace_0 (by decide +kernel) ?_
  refine lv_iload_n hx hb dX4_fieldPlace_2 rfl (lv_at hl 0 rfl) ?_
  refine lv_imul hx hb dX4_fieldPlace_3 ?_
  refine lv_iconst (v := (3 : Int32)) hx hb dX4_fieldPlace_4 (by decide +kernel) ?_
  refine lv_iload_n hx hb dX4_fieldPlace_5 rfl (lv_at hl 1 rfl) ?_
  refine lv_imul hx hb dX4_fieldPlace_6 ?_
  refine lv_iadd hx hb dX4_fieldPlace_7 ?_
  exact W.iret (v := (((6 : Int32) * a0) + ((3 : Int32) * a1))) hx hb hr (fun t ht _ => ⟨congrArg (fun z => Outcome.returned (some (Value.int z))) hR, ht⟩) t_nil dX4_fieldPlace_8
def cf_X4_rootPlace  (a0 : Int32) : Int32 :=
  ((24 : Int32) + ((3 : Int32) * a0))
set_option maxHeartbeats 4000000 in
set_option maxRecDepth 100000 in
theorem c_X4_rootPlace (l : Launch)  (a0 : Int32)  : Met l yX4_rootPlace wsX4_rootPlace ({ frames := 0, cells := 0, slots := 0, locals := 0 }) (pu_P [.int a0]) (rd_Q (some (.int (cf_X4_rootPlace  a0)))) 0 0 (fun _ => False) := by
  refine Met.ofW (cc := cX4_rootPlace) (maxL := 1) (ret := (some .int)) (by decide) rfl ?_
  intro p e s m args below meth c s₁ B hml hv
  obtain rfl := hv
  have hx := B.exec
  have hb := B.bytes
  have hr := B.returns
  have hts := atoms_spec (ws := wsX4_rootPlace) B.pre
  have hown : s.vm.findClass RX4 = some m.cls := findClass_of_methodNamed B.named
  have hlocks := B.notSynchronized
  generalize hR : cf_X4_rootPlace  a0 = R
  have hl := lv_entry ([.int a0]) (n := 1) (Nat.le_of_ble_eq_true rfl)
  rw [lg_entry_eq]
  generalize (lg_sl ([.int a0]) ++ List.replicate (1 - (lg_sl ([.int a0])).length) Slot.unset).toArray = ls at hl ⊢
  have hl : lv_has ls 1 [(0, .int a0)] := hl
  unfold cf_X4_rootPlace at hR
  refine lv_bipush (v := (24 : Int32)) hx hb dX4_rootPlace_0 (by decide +kernel) ?_
  refine lv_iconst (v := (3 : Int32)) hx hb dX4_rootPlace_2 (by decide +kernel) ?_
  refine lv_iload_n hx hb dX4_rootPlace_3 rfl (lv_at hl 0 rfl) ?_
  refine lv_imul hx hb dX4_rootPlace_4 ?_
  refine lv_iadd hx hb dX4_rootPlace_5 ?_
  exact W.iret (v := ((24 : Int32) + ((3 : Int32) * a0))) hx hb hr (fun t ht _ => ⟨congrArg (fun z => Outcome.returned (some (Value.int z))) hR, ht⟩) t_nil dX4_rootPlace_6
def cf_X4_inField  (a0 : Int64) (a1 : Int32) (a2 : Int32) : Int32 :=
  ((((jl_ushr a0 (cf_X4_fieldPlace a1 a2)).toInt32) &&& (7 : Int32)) - (1 : Int32))
set_option maxHeartbeats 4000000 in
set_option maxRecDepth 100000 in
theorem c_X4_inField (l : Launch)  (a0 : Int64) (a1 : Int32) (a2 : Int32)  : Met l yX4_inField wsX4_inField ({ frames := 1, cells := 0, slots := 0, locals := 21 }) (pu_P [.long a0, .int a1, .int a2]) (rd_Q (some (.int (cf_X4_inField  a0 a1 a2)))) 0 0 (fun _ => False) := by
  refine Met.ofW (cc := cX4_inField) (maxL := 4) (ret := (some .int)) (by decide) rfl ?_
  intro p e s m args below meth c s₁ B hml hv
  obtain rfl := hv
  have hx := B.exec
  have hb := B.bytes
  have hr := B.returns
  have hts := atoms_spec (ws := wsX4_inField) B.pre
  have hown : s.vm.findClass RX4 = some m.cls := findClass_of_methodNamed B.named
  have hlocks := B.notSynchronized
  generalize hR : cf_X4_inField  a0 a1 a2 = R
  have hl := lv_entry ([.long a0, .int a1, .int a2]) (n := 4) (Nat.le_of_ble_eq_true rfl)
  rw [lg_entry_eq]
  generalize (lg_sl ([.long a0, .int a1, .int a2]) ++ List.replicate (4 - (lg_sl ([.long a0, .int a1, .int a2])).length) Slot.unset).toArray = ls at hl ⊢
  have hl : lv_has ls 4 [(0, .long a0), (2, .int a1), (3, .int a2)] := hl
  unfold cf_X4_inField at hR
  refine lv_lload_n hx hb dX4_inField_0 rfl (lv_at hl 0 rfl) ?_
  refine lv_iload_n hx hb dX4_inField_1 rfl (lv_at hl 1 rfl) ?_
  refine lv_iload_n hx hb dX4_inField_2 rfl (lv_at hl 2 rfl) ?_
  refine rd_calli (va_runS (As := [.int a1, .int a2]) (rest := [.long a0]) ⟨hx, hb, hml, hown, hts⟩ (c_X4_fieldPlace l a1 a2) (va_cwS 2 hts gX4_inField_X4_fieldPlace rfl rfl rfl (by decide +kernel) ⟨Nat.le_of_ble_eq_true rfl, Nat.le_of_ble_eq_true rfl⟩) ⟨pu_blind, fun U hU hW => rfl⟩ rfl rfl hl.1 rfl (lv_room (Nat.le_of_ble_eq_true rfl)) dX4_inField_3 ⟨Nat.le_refl _, Nat.le_refl _⟩) ?_
  refine lv_lushr (v := (jl_ushr a0 (cf_X4_fieldPlace a1 a2))) hx hb dX4_inField_6 rfl ?_
  refine lv_l2i (v := ((jl_ushr a0 (cf_X4_fieldPlace a1 a2)).toInt32)) hx hb dX4_inField_7 rfl ?_
  refine lv_bipush (v := (7 : Int32)) hx hb dX4_inField_8 (by decide +kernel) ?_
  refine lv_iand hx hb dX4_inField_10 ?_
  refine lv_iconst (v := (1 : Int32)) hx hb dX4_inField_11 (by decide +kernel) ?_
  refine lv_isub hx hb dX4_inField_12 ?_
  exact W.iret (v := ((((jl_ushr a0 (cf_X4_fieldPlace a1 a2)).toInt32) &&& (7 : Int32)) - (1 : Int32))) hx hb hr (fun t ht _ => ⟨congrArg (fun z => Outcome.returned (some (Value.int z))) hR, ht⟩) t_nil dX4_inField_13
def cf_X4_withField  (a0 : Int64) (a1 : Int32) (a2 : Int32) (a3 : Int32) : Int64 :=
  ((a0 &&& ((jl_shl (7 : Int64) (cf_X4_fieldPlace a1 a2)) ^^^ (-1 : Int64))) ||| (jl_shl ((a3.toInt64) + (1 : Int64)) (cf_X4_fieldPlace a1 a2)))
set_option maxHeartbeats 4000000 in
set_option maxRecDepth 100000 in
theorem c_X4_withField (l : Launch)  (a0 : Int64) (a1 : Int32) (a2 : Int32) (a3 : Int32)  : Met l yX4_withField wsX4_withField ({ frames := 1, cells := 0, slots := 0, locals := 21 }) (pu_P [.long a0, .int a1, .int a2, .int a3]) (rd_Q (some (.long (cf_X4_withField  a0 a1 a2 a3)))) 0 0 (fun _ => False) := by
  refine Met.ofW (cc := cX4_withField) (maxL := 6) (ret := (some .long)) (by decide) rfl ?_
  intro p e s m args below meth c s₁ B hml hv
  obtain rfl := hv
  have hx := B.exec
  have hb := B.bytes
  have hr := B.returns
  have hts := atoms_spec (ws := wsX4_withField) B.pre
  have hown : s.vm.findClass RX4 = some m.cls := findClass_of_methodNamed B.named
  have hlocks := B.notSynchronized
  have h0_ : (Cond.constantLong RX4 15 (7)).before _ s = true := hts _ (by decide +kernel)
  have h1_ : (Cond.constantLong RX4 17 (-1)).before _ s = true := hts _ (by decide +kernel)
  generalize hR : cf_X4_withField  a0 a1 a2 a3 = R
  have hl := lv_entry ([.long a0, .int a1, .int a2, .int a3]) (n := 6) (Nat.le_of_ble_eq_true rfl)
  rw [lg_entry_eq]
  generalize (lg_sl ([.long a0, .int a1, .int a2, .int a3]) ++ List.replicate (6 - (lg_sl ([.long a0, .int a1, .int a2, .int a3])).length) Slot.unset).toArray = ls at hl ⊢
  have hl : lv_has ls 6 [(0, .long a0), (2, .int a1), (3, .int a2), (4, .int a3)] := hl
  unfold cf_X4_withField at hR
  refine lv_iload_n hx hb dX4_withField_0 rfl (lv_at hl 1 rfl) ?_
  refine lv_iload_n hx hb dX4_withField_1 rfl (lv_at hl 2 rfl) ?_
  refine rd_calli (va_runS (As := [.int a1, .int a2]) (rest := []) ⟨hx, hb, hml, hown, hts⟩ (c_X4_fieldPlace l a1 a2) (va_cwS 2 hts gX4_withField_X4_fieldPlace rfl rfl rfl (by decide +kernel) ⟨Nat.le_of_ble_eq_true rfl, Nat.le_of_ble_eq_true rfl⟩) ⟨pu_blind, fun U hU hW => rfl⟩ rfl rfl hl.1 rfl (lv_room (Nat.le_of_ble_eq_true rfl)) dX4_withField_2 ⟨Nat.le_refl _, Nat.le_refl _⟩) ?_
  refine lv_istore (lv' := [(5, .int (cf_X4_fieldPlace a1 a2)), (0, .long a0), (2, .int a1), (3, .int a2), (4, .int a3)]) hx hb dX4_withField_5 hl (by decide) rfl (fun ls hl => ?_)
  refine lv_lload_n hx hb dX4_withField_7 rfl (lv_at hl 1 rfl) ?_
  refine lv_ldc2 (v := (7 : Int64)) hx hb hown h0_ dX4_withField_8 ?_
  refine lv_iload hx hb dX4_withField_11 (lv_at hl 0 rfl) ?_
  refine lv_lshl (v := (jl_shl (7 : Int64) (cf_X4_fieldPlace a1 a2))) hx hb dX4_withField_13 rfl ?_
  refine lv_ldc2 (v := (-1 : Int64)) hx hb hown h1_ dX4_withField_14 ?_
  refine lv_lxor hx hb dX4_withField_17 ?_
  refine lv_land hx hb dX4_withField_18 ?_
  refine lv_iload hx hb dX4_withField_19 (lv_at hl 4 rfl) ?_
  refine lv_i2l (v := (a3.toInt64)) hx hb dX4_withField_21 rfl ?_
  refine lv_lconst (v := (1 : Int64)) hx hb dX4_withField_22 (by decide +kernel) ?_
  refine lv_ladd hx hb dX4_withField_23 ?_
  refine lv_iload hx hb dX4_withField_24 (lv_at hl 0 rfl) ?_
  refine lv_lshl (v := (jl_shl ((a3.toInt64) + (1 : Int64)) (cf_X4_fieldPlace a1 a2))) hx hb dX4_withField_26 rfl ?_
  refine lv_lor hx hb dX4_withField_27 ?_
  exact W.lret (v := ((a0 &&& ((jl_shl (7 : Int64) (cf_X4_fieldPlace a1 a2)) ^^^ (-1 : Int64))) ||| (jl_shl ((a3.toInt64) + (1 : Int64)) (cf_X4_fieldPlace a1 a2)))) hx hb hr (fun t ht _ => ⟨congrArg (fun z => Outcome.returned (some (Value.long z))) hR, ht⟩) t_nil dX4_withField_28
def cf_X4_inRoot  (a0 : Int64) (a1 : Int32) : Int32 :=
  ((((jl_ushr a0 (cf_X4_rootPlace a1)).toInt32) &&& (7 : Int32)) - (1 : Int32))
set_option maxHeartbeats 4000000 in
set_option maxRecDepth 100000 in
theorem c_X4_inRoot (l : Launch)  (a0 : Int64) (a1 : Int32)  : Met l yX4_inRoot wsX4_inRoot ({ frames := 1, cells := 0, slots := 0, locals := 20 }) (pu_P [.long a0, .int a1]) (rd_Q (some (.int (cf_X4_inRoot  a0 a1)))) 0 0 (fun _ => False) := by
  refine Met.ofW (cc := cX4_inRoot) (maxL := 3) (ret := (some .int)) (by decide) rfl ?_
  intro p e s m args below meth c s₁ B hml hv
  obtain rfl := hv
  have hx := B.exec
  have hb := B.bytes
  have hr := B.returns
  have hts := atoms_spec (ws := wsX4_inRoot) B.pre
  have hown : s.vm.findClass RX4 = some m.cls := findClass_of_methodNamed B.named
  have hlocks := B.notSynchronized
  generalize hR : cf_X4_inRoot  a0 a1 = R
  have hl := lv_entry ([.long a0, .int a1]) (n := 3) (Nat.le_of_ble_eq_true rfl)
  rw [lg_entry_eq]
  generalize (lg_sl ([.long a0, .int a1]) ++ List.replicate (3 - (lg_sl ([.long a0, .int a1])).length) Slot.unset).toArray = ls at hl ⊢
  have hl : lv_has ls 3 [(0, .long a0), (2, .int a1)] := hl
  unfold cf_X4_inRoot at hR
  refine lv_lload_n hx hb dX4_inRoot_0 rfl (lv_at hl 0 rfl) ?_
  refine lv_iload_n hx hb dX4_inRoot_1 rfl (lv_at hl 1 rfl) ?_
  refine rd_calli (va_runS (As := [.int a1]) (rest := [.long a0]) ⟨hx, hb, hml, hown, hts⟩ (c_X4_rootPlace l a1) (va_cwS 1 hts gX4_inRoot_X4_rootPlace rfl rfl rfl (by decide +kernel) ⟨Nat.le_of_ble_eq_true rfl, Nat.le_of_ble_eq_true rfl⟩) ⟨pu_blind, fun U hU hW => rfl⟩ rfl rfl hl.1 rfl (lv_room (Nat.le_of_ble_eq_true rfl)) dX4_inRoot_2 ⟨Nat.le_refl _, Nat.le_refl _⟩) ?_
  refine lv_lushr (v := (jl_ushr a0 (cf_X4_rootPlace a1))) hx hb dX4_inRoot_5 rfl ?_
  refine lv_l2i (v := ((jl_ushr a0 (cf_X4_rootPlace a1)).toInt32)) hx hb dX4_inRoot_6 rfl ?_
  refine lv_bipush (v := (7 : Int32)) hx hb dX4_inRoot_7 (by decide +kernel) ?_
  refine lv_iand hx hb dX4_inRoot_9 ?_
  refine lv_iconst (v := (1 : Int32)) hx hb dX4_inRoot_10 (by decide +kernel) ?_
  refine lv_isub hx hb dX4_inRoot_11 ?_
  exact W.iret (v := ((((jl_ushr a0 (cf_X4_rootPlace a1)).toInt32) &&& (7 : Int32)) - (1 : Int32))) hx hb hr (fun t ht _ => ⟨congrArg (fun z => Outcome.returned (some (Value.int z))) hR, ht⟩) t_nil dX4_inRoot_12
def cf_X4_withRoot  (a0 : Int64) (a1 : Int32) (a2 : Int32) : Int64 :=
  ((a0 &&& ((jl_shl (7 : Int64) (cf_X4_rootPlace a1)) ^^^ (-1 : Int64))) ||| (jl_shl ((a2.toInt64) + (1 : Int64)) (cf_X4_rootPlace a1)))
set_option maxHeartbeats 4000000 in
set_option maxRecDepth 100000 in
theorem c_X4_withRoot (l : Launch)  (a0 : Int64) (a1 : Int32) (a2 : Int32)  : Met l yX4_withRoot wsX4_withRoot ({ frames := 1, cells := 0, slots := 0, locals := 20 }) (pu_P [.long a0, .int a1, .int a2]) (rd_Q (some (.long (cf_X4_withRoot  a0 a1 a2)))) 0 0 (fun _ => False) := by
  refine Met.ofW (cc := cX4_withRoot) (maxL := 5) (ret := (some .long)) (by decide) rfl ?_
  intro p e s m args below meth c s₁ B hml hv
  obtain rfl := hv
  have hx := B.exec
  have hb := B.bytes
  have hr := B.returns
  have hts := atoms_spec (ws := wsX4_withRoot) B.pre
  have hown : s.vm.findClass RX4 = some m.cls := findClass_of_methodNamed B.named
  have hlocks := B.notSynchronized
  have h0_ : (Cond.constantLong RX4 15 (7)).before _ s = true := hts _ (by decide +kernel)
  have h1_ : (Cond.constantLong RX4 17 (-1)).before _ s = true := hts _ (by decide +kernel)
  generalize hR : cf_X4_withRoot  a0 a1 a2 = R
  have hl := lv_entry ([.long a0, .int a1, .int a2]) (n := 5) (Nat.le_of_ble_eq_true rfl)
  rw [lg_entry_eq]
  generalize (lg_sl ([.long a0, .int a1, .int a2]) ++ List.replicate (5 - (lg_sl ([.long a0, .int a1, .int a2])).length) Slot.unset).toArray = ls at hl ⊢
  have hl : lv_has ls 5 [(0, .long a0), (2, .int a1), (3, .int a2)] := hl
  unfold cf_X4_withRoot at hR
  refine lv_iload_n hx hb dX4_withRoot_0 rfl (lv_at hl 1 rfl) ?_
  refine rd_calli (va_runS (As := [.int a1]) (rest := []) ⟨hx, hb, hml, hown, hts⟩ (c_X4_rootPlace l a1) (va_cwS 1 hts gX4_withRoot_X4_rootPlace rfl rfl rfl (by decide +kernel) ⟨Nat.le_of_ble_eq_true rfl, Nat.le_of_ble_eq_true rfl⟩) ⟨pu_blind, fun U hU hW => rfl⟩ rfl rfl hl.1 rfl (lv_room (Nat.le_of_ble_eq_true rfl)) dX4_withRoot_1 ⟨Nat.le_refl _, Nat.le_refl _⟩) ?_
  refine lv_istore (lv' := [(4, .int (cf_X4_rootPlace a1)), (0, .long a0), (2, .int a1), (3, .int a2)]) hx hb dX4_withRoot_4 hl (by decide) rfl (fun ls hl => ?_)
  refine lv_lload_n hx hb dX4_withRoot_6 rfl (lv_at hl 1 rfl) ?_
  refine lv_ldc2 (v := (7 : Int64)) hx hb hown h0_ dX4_withRoot_7 ?_
  refine lv_iload hx hb dX4_withRoot_10 (lv_at hl 0 rfl) ?_
  refine lv_lshl (v := (jl_shl (7 : Int64) (cf_X4_rootPlace a1))) hx hb dX4_withRoot_12 rfl ?_
  refine lv_ldc2 (v := (-1 : Int64)) hx hb hown h1_ dX4_withRoot_13 ?_
  refine lv_lxor hx hb dX4_withRoot_16 ?_
  refine lv_land hx hb dX4_withRoot_17 ?_
  refine lv_iload_n hx hb dX4_withRoot_18 rfl (lv_at hl 3 rfl) ?_
  refine lv_i2l (v := (a2.toInt64)) hx hb dX4_withRoot_19 rfl ?_
  refine lv_lconst (v := (1 : Int64)) hx hb dX4_withRoot_20 (by decide +kernel) ?_
  refine lv_ladd hx hb dX4_withRoot_21 ?_
  refine lv_iload hx hb dX4_withRoot_22 (lv_at hl 0 rfl) ?_
  refine lv_lshl (v := (jl_shl ((a2.toInt64) + (1 : Int64)) (cf_X4_rootPlace a1))) hx hb dX4_withRoot_24 rfl ?_
  refine lv_lor hx hb dX4_withRoot_25 ?_
  exact W.lret (v := ((a0 &&& ((jl_shl (7 : Int64) (cf_X4_rootPlace a1)) ^^^ (-1 : Int64))) ||| (jl_shl ((a2.toInt64) + (1 : Int64)) (cf_X4_rootPlace a1)))) hx hb hr (fun t ht _ => ⟨congrArg (fun z => Outcome.returned (some (Value.long z))) hR, ht⟩) t_nil dX4_withRoot_26
def cf_X4_setInRoots_s4_3  (x0 : Int64) (x2 : Int32) : Int32 :=
  (ji_ushr x2 (1 : Int32))
def cf_X4_setInRoots_s4_2  (x0 : Int64) (x2 : Int32) : Int32 :=
  cf_X4_setInRoots_s4_3  x0 (x2 ||| ((1 : Int32) <<< ((((jl_ushr x0 ((24 : Int32) + ((3 : Int32) * (2 : Int32)))).toInt32) &&& (7 : Int32)) &&& 31)))
def cf_X4_setInRoots_s4_1  (x0 : Int64) (x2 : Int32) : Int32 :=
  cf_X4_setInRoots_s4_2  x0 (x2 ||| ((1 : Int32) <<< ((((jl_ushr x0 ((24 : Int32) + ((3 : Int32) * (1 : Int32)))).toInt32) &&& (7 : Int32)) &&& 31)))
def cf_X4_setInRoots_s4_0  (x0 : Int64) (x2 : Int32) : Int32 :=
  cf_X4_setInRoots_s4_1  x0 (x2 ||| ((1 : Int32) <<< ((((jl_ushr x0 ((24 : Int32) + ((3 : Int32) * (0 : Int32)))).toInt32) &&& (7 : Int32)) &&& 31)))
def cf_X4_setInRoots  (a0 : Int64) : Int32 :=
  cf_X4_setInRoots_s4_0  a0 (0 : Int32)
set_option maxHeartbeats 4000000 in
set_option maxRecDepth 100000 in
theorem c_X4_setInRoots (l : Launch)  (a0 : Int64)  : Met l yX4_setInRoots wsX4_setInRoots ({ frames := 0, cells := 0, slots := 0, locals := 0 }) (pu_P [.long a0]) (rd_Q (some (.int (cf_X4_setInRoots  a0)))) 0 0 (fun _ => False) := by
  refine Met.ofW (cc := cX4_setInRoots) (maxL := 4) (ret := (some .int)) (by decide) rfl ?_
  intro p e s m args below meth c s₁ B hml hv
  obtain rfl := hv
  have hx := B.exec
  have hb := B.bytes
  have hr := B.returns
  have hts := atoms_spec (ws := wsX4_setInRoots) B.pre
  have hown : s.vm.findClass RX4 = some m.cls := findClass_of_methodNamed B.named
  have hlocks := B.notSynchronized
  generalize hR : cf_X4_setInRoots  a0 = R
  have K4_3 : ∀ (x0 : Int64) (x2 : Int32) (ls : Array Slot), lv_has ls 4 [(0, .long x0), (2, .int x2), (3, .int (3 : Int32))] → cf_X4_setInRoots_s4_3  x0 x2 = R → W p l e (headSpec wsX4_setInRoots ({ frames := 0, cells := 0, slots := 0, locals := 0 })).room s m ([.long a0] : List Value).toArray below meth c s.heap [] 0 0 (MQ below (rd_Q (some (.int R))) ([.long a0] : List Value).toArray s 0 0 (fun _ => False)) (F0 m 4 ls []) := by
    intro x0 x2 ls hl hR
    unfold cf_X4_setInRoots_s4_3 at hR
    refine lv_iload_n hx hb dX4_setInRoots_4 rfl (lv_at hl 2 rfl) ?_
    refine lv_iconst (v := (3 : Int32)) hx hb dX4_setInRoots_5 (by decide +kernel) ?_
    refine lv_icmp_ge (tgt := 32) hx hb dX4_setInRoots_6 (by decide) (fun _ => ?_) (fun c_0 => absurd c_0 (by decide +kernel))
    refine lv_iload_n hx hb dX4_setInRoots_32 rfl (lv_at hl 1 rfl) ?_
    refine lv_iconst (v := (1 : Int32)) hx hb dX4_setInRoots_33 (by decide +kernel) ?_
    refine lv_iushr (v := (ji_ushr x2 (1 : Int32))) hx hb dX4_setInRoots_34 rfl ?_
    exact W.iret (v := (ji_ushr x2 (1 : Int32))) hx hb hr (fun t ht _ => ⟨congrArg (fun z => Outcome.returned (some (Value.int z))) hR, ht⟩) t_nil dX4_setInRoots_35
  have K4_2 : ∀ (x0 : Int64) (x2 : Int32) (ls : Array Slot), lv_has ls 4 [(0, .long x0), (2, .int x2), (3, .int (2 : Int32))] → cf_X4_setInRoots_s4_2  x0 x2 = R → W p l e (headSpec wsX4_setInRoots ({ frames := 0, cells := 0, slots := 0, locals := 0 })).room s m ([.long a0] : List Value).toArray below meth c s.heap [] 0 0 (MQ below (rd_Q (some (.int R))) ([.long a0] : List Value).toArray s 0 0 (fun _ => False)) (F0 m 4 ls []) := by
    intro x0 x2 ls hl hR
    unfold cf_X4_setInRoots_s4_2 at hR
    refine lv_iload_n hx hb dX4_setInRoots_4 rfl (lv_at hl 2 rfl) ?_
    refine lv_iconst (v := (3 : Int32)) hx hb dX4_setInRoots_5 (by decide +kernel) ?_
    refine lv_icmp_ge (tgt := 32) hx hb dX4_setInRoots_6 (by decide) (fun c_0 => absurd c_0 (by decide +kernel)) (fun _ => ?_)
    refine lv_iload_n hx hb dX4_setInRoots_9 rfl (lv_at hl 1 rfl) ?_
    refine lv_iconst (v := (1 : Int32)) hx hb dX4_setInRoots_10 (by decide +kernel) ?_
    refine lv_lload_n hx hb dX4_setInRoots_11 rfl (lv_at hl 0 rfl) ?_
    refine lv_bipush (v := (24 : Int32)) hx hb dX4_setInRoots_12 (by decide +kernel) ?_
    refine lv_iconst (v := (3 : Int32)) hx hb dX4_setInRoots_14 (by decide +kernel) ?_
    refine lv_iload_n hx hb dX4_setInRoots_15 rfl (lv_at hl 2 rfl) ?_
    refine lv_imul hx hb dX4_setInRoots_16 ?_
    refine lv_iadd hx hb dX4_setInRoots_17 ?_
    refine lv_lushr (v := (jl_ushr x0 ((24 : Int32) + ((3 : Int32) * (2 : Int32))))) hx hb dX4_setInRoots_18 rfl ?_
    refine lv_l2i (v := ((jl_ushr x0 ((24 : Int32) + ((3 : Int32) * (2 : Int32)))).toInt32)) hx hb dX4_setInRoots_19 rfl ?_
    refine lv_bipush (v := (7 : Int32)) hx hb dX4_setInRoots_20 (by decide +kernel) ?_
    refine lv_iand hx hb dX4_setInRoots_22 ?_
    refine lv_ishl hx hb dX4_setInRoots_23 ?_
    refine lv_ior hx hb dX4_setInRoots_24 ?_
    refine lv_istore_n (lv' := [(2, .int (x2 ||| ((1 : Int32) <<< ((((jl_ushr x0 ((24 : Int32) + ((3 : Int32) * (2 : Int32)))).toInt32) &&& (7 : Int32)) &&& 31)))), (0, .long x0), (3, .int (2 : Int32))]) hx hb dX4_setInRoots_25 rfl hl (by decide) rfl (fun ls hl => ?_)
    refine lv_iinc (v := (3 : Int32)) (lv' := [(3, .int (3 : Int32)), (2, .int (x2 ||| ((1 : Int32) <<< ((((jl_ushr x0 ((24 : Int32) + ((3 : Int32) * (2 : Int32)))).toInt32) &&& (7 : Int32)) &&& 31)))), (0, .long x0)]) hx hb dX4_setInRoots_26 hl (k := 2) rfl (by decide +kernel) (by decide) rfl (fun ls hl => ?_)
    refine lv_goto (tgt := 4) hx hb dX4_setInRoots_29 (by decide) ?_
    exact K4_3 x0 (x2 ||| ((1 : Int32) <<< ((((jl_ushr x0 ((24 : Int32) + ((3 : Int32) * (2 : Int32)))).toInt32) &&& (7 : Int32)) &&& 31))) ls (lv_sub hl [2, 1, 0] rfl) hR
  have K4_1 : ∀ (x0 : Int64) (x2 : Int32) (ls : Array Slot), lv_has ls 4 [(0, .long x0), (2, .int x2), (3, .int (1 : Int32))] → cf_X4_setInRoots_s4_1  x0 x2 = R → W p l e (headSpec wsX4_setInRoots ({ frames := 0, cells := 0, slots := 0, locals := 0 })).room s m ([.long a0] : List Value).toArray below meth c s.heap [] 0 0 (MQ below (rd_Q (some (.int R))) ([.long a0] : List Value).toArray s 0 0 (fun _ => False)) (F0 m 4 ls []) := by
    intro x0 x2 ls hl hR
    unfold cf_X4_setInRoots_s4_1 at hR
    refine lv_iload_n hx hb dX4_setInRoots_4 rfl (lv_at hl 2 rfl) ?_
    refine lv_iconst (v := (3 : Int32)) hx hb dX4_setInRoots_5 (by decide +kernel) ?_
    refine lv_icmp_ge (tgt := 32) hx hb dX4_setInRoots_6 (by decide) (fun c_0 => absurd c_0 (by decide +kernel)) (fun _ => ?_)
    refine lv_iload_n hx hb dX4_setInRoots_9 rfl (lv_at hl 1 rfl) ?_
    refine lv_iconst (v := (1 : Int32)) hx hb dX4_setInRoots_10 (by decide +kernel) ?_
    refine lv_lload_n hx hb dX4_setInRoots_11 rfl (lv_at hl 0 rfl) ?_
    refine lv_bipush (v := (24 : Int32)) hx hb dX4_setInRoots_12 (by decide +kernel) ?_
    refine lv_iconst (v := (3 : Int32)) hx hb dX4_setInRoots_14 (by decide +kernel) ?_
    refine lv_iload_n hx hb dX4_setInRoots_15 rfl (lv_at hl 2 rfl) ?_
    refine lv_imul hx hb dX4_setInRoots_16 ?_
    refine lv_iadd hx hb dX4_setInRoots_17 ?_
    refine lv_lushr (v := (jl_ushr x0 ((24 : Int32) + ((3 : Int32) * (1 : Int32))))) hx hb dX4_setInRoots_18 rfl ?_
    refine lv_l2i (v := ((jl_ushr x0 ((24 : Int32) + ((3 : Int32) * (1 : Int32)))).toInt32)) hx hb dX4_setInRoots_19 rfl ?_
    refine lv_bipush (v := (7 : Int32)) hx hb dX4_setInRoots_20 (by decide +kernel) ?_
    refine lv_iand hx hb dX4_setInRoots_22 ?_
    refine lv_ishl hx hb dX4_setInRoots_23 ?_
    refine lv_ior hx hb dX4_setInRoots_24 ?_
    refine lv_istore_n (lv' := [(2, .int (x2 ||| ((1 : Int32) <<< ((((jl_ushr x0 ((24 : Int32) + ((3 : Int32) * (1 : Int32)))).toInt32) &&& (7 : Int32)) &&& 31)))), (0, .long x0), (3, .int (1 : Int32))]) hx hb dX4_setInRoots_25 rfl hl (by decide) rfl (fun ls hl => ?_)
    refine lv_iinc (v := (2 : Int32)) (lv' := [(3, .int (2 : Int32)), (2, .int (x2 ||| ((1 : Int32) <<< ((((jl_ushr x0 ((24 : Int32) + ((3 : Int32) * (1 : Int32)))).toInt32) &&& (7 : Int32)) &&& 31)))), (0, .long x0)]) hx hb dX4_setInRoots_26 hl (k := 2) rfl (by decide +kernel) (by decide) rfl (fun ls hl => ?_)
    refine lv_goto (tgt := 4) hx hb dX4_setInRoots_29 (by decide) ?_
    exact K4_2 x0 (x2 ||| ((1 : Int32) <<< ((((jl_ushr x0 ((24 : Int32) + ((3 : Int32) * (1 : Int32)))).toInt32) &&& (7 : Int32)) &&& 31))) ls (lv_sub hl [2, 1, 0] rfl) hR
  have K4_0 : ∀ (x0 : Int64) (x2 : Int32) (ls : Array Slot), lv_has ls 4 [(0, .long x0), (2, .int x2), (3, .int (0 : Int32))] → cf_X4_setInRoots_s4_0  x0 x2 = R → W p l e (headSpec wsX4_setInRoots ({ frames := 0, cells := 0, slots := 0, locals := 0 })).room s m ([.long a0] : List Value).toArray below meth c s.heap [] 0 0 (MQ below (rd_Q (some (.int R))) ([.long a0] : List Value).toArray s 0 0 (fun _ => False)) (F0 m 4 ls []) := by
    intro x0 x2 ls hl hR
    unfold cf_X4_setInRoots_s4_0 at hR
    refine lv_iload_n hx hb dX4_setInRoots_4 rfl (lv_at hl 2 rfl) ?_
    refine lv_iconst (v := (3 : Int32)) hx hb dX4_setInRoots_5 (by decide +kernel) ?_
    refine lv_icmp_ge (tgt := 32) hx hb dX4_setInRoots_6 (by decide) (fun c_0 => absurd c_0 (by decide +kernel)) (fun _ => ?_)
    refine lv_iload_n hx hb dX4_setInRoots_9 rfl (lv_at hl 1 rfl) ?_
    refine lv_iconst (v := (1 : Int32)) hx hb dX4_setInRoots_10 (by decide +kernel) ?_
    refine lv_lload_n hx hb dX4_setInRoots_11 rfl (lv_at hl 0 rfl) ?_
    refine lv_bipush (v := (24 : Int32)) hx hb dX4_setInRoots_12 (by decide +kernel) ?_
    refine lv_iconst (v := (3 : Int32)) hx hb dX4_setInRoots_14 (by decide +kernel) ?_
    refine lv_iload_n hx hb dX4_setInRoots_15 rfl (lv_at hl 2 rfl) ?_
    refine lv_imul hx hb dX4_setInRoots_16 ?_
    refine lv_iadd hx hb dX4_setInRoots_17 ?_
    refine lv_lushr (v := (jl_ushr x0 ((24 : Int32) + ((3 : Int32) * (0 : Int32))))) hx hb dX4_setInRoots_18 rfl ?_
    refine lv_l2i (v := ((jl_ushr x0 ((24 : Int32) + ((3 : Int32) * (0 : Int32)))).toInt32)) hx hb dX4_setInRoots_19 rfl ?_
    refine lv_bipush (v := (7 : Int32)) hx hb dX4_setInRoots_20 (by decide +kernel) ?_
    refine lv_iand hx hb dX4_setInRoots_22 ?_
    refine lv_ishl hx hb dX4_setInRoots_23 ?_
    refine lv_ior hx hb dX4_setInRoots_24 ?_
    refine lv_istore_n (lv' := [(2, .int (x2 ||| ((1 : Int32) <<< ((((jl_ushr x0 ((24 : Int32) + ((3 : Int32) * (0 : Int32)))).toInt32) &&& (7 : Int32)) &&& 31)))), (0, .long x0), (3, .int (0 : Int32))]) hx hb dX4_setInRoots_25 rfl hl (by decide) rfl (fun ls hl => ?_)
    refine lv_iinc (v := (1 : Int32)) (lv' := [(3, .int (1 : Int32)), (2, .int (x2 ||| ((1 : Int32) <<< ((((jl_ushr x0 ((24 : Int32) + ((3 : Int32) * (0 : Int32)))).toInt32) &&& (7 : Int32)) &&& 31)))), (0, .long x0)]) hx hb dX4_setInRoots_26 hl (k := 2) rfl (by decide +kernel) (by decide) rfl (fun ls hl => ?_)
    refine lv_goto (tgt := 4) hx hb dX4_setInRoots_29 (by decide) ?_
    exact K4_1 x0 (x2 ||| ((1 : Int32) <<< ((((jl_ushr x0 ((24 : Int32) + ((3 : Int32) * (0 : Int32)))).toInt32) &&& (7 : Int32)) &&& 31))) ls (lv_sub hl [2, 1, 0] rfl) hR
  have hl := lv_entry ([.long a0]) (n := 4) (Nat.le_of_ble_eq_true rfl)
  rw [lg_entry_eq]
  generalize (lg_sl ([.long a0]) ++ List.replicate (4 - (lg_sl ([.long a0])).length) Slot.unset).toArray = ls at hl ⊢
  have hl : lv_has ls 4 [(0, .long a0)] := hl
  unfold cf_X4_setInRoots at hR
  refine lv_iconst (v := (0 : Int32)) hx hb dX4_setInRoots_0 (by decide +kernel) ?_
  refine lv_istore_n (lv' := [(2, .int (0 : Int32)), (0, .long a0)]) hx hb dX4_setInRoots_1 rfl hl (by decide) rfl (fun ls hl => ?_)
  refine lv_iconst (v := (0 : Int32)) hx hb dX4_setInRoots_2 (by decide +kernel) ?_
  refine lv_istore_n (lv' := [(3, .int (0 : Int32)), (2, .int (0 : Int32)), (0, .long a0)]) hx hb dX4_setInRoots_3 rfl hl (by decide) rfl (fun ls hl => ?_)
  exact K4_0 a0 (0 : Int32) ls (lv_sub hl [2, 1, 0] rfl) hR
def cf_X4_setInFields_s5_4  (x0 : Int64) (x2 : Int32) (x3 : Int32) : Int32 :=
  (ji_ushr x3 (1 : Int32))
def cf_X4_setInFields_s50_3  (x0 : Int64) (x2 : Int32) (x3 : Int32) : Int32 :=
  cf_X4_setInFields_s5_4  x0 x2 x3
def cf_X4_setInFields_s5_3  (x0 : Int64) (x2 : Int32) (x3 : Int32) : Int32 :=
  (if ((ji_ushr x2 (3 : Int32)) &&& (1 : Int32)) = 0 then cf_X4_setInFields_s50_3  x0 x2 x3 else cf_X4_setInFields_s50_3  x0 x2 (x3 ||| (((1 : Int32) <<< (((((jl_ushr x0 ((6 : Int32) * (3 : Int32))).toInt32) &&& (63 : Int32)) &&& (7 : Int32)) &&& 31)) ||| ((1 : Int32) <<< ((ji_ushr (((jl_ushr x0 ((6 : Int32) * (3 : Int32))).toInt32) &&& (63 : Int32)) (3 : Int32)) &&& 31)))))
def cf_X4_setInFields_s50_2  (x0 : Int64) (x2 : Int32) (x3 : Int32) : Int32 :=
  cf_X4_setInFields_s5_3  x0 x2 x3
def cf_X4_setInFields_s5_2  (x0 : Int64) (x2 : Int32) (x3 : Int32) : Int32 :=
  (if ((ji_ushr x2 (2 : Int32)) &&& (1 : Int32)) = 0 then cf_X4_setInFields_s50_2  x0 x2 x3 else cf_X4_setInFields_s50_2  x0 x2 (x3 ||| (((1 : Int32) <<< (((((jl_ushr x0 ((6 : Int32) * (2 : Int32))).toInt32) &&& (63 : Int32)) &&& (7 : Int32)) &&& 31)) ||| ((1 : Int32) <<< ((ji_ushr (((jl_ushr x0 ((6 : Int32) * (2 : Int32))).toInt32) &&& (63 : Int32)) (3 : Int32)) &&& 31)))))
def cf_X4_setInFields_s50_1  (x0 : Int64) (x2 : Int32) (x3 : Int32) : Int32 :=
  cf_X4_setInFields_s5_2  x0 x2 x3
def cf_X4_setInFields_s5_1  (x0 : Int64) (x2 : Int32) (x3 : Int32) : Int32 :=
  (if ((ji_ushr x2 (1 : Int32)) &&& (1 : Int32)) = 0 then cf_X4_setInFields_s50_1  x0 x2 x3 else cf_X4_setInFields_s50_1  x0 x2 (x3 ||| (((1 : Int32) <<< (((((jl_ushr x0 ((6 : Int32) * (1 : Int32))).toInt32) &&& (63 : Int32)) &&& (7 : Int32)) &&& 31)) ||| ((1 : Int32) <<< ((ji_ushr (((jl_ushr x0 ((6 : Int32) * (1 : Int32))).toInt32) &&& (63 : Int32)) (3 : Int32)) &&& 31)))))
def cf_X4_setInFields_s50_0  (x0 : Int64) (x2 : Int32) (x3 : Int32) : Int32 :=
  cf_X4_setInFields_s5_1  x0 x2 x3
def cf_X4_setInFields_s5_0  (x0 : Int64) (x2 : Int32) (x3 : Int32) : Int32 :=
  (if ((ji_ushr x2 (0 : Int32)) &&& (1 : Int32)) = 0 then cf_X4_setInFields_s50_0  x0 x2 x3 else cf_X4_setInFields_s50_0  x0 x2 (x3 ||| (((1 : Int32) <<< (((((jl_ushr x0 ((6 : Int32) * (0 : Int32))).toInt32) &&& (63 : Int32)) &&& (7 : Int32)) &&& 31)) ||| ((1 : Int32) <<< ((ji_ushr (((jl_ushr x0 ((6 : Int32) * (0 : Int32))).toInt32) &&& (63 : Int32)) (3 : Int32)) &&& 31)))))
def cf_X4_setInFields  (a0 : Int64) (a1 : Int32) : Int32 :=
  cf_X4_setInFields_s5_0  a0 a1 (0 : Int32)
set_option maxHeartbeats 4000000 in
set_option maxRecDepth 100000 in
theorem c_X4_setInFields (l : Launch)  (a0 : Int64) (a1 : Int32)  : Met l yX4_setInFields wsX4_setInFields ({ frames := 0, cells := 0, slots := 0, locals := 0 }) (pu_P [.long a0, .int a1]) (rd_Q (some (.int (cf_X4_setInFields  a0 a1)))) 0 0 (fun _ => False) := by
  refine Met.ofW (cc := cX4_setInFields) (maxL := 6) (ret := (some .int)) (by decide) rfl ?_
  intro p e s m args below meth c s₁ B hml hv
  obtain rfl := hv
  have hx := B.exec
  have hb := B.bytes
  have hr := B.returns
  have hts := atoms_spec (ws := wsX4_setInFields) B.pre
  have hown : s.vm.findClass RX4 = some m.cls := findClass_of_methodNamed B.named
  have hlocks := B.notSynchronized
  generalize hR : cf_X4_setInFields  a0 a1 = R
  have K5_4 : ∀ (x0 : Int64) (x2 : Int32) (x3 : Int32) (ls : Array Slot), lv_has ls 6 [(0, .long x0), (2, .int x2), (3, .int x3), (4, .int (4 : Int32))] → cf_X4_setInFields_s5_4  x0 x2 x3 = R → W p l e (headSpec wsX4_setInFields ({ frames := 0, cells := 0, slots := 0, locals := 0 })).room s m ([.long a0, .int a1] : List Value).toArray below meth c s.heap [] 0 0 (MQ below (rd_Q (some (.int R))) ([.long a0, .int a1] : List Value).toArray s 0 0 (fun _ => False)) (F0 m 5 ls []) := by
    intro x0 x2 x3 ls hl hR
    unfold cf_X4_setInFields_s5_4 at hR
    refine lv_iload hx hb dX4_setInFields_5 (lv_at hl 3 rfl) ?_
    refine lv_iconst (v := (4 : Int32)) hx hb dX4_setInFields_7 (by decide +kernel) ?_
    refine lv_icmp_ge (tgt := 56) hx hb dX4_setInFields_8 (by decide) (fun _ => ?_) (fun c_0 => absurd c_0 (by decide +kernel))
    refine lv_iload_n hx hb dX4_setInFields_56 rfl (lv_at hl 2 rfl) ?_
    refine lv_iconst (v := (1 : Int32)) hx hb dX4_setInFields_57 (by decide +kernel) ?_
    refine lv_iushr (v := (ji_ushr x3 (1 : Int32))) hx hb dX4_setInFields_58 rfl ?_
    exact W.iret (v := (ji_ushr x3 (1 : Int32))) hx hb hr (fun t ht _ => ⟨congrArg (fun z => Outcome.returned (some (Value.int z))) hR, ht⟩) t_nil dX4_setInFields_59
  have K50_3 : ∀ (x0 : Int64) (x2 : Int32) (x3 : Int32) (ls : Array Slot), lv_has ls 6 [(0, .long x0), (2, .int x2), (3, .int x3), (4, .int (3 : Int32))] → cf_X4_setInFields_s50_3  x0 x2 x3 = R → W p l e (headSpec wsX4_setInFields ({ frames := 0, cells := 0, slots := 0, locals := 0 })).room s m ([.long a0, .int a1] : List Value).toArray below meth c s.heap [] 0 0 (MQ below (rd_Q (some (.int R))) ([.long a0, .int a1] : List Value).toArray s 0 0 (fun _ => False)) (F0 m 50 ls []) := by
    intro x0 x2 x3 ls hl hR
    unfold cf_X4_setInFields_s50_3 at hR
    refine lv_iinc (v := (4 : Int32)) (lv' := [(4, .int (4 : Int32)), (0, .long x0), (2, .int x2), (3, .int x3)]) hx hb dX4_setInFields_50 hl (k := 3) rfl (by decide +kernel) (by decide) rfl (fun ls hl => ?_)
    refine lv_goto (tgt := 5) hx hb dX4_setInFields_53 (by decide) ?_
    exact K5_4 x0 x2 x3 ls (lv_sub hl [1, 2, 3, 0] rfl) hR
  have K5_3 : ∀ (x0 : Int64) (x2 : Int32) (x3 : Int32) (ls : Array Slot), lv_has ls 6 [(0, .long x0), (2, .int x2), (3, .int x3), (4, .int (3 : Int32))] → cf_X4_setInFields_s5_3  x0 x2 x3 = R → W p l e (headSpec wsX4_setInFields ({ frames := 0, cells := 0, slots := 0, locals := 0 })).room s m ([.long a0, .int a1] : List Value).toArray below meth c s.heap [] 0 0 (MQ below (rd_Q (some (.int R))) ([.long a0, .int a1] : List Value).toArray s 0 0 (fun _ => False)) (F0 m 5 ls []) := by
    intro x0 x2 x3 ls hl hR
    unfold cf_X4_setInFields_s5_3 at hR
    refine lv_iload hx hb dX4_setInFields_5 (lv_at hl 3 rfl) ?_
    refine lv_iconst (v := (4 : Int32)) hx hb dX4_setInFields_7 (by decide +kernel) ?_
    refine lv_icmp_ge (tgt := 56) hx hb dX4_setInFields_8 (by decide) (fun c_0 => absurd c_0 (by decide +kernel)) (fun _ => ?_)
    refine lv_iload_n hx hb dX4_setInFields_11 rfl (lv_at hl 1 rfl) ?_
    refine lv_iload hx hb dX4_setInFields_12 (lv_at hl 3 rfl) ?_
    refine lv_iushr (v := (ji_ushr x2 (3 : Int32))) hx hb dX4_setInFields_14 rfl ?_
    refine lv_iconst (v := (1 : Int32)) hx hb dX4_setInFields_15 (by decide +kernel) ?_
    refine lv_iand hx hb dX4_setInFields_16 ?_
    refine lv_if_eq (tgt := 50) hx hb dX4_setInFields_17 (by decide) (fun c_4 => ?_) (fun c_4 => ?_)
    · rw [if_pos c_4] at hR
      exact K50_3 x0 x2 x3 ls (lv_sub hl [0, 1, 2, 3] rfl) hR
    · rw [if_neg c_4] at hR
      refine lv_lload_n hx hb dX4_setInFields_20 rfl (lv_at hl 0 rfl) ?_
      refine lv_bipush (v := (6 : Int32)) hx hb dX4_setInFields_21 (by decide +kernel) ?_
      refine lv_iload hx hb dX4_setInFields_23 (lv_at hl 3 rfl) ?_
      refine lv_imul hx hb dX4_setInFields_25 ?_
      refine lv_lushr (v := (jl_ushr x0 ((6 : Int32) * (3 : Int32)))) hx hb dX4_setInFields_26 rfl ?_
      refine lv_l2i (v := ((jl_ushr x0 ((6 : Int32) * (3 : Int32))).toInt32)) hx hb dX4_setInFields_27 rfl ?_
      refine lv_bipush (v := (63 : Int32)) hx hb dX4_setInFields_28 (by decide +kernel) ?_
      refine lv_iand hx hb dX4_setInFields_30 ?_
      refine lv_istore (lv' := [(5, .int (((jl_ushr x0 ((6 : Int32) * (3 : Int32))).toInt32) &&& (63 : Int32))), (0, .long x0), (2, .int x2), (3, .int x3), (4, .int (3 : Int32))]) hx hb dX4_setInFields_31 hl (by decide) rfl (fun ls hl => ?_)
      refine lv_iload_n hx hb dX4_setInFields_33 rfl (lv_at hl 3 rfl) ?_
      refine lv_iconst (v := (1 : Int32)) hx hb dX4_setInFields_34 (by decide +kernel) ?_
      refine lv_iload hx hb dX4_setInFields_35 (lv_at hl 0 rfl) ?_
      refine lv_bipush (v := (7 : Int32)) hx hb dX4_setInFields_37 (by decide +kernel) ?_
      refine lv_iand hx hb dX4_setInFields_39 ?_
      refine lv_ishl hx hb dX4_setInFields_40 ?_
      refine lv_iconst (v := (1 : Int32)) hx hb dX4_setInFields_41 (by decide +kernel) ?_
      refine lv_iload hx hb dX4_setInFields_42 (lv_at hl 0 rfl) ?_
      refine lv_iconst (v := (3 : Int32)) hx hb dX4_setInFields_44 (by decide +kernel) ?_
      refine lv_iushr (v := (ji_ushr (((jl_ushr x0 ((6 : Int32) * (3 : Int32))).toInt32) &&& (63 : Int32)) (3 : Int32))) hx hb dX4_setInFields_45 rfl ?_
      refine lv_ishl hx hb dX4_setInFields_46 ?_
      refine lv_ior hx hb dX4_setInFields_47 ?_
      refine lv_ior hx hb dX4_setInFields_48 ?_
      refine lv_istore_n (lv' := [(3, .int (x3 ||| (((1 : Int32) <<< (((((jl_ushr x0 ((6 : Int32) * (3 : Int32))).toInt32) &&& (63 : Int32)) &&& (7 : Int32)) &&& 31)) ||| ((1 : Int32) <<< ((ji_ushr (((jl_ushr x0 ((6 : Int32) * (3 : Int32))).toInt32) &&& (63 : Int32)) (3 : Int32)) &&& 31))))), (5, .int (((jl_ushr x0 ((6 : Int32) * (3 : Int32))).toInt32) &&& (63 : Int32))), (0, .long x0), (2, .int x2), (4, .int (3 : Int32))]) hx hb dX4_setInFields_49 rfl hl (by decide) rfl (fun ls hl => ?_)
      exact K50_3 x0 x2 (x3 ||| (((1 : Int32) <<< (((((jl_ushr x0 ((6 : Int32) * (3 : Int32))).toInt32) &&& (63 : Int32)) &&& (7 : Int32)) &&& 31)) ||| ((1 : Int32) <<< ((ji_ushr (((jl_ushr x0 ((6 : Int32) * (3 : Int32))).toInt32) &&& (63 : Int32)) (3 : Int32)) &&& 31)))) ls (lv_sub hl [2, 3, 0, 4] rfl) hR
  have K50_2 : ∀ (x0 : Int64) (x2 : Int32) (x3 : Int32) (ls : Array Slot), lv_has ls 6 [(0, .long x0), (2, .int x2), (3, .int x3), (4, .int (2 : Int32))] → cf_X4_setInFields_s50_2  x0 x2 x3 = R → W p l e (headSpec wsX4_setInFields ({ frames := 0, cells := 0, slots := 0, locals := 0 })).room s m ([.long a0, .int a1] : List Value).toArray below meth c s.heap [] 0 0 (MQ below (rd_Q (some (.int R))) ([.long a0, .int a1] : List Value).toArray s 0 0 (fun _ => False)) (F0 m 50 ls []) := by
    intro x0 x2 x3 ls hl hR
    unfold cf_X4_setInFields_s50_2 at hR
    refine lv_iinc (v := (3 : Int32)) (lv' := [(4, .int (3 : Int32)), (0, .long x0), (2, .int x2), (3, .int x3)]) hx hb dX4_setInFields_50 hl (k := 3) rfl (by decide +kernel) (by decide) rfl (fun ls hl => ?_)
    refine lv_goto (tgt := 5) hx hb dX4_setInFields_53 (by decide) ?_
    exact K5_3 x0 x2 x3 ls (lv_sub hl [1, 2, 3, 0] rfl) hR
  have K5_2 : ∀ (x0 : Int64) (x2 : Int32) (x3 : Int32) (ls : Array Slot), lv_has ls 6 [(0, .long x0), (2, .int x2), (3, .int x3), (4, .int (2 : Int32))] → cf_X4_setInFields_s5_2  x0 x2 x3 = R → W p l e (headSpec wsX4_setInFields ({ frames := 0, cells := 0, slots := 0, locals := 0 })).room s m ([.long a0, .int a1] : List Value).toArray below meth c s.heap [] 0 0 (MQ below (rd_Q (some (.int R))) ([.long a0, .int a1] : List Value).toArray s 0 0 (fun _ => False)) (F0 m 5 ls []) := by
    intro x0 x2 x3 ls hl hR
    unfold cf_X4_setInFields_s5_2 at hR
    refine lv_iload hx hb dX4_setInFields_5 (lv_at hl 3 rfl) ?_
    refine lv_iconst (v := (4 : Int32)) hx hb dX4_setInFields_7 (by decide +kernel) ?_
    refine lv_icmp_ge (tgt := 56) hx hb dX4_setInFields_8 (by decide) (fun c_0 => absurd c_0 (by decide +kernel)) (fun _ => ?_)
    refine lv_iload_n hx hb dX4_setInFields_11 rfl (lv_at hl 1 rfl) ?_
    refine lv_iload hx hb dX4_setInFields_12 (lv_at hl 3 rfl) ?_
    refine lv_iushr (v := (ji_ushr x2 (2 : Int32))) hx hb dX4_setInFields_14 rfl ?_
    refine lv_iconst (v := (1 : Int32)) hx hb dX4_setInFields_15 (by decide +kernel) ?_
    refine lv_iand hx hb dX4_setInFields_16 ?_
    refine lv_if_eq (tgt := 50) hx hb dX4_setInFields_17 (by decide) (fun c_3 => ?_) (fun c_3 => ?_)
    · rw [if_pos c_3] at hR
      exact K50_2 x0 x2 x3 ls (lv_sub hl [0, 1, 2, 3] rfl) hR
    · rw [if_neg c_3] at hR
      refine lv_lload_n hx hb dX4_setInFields_20 rfl (lv_at hl 0 rfl) ?_
      refine lv_bipush (v := (6 : Int32)) hx hb dX4_setInFields_21 (by decide +kernel) ?_
      refine lv_iload hx hb dX4_setInFields_23 (lv_at hl 3 rfl) ?_
      refine lv_imul hx hb dX4_setInFields_25 ?_
      refine lv_lushr (v := (jl_ushr x0 ((6 : Int32) * (2 : Int32)))) hx hb dX4_setInFields_26 rfl ?_
      refine lv_l2i (v := ((jl_ushr x0 ((6 : Int32) * (2 : Int32))).toInt32)) hx hb dX4_setInFields_27 rfl ?_
      refine lv_bipush (v := (63 : Int32)) hx hb dX4_setInFields_28 (by decide +kernel) ?_
      refine lv_iand hx hb dX4_setInFields_30 ?_
      refine lv_istore (lv' := [(5, .int (((jl_ushr x0 ((6 : Int32) * (2 : Int32))).toInt32) &&& (63 : Int32))), (0, .long x0), (2, .int x2), (3, .int x3), (4, .int (2 : Int32))]) hx hb dX4_setInFields_31 hl (by decide) rfl (fun ls hl => ?_)
      refine lv_iload_n hx hb dX4_setInFields_33 rfl (lv_at hl 3 rfl) ?_
      refine lv_iconst (v := (1 : Int32)) hx hb dX4_setInFields_34 (by decide +kernel) ?_
      refine lv_iload hx hb dX4_setInFields_35 (lv_at hl 0 rfl) ?_
      refine lv_bipush (v := (7 : Int32)) hx hb dX4_setInFields_37 (by decide +kernel) ?_
      refine lv_iand hx hb dX4_setInFields_39 ?_
      refine lv_ishl hx hb dX4_setInFields_40 ?_
      refine lv_iconst (v := (1 : Int32)) hx hb dX4_setInFields_41 (by decide +kernel) ?_
      refine lv_iload hx hb dX4_setInFields_42 (lv_at hl 0 rfl) ?_
      refine lv_iconst (v := (3 : Int32)) hx hb dX4_setInFields_44 (by decide +kernel) ?_
      refine lv_iushr (v := (ji_ushr (((jl_ushr x0 ((6 : Int32) * (2 : Int32))).toInt32) &&& (63 : Int32)) (3 : Int32))) hx hb dX4_setInFields_45 rfl ?_
      refine lv_ishl hx hb dX4_setInFields_46 ?_
      refine lv_ior hx hb dX4_setInFields_47 ?_
      refine lv_ior hx hb dX4_setInFields_48 ?_
      refine lv_istore_n (lv' := [(3, .int (x3 ||| (((1 : Int32) <<< (((((jl_ushr x0 ((6 : Int32) * (2 : Int32))).toInt32) &&& (63 : Int32)) &&& (7 : Int32)) &&& 31)) ||| ((1 : Int32) <<< ((ji_ushr (((jl_ushr x0 ((6 : Int32) * (2 : Int32))).toInt32) &&& (63 : Int32)) (3 : Int32)) &&& 31))))), (5, .int (((jl_ushr x0 ((6 : Int32) * (2 : Int32))).toInt32) &&& (63 : Int32))), (0, .long x0), (2, .int x2), (4, .int (2 : Int32))]) hx hb dX4_setInFields_49 rfl hl (by decide) rfl (fun ls hl => ?_)
      exact K50_2 x0 x2 (x3 ||| (((1 : Int32) <<< (((((jl_ushr x0 ((6 : Int32) * (2 : Int32))).toInt32) &&& (63 : Int32)) &&& (7 : Int32)) &&& 31)) ||| ((1 : Int32) <<< ((ji_ushr (((jl_ushr x0 ((6 : Int32) * (2 : Int32))).toInt32) &&& (63 : Int32)) (3 : Int32)) &&& 31)))) ls (lv_sub hl [2, 3, 0, 4] rfl) hR
  have K50_1 : ∀ (x0 : Int64) (x2 : Int32) (x3 : Int32) (ls : Array Slot), lv_has ls 6 [(0, .long x0), (2, .int x2), (3, .int x3), (4, .int (1 : Int32))] → cf_X4_setInFields_s50_1  x0 x2 x3 = R → W p l e (headSpec wsX4_setInFields ({ frames := 0, cells := 0, slots := 0, locals := 0 })).room s m ([.long a0, .int a1] : List Value).toArray below meth c s.heap [] 0 0 (MQ below (rd_Q (some (.int R))) ([.long a0, .int a1] : List Value).toArray s 0 0 (fun _ => False)) (F0 m 50 ls []) := by
    intro x0 x2 x3 ls hl hR
    unfold cf_X4_setInFields_s50_1 at hR
    refine lv_iinc (v := (2 : Int32)) (lv' := [(4, .int (2 : Int32)), (0, .long x0), (2, .int x2), (3, .int x3)]) hx hb dX4_setInFields_50 hl (k := 3) rfl (by decide +kernel) (by decide) rfl (fun ls hl => ?_)
    refine lv_goto (tgt := 5) hx hb dX4_setInFields_53 (by decide) ?_
    exact K5_2 x0 x2 x3 ls (lv_sub hl [1, 2, 3, 0] rfl) hR
  have K5_1 : ∀ (x0 : Int64) (x2 : Int32) (x3 : Int32) (ls : Array Slot), lv_has ls 6 [(0, .long x0), (2, .int x2), (3, .int x3), (4, .int (1 : Int32))] → cf_X4_setInFields_s5_1  x0 x2 x3 = R → W p l e (headSpec wsX4_setInFields ({ frames := 0, cells := 0, slots := 0, locals := 0 })).room s m ([.long a0, .int a1] : List Value).toArray below meth c s.heap [] 0 0 (MQ below (rd_Q (some (.int R))) ([.long a0, .int a1] : List Value).toArray s 0 0 (fun _ => False)) (F0 m 5 ls []) := by
    intro x0 x2 x3 ls hl hR
    unfold cf_X4_setInFields_s5_1 at hR
    refine lv_iload hx hb dX4_setInFields_5 (lv_at hl 3 rfl) ?_
    refine lv_iconst (v := (4 : Int32)) hx hb dX4_setInFields_7 (by decide +kernel) ?_
    refine lv_icmp_ge (tgt := 56) hx hb dX4_setInFields_8 (by decide) (fun c_0 => absurd c_0 (by decide +kernel)) (fun _ => ?_)
    refine lv_iload_n hx hb dX4_setInFields_11 rfl (lv_at hl 1 rfl) ?_
    refine lv_iload hx hb dX4_setInFields_12 (lv_at hl 3 rfl) ?_
    refine lv_iushr (v := (ji_ushr x2 (1 : Int32))) hx hb dX4_setInFields_14 rfl ?_
    refine lv_iconst (v := (1 : Int32)) hx hb dX4_setInFields_15 (by decide +kernel) ?_
    refine lv_iand hx hb dX4_setInFields_16 ?_
    refine lv_if_eq (tgt := 50) hx hb dX4_setInFields_17 (by decide) (fun c_2 => ?_) (fun c_2 => ?_)
    · rw [if_pos c_2] at hR
      exact K50_1 x0 x2 x3 ls (lv_sub hl [0, 1, 2, 3] rfl) hR
    · rw [if_neg c_2] at hR
      refine lv_lload_n hx hb dX4_setInFields_20 rfl (lv_at hl 0 rfl) ?_
      refine lv_bipush (v := (6 : Int32)) hx hb dX4_setInFields_21 (by decide +kernel) ?_
      refine lv_iload hx hb dX4_setInFields_23 (lv_at hl 3 rfl) ?_
      refine lv_imul hx hb dX4_setInFields_25 ?_
      refine lv_lushr (v := (jl_ushr x0 ((6 : Int32) * (1 : Int32)))) hx hb dX4_setInFields_26 rfl ?_
      refine lv_l2i (v := ((jl_ushr x0 ((6 : Int32) * (1 : Int32))).toInt32)) hx hb dX4_setInFields_27 rfl ?_
      refine lv_bipush (v := (63 : Int32)) hx hb dX4_setInFields_28 (by decide +kernel) ?_
      refine lv_iand hx hb dX4_setInFields_30 ?_
      refine lv_istore (lv' := [(5, .int (((jl_ushr x0 ((6 : Int32) * (1 : Int32))).toInt32) &&& (63 : Int32))), (0, .long x0), (2, .int x2), (3, .int x3), (4, .int (1 : Int32))]) hx hb dX4_setInFields_31 hl (by decide) rfl (fun ls hl => ?_)
      refine lv_iload_n hx hb dX4_setInFields_33 rfl (lv_at hl 3 rfl) ?_
      refine lv_iconst (v := (1 : Int32)) hx hb dX4_setInFields_34 (by decide +kernel) ?_
      refine lv_iload hx hb dX4_setInFields_35 (lv_at hl 0 rfl) ?_
      refine lv_bipush (v := (7 : Int32)) hx hb dX4_setInFields_37 (by decide +kernel) ?_
      refine lv_iand hx hb dX4_setInFields_39 ?_
      refine lv_ishl hx hb dX4_setInFields_40 ?_
      refine lv_iconst (v := (1 : Int32)) hx hb dX4_setInFields_41 (by decide +kernel) ?_
      refine lv_iload hx hb dX4_setInFields_42 (lv_at hl 0 rfl) ?_
      refine lv_iconst (v := (3 : Int32)) hx hb dX4_setInFields_44 (by decide +kernel) ?_
      refine lv_iushr (v := (ji_ushr (((jl_ushr x0 ((6 : Int32) * (1 : Int32))).toInt32) &&& (63 : Int32)) (3 : Int32))) hx hb dX4_setInFields_45 rfl ?_
      refine lv_ishl hx hb dX4_setInFields_46 ?_
      refine lv_ior hx hb dX4_setInFields_47 ?_
      refine lv_ior hx hb dX4_setInFields_48 ?_
      refine lv_istore_n (lv' := [(3, .int (x3 ||| (((1 : Int32) <<< (((((jl_ushr x0 ((6 : Int32) * (1 : Int32))).toInt32) &&& (63 : Int32)) &&& (7 : Int32)) &&& 31)) ||| ((1 : Int32) <<< ((ji_ushr (((jl_ushr x0 ((6 : Int32) * (1 : Int32))).toInt32) &&& (63 : Int32)) (3 : Int32)) &&& 31))))), (5, .int (((jl_ushr x0 ((6 : Int32) * (1 : Int32))).toInt32) &&& (63 : Int32))), (0, .long x0), (2, .int x2), (4, .int (1 : Int32))]) hx hb dX4_setInFields_49 rfl hl (by decide) rfl (fun ls hl => ?_)
      exact K50_1 x0 x2 (x3 ||| (((1 : Int32) <<< (((((jl_ushr x0 ((6 : Int32) * (1 : Int32))).toInt32) &&& (63 : Int32)) &&& (7 : Int32)) &&& 31)) ||| ((1 : Int32) <<< ((ji_ushr (((jl_ushr x0 ((6 : Int32) * (1 : Int32))).toInt32) &&& (63 : Int32)) (3 : Int32)) &&& 31)))) ls (lv_sub hl [2, 3, 0, 4] rfl) hR
  have K50_0 : ∀ (x0 : Int64) (x2 : Int32) (x3 : Int32) (ls : Array Slot), lv_has ls 6 [(0, .long x0), (2, .int x2), (3, .int x3), (4, .int (0 : Int32))] → cf_X4_setInFields_s50_0  x0 x2 x3 = R → W p l e (headSpec wsX4_setInFields ({ frames := 0, cells := 0, slots := 0, locals := 0 })).room s m ([.long a0, .int a1] : List Value).toArray below meth c s.heap [] 0 0 (MQ below (rd_Q (some (.int R))) ([.long a0, .int a1] : List Value).toArray s 0 0 (fun _ => False)) (F0 m 50 ls []) := by
    intro x0 x2 x3 ls hl hR
    unfold cf_X4_setInFields_s50_0 at hR
    refine lv_iinc (v := (1 : Int32)) (lv' := [(4, .int (1 : Int32)), (0, .long x0), (2, .int x2), (3, .int x3)]) hx hb dX4_setInFields_50 hl (k := 3) rfl (by decide +kernel) (by decide) rfl (fun ls hl => ?_)
    refine lv_goto (tgt := 5) hx hb dX4_setInFields_53 (by decide) ?_
    exact K5_1 x0 x2 x3 ls (lv_sub hl [1, 2, 3, 0] rfl) hR
  have K5_0 : ∀ (x0 : Int64) (x2 : Int32) (x3 : Int32) (ls : Array Slot), lv_has ls 6 [(0, .long x0), (2, .int x2), (3, .int x3), (4, .int (0 : Int32))] → cf_X4_setInFields_s5_0  x0 x2 x3 = R → W p l e (headSpec wsX4_setInFields ({ frames := 0, cells := 0, slots := 0, locals := 0 })).room s m ([.long a0, .int a1] : List Value).toArray below meth c s.heap [] 0 0 (MQ below (rd_Q (some (.int R))) ([.long a0, .int a1] : List Value).toArray s 0 0 (fun _ => False)) (F0 m 5 ls []) := by
    intro x0 x2 x3 ls hl hR
    unfold cf_X4_setInFields_s5_0 at hR
    refine lv_iload hx hb dX4_setInFields_5 (lv_at hl 3 rfl) ?_
    refine lv_iconst (v := (4 : Int32)) hx hb dX4_setInFields_7 (by decide +kernel) ?_
    refine lv_icmp_ge (tgt := 56) hx hb dX4_setInFields_8 (by decide) (fun c_0 => absurd c_0 (by decide +kernel)) (fun _ => ?_)
    refine lv_iload_n hx hb dX4_setInFields_11 rfl (lv_at hl 1 rfl) ?_
    refine lv_iload hx hb dX4_setInFields_12 (lv_at hl 3 rfl) ?_
    refine lv_iushr (v := (ji_ushr x2 (0 : Int32))) hx hb dX4_setInFields_14 rfl ?_
    refine lv_iconst (v := (1 : Int32)) hx hb dX4_setInFields_15 (by decide +kernel) ?_
    refine lv_iand hx hb dX4_setInFields_16 ?_
    refine lv_if_eq (tgt := 50) hx hb dX4_setInFields_17 (by decide) (fun c_1 => ?_) (fun c_1 => ?_)
    · rw [if_pos c_1] at hR
      exact K50_0 x0 x2 x3 ls (lv_sub hl [0, 1, 2, 3] rfl) hR
    · rw [if_neg c_1] at hR
      refine lv_lload_n hx hb dX4_setInFields_20 rfl (lv_at hl 0 rfl) ?_
      refine lv_bipush (v := (6 : Int32)) hx hb dX4_setInFields_21 (by decide +kernel) ?_
      refine lv_iload hx hb dX4_setInFields_23 (lv_at hl 3 rfl) ?_
      refine lv_imul hx hb dX4_setInFields_25 ?_
      refine lv_lushr (v := (jl_ushr x0 ((6 : Int32) * (0 : Int32)))) hx hb dX4_setInFields_26 rfl ?_
      refine lv_l2i (v := ((jl_ushr x0 ((6 : Int32) * (0 : Int32))).toInt32)) hx hb dX4_setInFields_27 rfl ?_
      refine lv_bipush (v := (63 : Int32)) hx hb dX4_setInFields_28 (by decide +kernel) ?_
      refine lv_iand hx hb dX4_setInFields_30 ?_
      refine lv_istore (lv' := [(5, .int (((jl_ushr x0 ((6 : Int32) * (0 : Int32))).toInt32) &&& (63 : Int32))), (0, .long x0), (2, .int x2), (3, .int x3), (4, .int (0 : Int32))]) hx hb dX4_setInFields_31 hl (by decide) rfl (fun ls hl => ?_)
      refine lv_iload_n hx hb dX4_setInFields_33 rfl (lv_at hl 3 rfl) ?_
      refine lv_iconst (v := (1 : Int32)) hx hb dX4_setInFields_34 (by decide +kernel) ?_
      refine lv_iload hx hb dX4_setInFields_35 (lv_at hl 0 rfl) ?_
      refine lv_bipush (v := (7 : Int32)) hx hb dX4_setInFields_37 (by decide +kernel) ?_
      refine lv_iand hx hb dX4_setInFields_39 ?_
      refine lv_ishl hx hb dX4_setInFields_40 ?_
      refine lv_iconst (v := (1 : Int32)) hx hb dX4_setInFields_41 (by decide +kernel) ?_
      refine lv_iload hx hb dX4_setInFields_42 (lv_at hl 0 rfl) ?_
      refine lv_iconst (v := (3 : Int32)) hx hb dX4_setInFields_44 (by decide +kernel) ?_
      refine lv_iushr (v := (ji_ushr (((jl_ushr x0 ((6 : Int32) * (0 : Int32))).toInt32) &&& (63 : Int32)) (3 : Int32))) hx hb dX4_setInFields_45 rfl ?_
      refine lv_ishl hx hb dX4_setInFields_46 ?_
      refine lv_ior hx hb dX4_setInFields_47 ?_
      refine lv_ior hx hb dX4_setInFields_48 ?_
      refine lv_istore_n (lv' := [(3, .int (x3 ||| (((1 : Int32) <<< (((((jl_ushr x0 ((6 : Int32) * (0 : Int32))).toInt32) &&& (63 : Int32)) &&& (7 : Int32)) &&& 31)) ||| ((1 : Int32) <<< ((ji_ushr (((jl_ushr x0 ((6 : Int32) * (0 : Int32))).toInt32) &&& (63 : Int32)) (3 : Int32)) &&& 31))))), (5, .int (((jl_ushr x0 ((6 : Int32) * (0 : Int32))).toInt32) &&& (63 : Int32))), (0, .long x0), (2, .int x2), (4, .int (0 : Int32))]) hx hb dX4_setInFields_49 rfl hl (by decide) rfl (fun ls hl => ?_)
      exact K50_0 x0 x2 (x3 ||| (((1 : Int32) <<< (((((jl_ushr x0 ((6 : Int32) * (0 : Int32))).toInt32) &&& (63 : Int32)) &&& (7 : Int32)) &&& 31)) ||| ((1 : Int32) <<< ((ji_ushr (((jl_ushr x0 ((6 : Int32) * (0 : Int32))).toInt32) &&& (63 : Int32)) (3 : Int32)) &&& 31)))) ls (lv_sub hl [2, 3, 0, 4] rfl) hR
  have hl := lv_entry ([.long a0, .int a1]) (n := 6) (Nat.le_of_ble_eq_true rfl)
  rw [lg_entry_eq]
  generalize (lg_sl ([.long a0, .int a1]) ++ List.replicate (6 - (lg_sl ([.long a0, .int a1])).length) Slot.unset).toArray = ls at hl ⊢
  have hl : lv_has ls 6 [(0, .long a0), (2, .int a1)] := hl
  unfold cf_X4_setInFields at hR
  refine lv_iconst (v := (0 : Int32)) hx hb dX4_setInFields_0 (by decide +kernel) ?_
  refine lv_istore_n (lv' := [(3, .int (0 : Int32)), (0, .long a0), (2, .int a1)]) hx hb dX4_setInFields_1 rfl hl (by decide) rfl (fun ls hl => ?_)
  refine lv_iconst (v := (0 : Int32)) hx hb dX4_setInFields_2 (by decide +kernel) ?_
  refine lv_istore (lv' := [(4, .int (0 : Int32)), (3, .int (0 : Int32)), (0, .long a0), (2, .int a1)]) hx hb dX4_setInFields_3 hl (by decide) rfl (fun ls hl => ?_)
  exact K5_0 a0 a1 (0 : Int32) ls (lv_sub hl [2, 3, 1, 0] rfl) hR
def cf_X4_greys  (a0 : Int64) : Int32 :=
  (((jl_ushr a0 (33 : Int32)).toInt32) &&& (15 : Int32))
set_option maxHeartbeats 4000000 in
set_option maxRecDepth 100000 in
theorem c_X4_greys (l : Launch)  (a0 : Int64)  : Met l yX4_greys wsX4_greys ({ frames := 0, cells := 0, slots := 0, locals := 0 }) (pu_P [.long a0]) (rd_Q (some (.int (cf_X4_greys  a0)))) 0 0 (fun _ => False) := by
  refine Met.ofW (cc := cX4_greys) (maxL := 2) (ret := (some .int)) (by decide) rfl ?_
  intro p e s m args below meth c s₁ B hml hv
  obtain rfl := hv
  have hx := B.exec
  have hb := B.bytes
  have hr := B.returns
  have hts := atoms_spec (ws := wsX4_greys) B.pre
  have hown : s.vm.findClass RX4 = some m.cls := findClass_of_methodNamed B.named
  have hlocks := B.notSynchronized
  generalize hR : cf_X4_greys  a0 = R
  have hl := lv_entry ([.long a0]) (n := 2) (Nat.le_of_ble_eq_true rfl)
  rw [lg_entry_eq]
  generalize (lg_sl ([.long a0]) ++ List.replicate (2 - (lg_sl ([.long a0])).length) Slot.unset).toArray = ls at hl ⊢
  have hl : lv_has ls 2 [(0, .long a0)] := hl
  unfold cf_X4_greys at hR
  refine lv_lload_n hx hb dX4_greys_0 rfl (lv_at hl 0 rfl) ?_
  refine lv_bipush (v := (33 : Int32)) hx hb dX4_greys_1 (by decide +kernel) ?_
  refine lv_lushr (v := (jl_ushr a0 (33 : Int32))) hx hb dX4_greys_3 rfl ?_
  refine lv_l2i (v := ((jl_ushr a0 (33 : Int32)).toInt32)) hx hb dX4_greys_4 rfl ?_
  refine lv_bipush (v := (15 : Int32)) hx hb dX4_greys_5 (by decide +kernel) ?_
  refine lv_iand hx hb dX4_greys_7 ?_
  exact W.iret (v := (((jl_ushr a0 (33 : Int32)).toInt32) &&& (15 : Int32))) hx hb hr (fun t ht _ => ⟨congrArg (fun z => Outcome.returned (some (Value.int z))) hR, ht⟩) t_nil dX4_greys_8
def cf_X4_blacks  (a0 : Int64) : Int32 :=
  (((jl_ushr a0 (37 : Int32)).toInt32) &&& (15 : Int32))
set_option maxHeartbeats 4000000 in
set_option maxRecDepth 100000 in
theorem c_X4_blacks (l : Launch)  (a0 : Int64)  : Met l yX4_blacks wsX4_blacks ({ frames := 0, cells := 0, slots := 0, locals := 0 }) (pu_P [.long a0]) (rd_Q (some (.int (cf_X4_blacks  a0)))) 0 0 (fun _ => False) := by
  refine Met.ofW (cc := cX4_blacks) (maxL := 2) (ret := (some .int)) (by decide) rfl ?_
  intro p e s m args below meth c s₁ B hml hv
  obtain rfl := hv
  have hx := B.exec
  have hb := B.bytes
  have hr := B.returns
  have hts := atoms_spec (ws := wsX4_blacks) B.pre
  have hown : s.vm.findClass RX4 = some m.cls := findClass_of_methodNamed B.named
  have hlocks := B.notSynchronized
  generalize hR : cf_X4_blacks  a0 = R
  have hl := lv_entry ([.long a0]) (n := 2) (Nat.le_of_ble_eq_true rfl)
  rw [lg_entry_eq]
  generalize (lg_sl ([.long a0]) ++ List.replicate (2 - (lg_sl ([.long a0])).length) Slot.unset).toArray = ls at hl ⊢
  have hl : lv_has ls 2 [(0, .long a0)] := hl
  unfold cf_X4_blacks at hR
  refine lv_lload_n hx hb dX4_blacks_0 rfl (lv_at hl 0 rfl) ?_
  refine lv_bipush (v := (37 : Int32)) hx hb dX4_blacks_1 (by decide +kernel) ?_
  refine lv_lushr (v := (jl_ushr a0 (37 : Int32))) hx hb dX4_blacks_3 rfl ?_
  refine lv_l2i (v := ((jl_ushr a0 (37 : Int32)).toInt32)) hx hb dX4_blacks_4 rfl ?_
  refine lv_bipush (v := (15 : Int32)) hx hb dX4_blacks_5 (by decide +kernel) ?_
  refine lv_iand hx hb dX4_blacks_7 ?_
  exact W.iret (v := (((jl_ushr a0 (37 : Int32)).toInt32) &&& (15 : Int32))) hx hb hr (fun t ht _ => ⟨congrArg (fun z => Outcome.returned (some (Value.int z))) hR, ht⟩) t_nil dX4_blacks_8
def cf_X4_whites  (a0 : Int64) : Int32 :=
  ((((cf_X4_greys a0) ||| (cf_X4_blacks a0)) ^^^ (-1 : Int32)) &&& (15 : Int32))
set_option maxHeartbeats 4000000 in
set_option maxRecDepth 100000 in
theorem c_X4_whites (l : Launch)  (a0 : Int64)  : Met l yX4_whites wsX4_whites ({ frames := 1, cells := 0, slots := 0, locals := 21 }) (pu_P [.long a0]) (rd_Q (some (.int (cf_X4_whites  a0)))) 0 0 (fun _ => False) := by
  refine Met.ofW (cc := cX4_whites) (maxL := 2) (ret := (some .int)) (by decide) rfl ?_
  intro p e s m args below meth c s₁ B hml hv
  obtain rfl := hv
  have hx := B.exec
  have hb := B.bytes
  have hr := B.returns
  have hts := atoms_spec (ws := wsX4_whites) B.pre
  have hown : s.vm.findClass RX4 = some m.cls := findClass_of_methodNamed B.named
  have hlocks := B.notSynchronized
  generalize hR : cf_X4_whites  a0 = R
  have hl := lv_entry ([.long a0]) (n := 2) (Nat.le_of_ble_eq_true rfl)
  rw [lg_entry_eq]
  generalize (lg_sl ([.long a0]) ++ List.replicate (2 - (lg_sl ([.long a0])).length) Slot.unset).toArray = ls at hl ⊢
  have hl : lv_has ls 2 [(0, .long a0)] := hl
  unfold cf_X4_whites at hR
  refine lv_lload_n hx hb dX4_whites_0 rfl (lv_at hl 0 rfl) ?_
  refine rd_calli (va_runS (As := [.long a0]) (rest := []) ⟨hx, hb, hml, hown, hts⟩ (c_X4_greys l a0) (va_cwS 1 hts gX4_whites_X4_greys rfl rfl rfl (by decide +kernel) ⟨Nat.le_of_ble_eq_true rfl, Nat.le_of_ble_eq_true rfl⟩) ⟨pu_blind, fun U hU hW => rfl⟩ rfl rfl hl.1 rfl (lv_room (Nat.le_of_ble_eq_true rfl)) dX4_whites_1 ⟨Nat.le_refl _, Nat.le_refl _⟩) ?_
  refine lv_lload_n hx hb dX4_whites_4 rfl (lv_at hl 0 rfl) ?_
  refine rd_calli (va_runS (As := [.long a0]) (rest := [.int (cf_X4_greys a0)]) ⟨hx, hb, hml, hown, hts⟩ (c_X4_blacks l a0) (va_cwS 1 hts gX4_whites_X4_blacks rfl rfl rfl (by decide +kernel) ⟨Nat.le_of_ble_eq_true rfl, Nat.le_of_ble_eq_true rfl⟩) ⟨pu_blind, fun U hU hW => rfl⟩ rfl rfl hl.1 rfl (lv_room (Nat.le_of_ble_eq_true rfl)) dX4_whites_5 ⟨Nat.le_refl _, Nat.le_refl _⟩) ?_
  refine lv_ior hx hb dX4_whites_8 ?_
  refine lv_iconst (v := (-1 : Int32)) hx hb dX4_whites_9 (by decide +kernel) ?_
  refine lv_ixor hx hb dX4_whites_10 ?_
  refine lv_bipush (v := (15 : Int32)) hx hb dX4_whites_11 (by decide +kernel) ?_
  refine lv_iand hx hb dX4_whites_13 ?_
  exact W.iret (v := ((((cf_X4_greys a0) ||| (cf_X4_blacks a0)) ^^^ (-1 : Int32)) &&& (15 : Int32))) hx hb hr (fun t ht _ => ⟨congrArg (fun z => Outcome.returned (some (Value.int z))) hR, ht⟩) t_nil dX4_whites_14
def cf_X4_isBlack  (a0 : Int64) (a1 : Int32) : Int32 :=
  (if (lg_cmp ((jl_ushr a0 ((37 : Int32) + a1)) &&& (1 : Int64)) (0 : Int64)) = 0 then (0 : Int32) else (1 : Int32))
set_option maxHeartbeats 4000000 in
set_option maxRecDepth 100000 in
theorem c_X4_isBlack (l : Launch)  (a0 : Int64) (a1 : Int32)  : Met l yX4_isBlack wsX4_isBlack ({ frames := 0, cells := 0, slots := 0, locals := 0 }) (pu_P [.long a0, .int a1]) (rd_Q (some (.int (cf_X4_isBlack  a0 a1)))) 0 0 (fun _ => False) := by
  refine Met.ofW (cc := cX4_isBlack) (maxL := 3) (ret := (some .boolean)) (by decide) rfl ?_
  intro p e s m args below meth c s₁ B hml hv
  obtain rfl := hv
  have hx := B.exec
  have hb := B.bytes
  have hr := B.returns
  have hts := atoms_spec (ws := wsX4_isBlack) B.pre
  have hown : s.vm.findClass RX4 = some m.cls := findClass_of_methodNamed B.named
  have hlocks := B.notSynchronized
  generalize hR : cf_X4_isBlack  a0 a1 = R
  have hl := lv_entry ([.long a0, .int a1]) (n := 3) (Nat.le_of_ble_eq_true rfl)
  rw [lg_entry_eq]
  generalize (lg_sl ([.long a0, .int a1]) ++ List.replicate (3 - (lg_sl ([.long a0, .int a1])).length) Slot.unset).toArray = ls at hl ⊢
  have hl : lv_has ls 3 [(0, .long a0), (2, .int a1)] := hl
  unfold cf_X4_isBlack at hR
  refine lv_lload_n hx hb dX4_isBlack_0 rfl (lv_at hl 0 rfl) ?_
  refine lv_bipush (v := (37 : Int32)) hx hb dX4_isBlack_1 (by decide +kernel) ?_
  refine lv_iload_n hx hb dX4_isBlack_3 rfl (lv_at hl 1 rfl) ?_
  refine lv_iadd hx hb dX4_isBlack_4 ?_
  refine lv_lushr (v := (jl_ushr a0 ((37 : Int32) + a1))) hx hb dX4_isBlack_5 rfl ?_
  refine lv_lconst (v := (1 : Int64)) hx hb dX4_isBlack_6 (by decide +kernel) ?_
  refine lv_land hx hb dX4_isBlack_7 ?_
  refine lv_lconst (v := (0 : Int64)) hx hb dX4_isBlack_8 (by decide +kernel) ?_
  refine W.lcmp hx hb dX4_isBlack_9 ?_
  refine lv_if_eq (tgt := 17) hx hb dX4_isBlack_10 (by decide) (fun c_1 => ?_) (fun c_1 => ?_)
  · rw [if_pos c_1] at hR
    refine lv_iconst (v := (0 : Int32)) hx hb dX4_isBlack_17 (by decide +kernel) ?_
    exact W.zret (ty := .boolean) (v := (0 : Int32)) hx hb hr (by decide +kernel) (fun t ht _ => ⟨congrArg (fun z => Outcome.returned (some (Value.int z))) hR, ht⟩) t_nil dX4_isBlack_18
  · rw [if_neg c_1] at hR
    refine lv_iconst (v := (1 : Int32)) hx hb dX4_isBlack_13 (by decide +kernel) ?_
    refine lv_goto (tgt := 18) hx hb dX4_isBlack_14 (by decide) ?_
    exact W.zret (ty := .boolean) (v := (1 : Int32)) hx hb hr (by decide +kernel) (fun t ht _ => ⟨congrArg (fun z => Outcome.returned (some (Value.int z))) hR, ht⟩) t_nil dX4_isBlack_18
def cf_X4_greyIfWhite  (a0 : Int64) (a1 : Int32) : Int64 :=
  (if a1 = (-1 : Int32) then a0 else (if (lg_cmp (((jl_ushr a0 ((33 : Int32) + a1)) ||| (jl_ushr a0 ((37 : Int32) + a1))) &&& (1 : Int64)) (0 : Int64)) = 0 then (a0 ||| (jl_shl (1 : Int64) ((33 : Int32) + a1))) else a0))
set_option maxHeartbeats 4000000 in
set_option maxRecDepth 100000 in
theorem c_X4_greyIfWhite (l : Launch)  (a0 : Int64) (a1 : Int32)  : Met l yX4_greyIfWhite wsX4_greyIfWhite ({ frames := 0, cells := 0, slots := 0, locals := 0 }) (pu_P [.long a0, .int a1]) (rd_Q (some (.long (cf_X4_greyIfWhite  a0 a1)))) 0 0 (fun _ => False) := by
  refine Met.ofW (cc := cX4_greyIfWhite) (maxL := 5) (ret := (some .long)) (by decide) rfl ?_
  intro p e s m args below meth c s₁ B hml hv
  obtain rfl := hv
  have hx := B.exec
  have hb := B.bytes
  have hr := B.returns
  have hts := atoms_spec (ws := wsX4_greyIfWhite) B.pre
  have hown : s.vm.findClass RX4 = some m.cls := findClass_of_methodNamed B.named
  have hlocks := B.notSynchronized
  generalize hR : cf_X4_greyIfWhite  a0 a1 = R
  have hl := lv_entry ([.long a0, .int a1]) (n := 5) (Nat.le_of_ble_eq_true rfl)
  rw [lg_entry_eq]
  generalize (lg_sl ([.long a0, .int a1]) ++ List.replicate (5 - (lg_sl ([.long a0, .int a1])).length) Slot.unset).toArray = ls at hl ⊢
  have hl : lv_has ls 5 [(0, .long a0), (2, .int a1)] := hl
  unfold cf_X4_greyIfWhite at hR
  refine lv_iload_n hx hb dX4_greyIfWhite_0 rfl (lv_at hl 1 rfl) ?_
  refine lv_iconst (v := (-1 : Int32)) hx hb dX4_greyIfWhite_1 (by decide +kernel) ?_
  refine lv_icmp_ne (tgt := 7) hx hb dX4_greyIfWhite_2 (by decide) (fun c_1 => ?_) (fun c_1 => ?_)
  · rw [if_neg c_1] at hR
    refine lv_lload_n hx hb dX4_greyIfWhite_7 rfl (lv_at hl 0 rfl) ?_
    refine lv_bipush (v := (33 : Int32)) hx hb dX4_greyIfWhite_8 (by decide +kernel) ?_
    refine lv_iload_n hx hb dX4_greyIfWhite_10 rfl (lv_at hl 1 rfl) ?_
    refine lv_iadd hx hb dX4_greyIfWhite_11 ?_
    refine lv_lushr (v := (jl_ushr a0 ((33 : Int32) + a1))) hx hb dX4_greyIfWhite_12 rfl ?_
    refine lv_lload_n hx hb dX4_greyIfWhite_13 rfl (lv_at hl 0 rfl) ?_
    refine lv_bipush (v := (37 : Int32)) hx hb dX4_greyIfWhite_14 (by decide +kernel) ?_
    refine lv_iload_n hx hb dX4_greyIfWhite_16 rfl (lv_at hl 1 rfl) ?_
    refine lv_iadd hx hb dX4_greyIfWhite_17 ?_
    refine lv_lushr (v := (jl_ushr a0 ((37 : Int32) + a1))) hx hb dX4_greyIfWhite_18 rfl ?_
    refine lv_lor hx hb dX4_greyIfWhite_19 ?_
    refine lv_lconst (v := (1 : Int64)) hx hb dX4_greyIfWhite_20 (by decide +kernel) ?_
    refine lv_land hx hb dX4_greyIfWhite_21 ?_
    refine lv_lstore_n (lv' := [(3, .long (((jl_ushr a0 ((33 : Int32) + a1)) ||| (jl_ushr a0 ((37 : Int32) + a1))) &&& (1 : Int64))), (0, .long a0), (2, .int a1)]) hx hb dX4_greyIfWhite_22 rfl hl (by decide) rfl (fun ls hl => ?_)
    refine lv_lload_n hx hb dX4_greyIfWhite_23 rfl (lv_at hl 0 rfl) ?_
    refine lv_lconst (v := (0 : Int64)) hx hb dX4_greyIfWhite_24 (by decide +kernel) ?_
    refine W.lcmp hx hb dX4_greyIfWhite_25 ?_
    refine lv_if_eq (tgt := 33) hx hb dX4_greyIfWhite_26 (by decide) (fun c_2 => ?_) (fun c_2 => ?_)
    · rw [if_pos c_2] at hR
      refine lv_lload_n hx hb dX4_greyIfWhite_33 rfl (lv_at hl 1 rfl) ?_
      refine lv_lconst (v := (1 : Int64)) hx hb dX4_greyIfWhite_34 (by decide +kernel) ?_
      refine lv_bipush (v := (33 : Int32)) hx hb dX4_greyIfWhite_35 (by decide +kernel) ?_
      refine lv_iload_n hx hb dX4_greyIfWhite_37 rfl (lv_at hl 2 rfl) ?_
      refine lv_iadd hx hb dX4_greyIfWhite_38 ?_
      refine lv_lshl (v := (jl_shl (1 : Int64) ((33 : Int32) + a1))) hx hb dX4_greyIfWhite_39 rfl ?_
      refine lv_lor hx hb dX4_greyIfWhite_40 ?_
      exact W.lret (v := (a0 ||| (jl_shl (1 : Int64) ((33 : Int32) + a1)))) hx hb hr (fun t ht _ => ⟨congrArg (fun z => Outcome.returned (some (Value.long z))) hR, ht⟩) t_nil dX4_greyIfWhite_41
    · rw [if_neg c_2] at hR
      refine lv_lload_n hx hb dX4_greyIfWhite_29 rfl (lv_at hl 1 rfl) ?_
      refine lv_goto (tgt := 41) hx hb dX4_greyIfWhite_30 (by decide) ?_
      exact W.lret (v := a0) hx hb hr (fun t ht _ => ⟨congrArg (fun z => Outcome.returned (some (Value.long z))) hR, ht⟩) t_nil dX4_greyIfWhite_41
  · rw [if_pos c_1] at hR
    refine lv_lload_n hx hb dX4_greyIfWhite_5 rfl (lv_at hl 0 rfl) ?_
    exact W.lret (v := a0) hx hb hr (fun t ht _ => ⟨congrArg (fun z => Outcome.returned (some (Value.long z))) hR, ht⟩) t_nil dX4_greyIfWhite_6
def cf_X4_isWhite  (a0 : Int64) (a1 : Int32) : Int32 :=
  (if (lg_cmp (cf_X4_greyIfWhite a0 a1) a0) = 0 then (0 : Int32) else (1 : Int32))
set_option maxHeartbeats 4000000 in
set_option maxRecDepth 100000 in
theorem c_X4_isWhite (l : Launch)  (a0 : Int64) (a1 : Int32)  : Met l yX4_isWhite wsX4_isWhite ({ frames := 1, cells := 0, slots := 0, locals := 24 }) (pu_P [.long a0, .int a1]) (rd_Q (some (.int (cf_X4_isWhite  a0 a1)))) 0 0 (fun _ => False) := by
  refine Met.ofW (cc := cX4_isWhite) (maxL := 3) (ret := (some .boolean)) (by decide) rfl ?_
  intro p e s m args below meth c s₁ B hml hv
  obtain rfl := hv
  have hx := B.exec
  have hb := B.bytes
  have hr := B.returns
  have hts := atoms_spec (ws := wsX4_isWhite) B.pre
  have hown : s.vm.findClass RX4 = some m.cls := findClass_of_methodNamed B.named
  have hlocks := B.notSynchronized
  generalize hR : cf_X4_isWhite  a0 a1 = R
  have hl := lv_entry ([.long a0, .int a1]) (n := 3) (Nat.le_of_ble_eq_true rfl)
  rw [lg_entry_eq]
  generalize (lg_sl ([.long a0, .int a1]) ++ List.replicate (3 - (lg_sl ([.long a0, .int a1])).length) Slot.unset).toArray = ls at hl ⊢
  have hl : lv_has ls 3 [(0, .long a0), (2, .int a1)] := hl
  unfold cf_X4_isWhite at hR
  refine lv_lload_n hx hb dX4_isWhite_0 rfl (lv_at hl 0 rfl) ?_
  refine lv_iload_n hx hb dX4_isWhite_1 rfl (lv_at hl 1 rfl) ?_
  refine rd_calll (va_runS (As := [.long a0, .int a1]) (rest := []) ⟨hx, hb, hml, hown, hts⟩ (c_X4_greyIfWhite l a0 a1) (va_cwS 2 hts gX4_isWhite_X4_greyIfWhite rfl rfl rfl (by decide +kernel) ⟨Nat.le_of_ble_eq_true rfl, Nat.le_of_ble_eq_true rfl⟩) ⟨pu_blind, fun U hU hW => rfl⟩ rfl rfl hl.1 rfl (lv_room (Nat.le_of_ble_eq_true rfl)) dX4_isWhite_2 ⟨Nat.le_refl _, Nat.le_refl _⟩) ?_
  refine lv_lload_n hx hb dX4_isWhite_5 rfl (lv_at hl 0 rfl) ?_
  refine W.lcmp hx hb dX4_isWhite_6 ?_
  refine lv_if_eq (tgt := 14) hx hb dX4_isWhite_7 (by decide) (fun c_1 => ?_) (fun c_1 => ?_)
  · rw [if_pos c_1] at hR
    refine lv_iconst (v := (0 : Int32)) hx hb dX4_isWhite_14 (by decide +kernel) ?_
    exact W.zret (ty := .boolean) (v := (0 : Int32)) hx hb hr (by decide +kernel) (fun t ht _ => ⟨congrArg (fun z => Outcome.returned (some (Value.int z))) hR, ht⟩) t_nil dX4_isWhite_15
  · rw [if_neg c_1] at hR
    refine lv_iconst (v := (1 : Int32)) hx hb dX4_isWhite_10 (by decide +kernel) ?_
    refine lv_goto (tgt := 15) hx hb dX4_isWhite_11 (by decide) ?_
    exact W.zret (ty := .boolean) (v := (1 : Int32)) hx hb hr (by decide +kernel) (fun t ht _ => ⟨congrArg (fun z => Outcome.returned (some (Value.int z))) hR, ht⟩) t_nil dX4_isWhite_15
def cf_X4_leastGrey_s2_4  (x0 : Int64) : Int32 :=
  (-1 : Int32)
def cf_X4_leastGrey_s2_3  (x0 : Int64) : Int32 :=
  (if (lg_cmp ((jl_ushr x0 ((33 : Int32) + (3 : Int32))) &&& (1 : Int64)) (0 : Int64)) = 0 then cf_X4_leastGrey_s2_4  x0 else (3 : Int32))
def cf_X4_leastGrey_s2_2  (x0 : Int64) : Int32 :=
  (if (lg_cmp ((jl_ushr x0 ((33 : Int32) + (2 : Int32))) &&& (1 : Int64)) (0 : Int64)) = 0 then cf_X4_leastGrey_s2_3  x0 else (2 : Int32))
def cf_X4_leastGrey_s2_1  (x0 : Int64) : Int32 :=
  (if (lg_cmp ((jl_ushr x0 ((33 : Int32) + (1 : Int32))) &&& (1 : Int64)) (0 : Int64)) = 0 then cf_X4_leastGrey_s2_2  x0 else (1 : Int32))
def cf_X4_leastGrey_s2_0  (x0 : Int64) : Int32 :=
  (if (lg_cmp ((jl_ushr x0 ((33 : Int32) + (0 : Int32))) &&& (1 : Int64)) (0 : Int64)) = 0 then cf_X4_leastGrey_s2_1  x0 else (0 : Int32))
def cf_X4_leastGrey  (a0 : Int64) : Int32 :=
  cf_X4_leastGrey_s2_0  a0
set_option maxHeartbeats 4000000 in
set_option maxRecDepth 100000 in
theorem c_X4_leastGrey (l : Launch)  (a0 : Int64)  : Met l yX4_leastGrey wsX4_leastGrey ({ frames := 0, cells := 0, slots := 0, locals := 0 }) (pu_P [.long a0]) (rd_Q (some (.int (cf_X4_leastGrey  a0)))) 0 0 (fun _ => False) := by
  refine Met.ofW (cc := cX4_leastGrey) (maxL := 3) (ret := (some .int)) (by decide) rfl ?_
  intro p e s m args below meth c s₁ B hml hv
  obtain rfl := hv
  have hx := B.exec
  have hb := B.bytes
  have hr := B.returns
  have hts := atoms_spec (ws := wsX4_leastGrey) B.pre
  have hown : s.vm.findClass RX4 = some m.cls := findClass_of_methodNamed B.named
  have hlocks := B.notSynchronized
  generalize hR : cf_X4_leastGrey  a0 = R
  have K2_4 : ∀ (x0 : Int64) (ls : Array Slot), lv_has ls 3 [(0, .long x0), (2, .int (4 : Int32))] → cf_X4_leastGrey_s2_4  x0 = R → W p l e (headSpec wsX4_leastGrey ({ frames := 0, cells := 0, slots := 0, locals := 0 })).room s m ([.long a0] : List Value).toArray below meth c s.heap [] 0 0 (MQ below (rd_Q (some (.int R))) ([.long a0] : List Value).toArray s 0 0 (fun _ => False)) (F0 m 2 ls []) := by
    intro x0 ls hl hR
    unfold cf_X4_leastGrey_s2_4 at hR
    refine lv_iload_n hx hb dX4_leastGrey_2 rfl (lv_at hl 1 rfl) ?_
    refine lv_iconst (v := (4 : Int32)) hx hb dX4_leastGrey_3 (by decide +kernel) ?_
    refine lv_icmp_ge (tgt := 28) hx hb dX4_leastGrey_4 (by decide) (fun _ => ?_) (fun c_0 => absurd c_0 (by decide +kernel))
    refine lv_iconst (v := (-1 : Int32)) hx hb dX4_leastGrey_28 (by decide +kernel) ?_
    exact W.iret (v := (-1 : Int32)) hx hb hr (fun t ht _ => ⟨congrArg (fun z => Outcome.returned (some (Value.int z))) hR, ht⟩) t_nil dX4_leastGrey_29
  have K2_3 : ∀ (x0 : Int64) (ls : Array Slot), lv_has ls 3 [(0, .long x0), (2, .int (3 : Int32))] → cf_X4_leastGrey_s2_3  x0 = R → W p l e (headSpec wsX4_leastGrey ({ frames := 0, cells := 0, slots := 0, locals := 0 })).room s m ([.long a0] : List Value).toArray below meth c s.heap [] 0 0 (MQ below (rd_Q (some (.int R))) ([.long a0] : List Value).toArray s 0 0 (fun _ => False)) (F0 m 2 ls []) := by
    intro x0 ls hl hR
    unfold cf_X4_leastGrey_s2_3 at hR
    refine lv_iload_n hx hb dX4_leastGrey_2 rfl (lv_at hl 1 rfl) ?_
    refine lv_iconst (v := (4 : Int32)) hx hb dX4_leastGrey_3 (by decide +kernel) ?_
    refine lv_icmp_ge (tgt := 28) hx hb dX4_leastGrey_4 (by decide) (fun c_0 => absurd c_0 (by decide +kernel)) (fun _ => ?_)
    refine lv_lload_n hx hb dX4_leastGrey_7 rfl (lv_at hl 0 rfl) ?_
    refine lv_bipush (v := (33 : Int32)) hx hb dX4_leastGrey_8 (by decide +kernel) ?_
    refine lv_iload_n hx hb dX4_leastGrey_10 rfl (lv_at hl 1 rfl) ?_
    refine lv_iadd hx hb dX4_leastGrey_11 ?_
    refine lv_lushr (v := (jl_ushr x0 ((33 : Int32) + (3 : Int32)))) hx hb dX4_leastGrey_12 rfl ?_
    refine lv_lconst (v := (1 : Int64)) hx hb dX4_leastGrey_13 (by decide +kernel) ?_
    refine lv_land hx hb dX4_leastGrey_14 ?_
    refine lv_lconst (v := (0 : Int64)) hx hb dX4_leastGrey_15 (by decide +kernel) ?_
    refine W.lcmp hx hb dX4_leastGrey_16 ?_
    refine lv_if_eq (tgt := 22) hx hb dX4_leastGrey_17 (by decide) (fun c_4 => ?_) (fun c_4 => ?_)
    · rw [if_pos c_4] at hR
      refine lv_iinc (v := (4 : Int32)) (lv' := [(2, .int (4 : Int32)), (0, .long x0)]) hx hb dX4_leastGrey_22 hl (k := 1) rfl (by decide +kernel) (by decide) rfl (fun ls hl => ?_)
      refine lv_goto (tgt := 2) hx hb dX4_leastGrey_25 (by decide) ?_
      exact K2_4 x0 ls (lv_sub hl [1, 0] rfl) hR
    · rw [if_neg c_4] at hR
      refine lv_iload_n hx hb dX4_leastGrey_20 rfl (lv_at hl 1 rfl) ?_
      exact W.iret (v := (3 : Int32)) hx hb hr (fun t ht _ => ⟨congrArg (fun z => Outcome.returned (some (Value.int z))) hR, ht⟩) t_nil dX4_leastGrey_21
  have K2_2 : ∀ (x0 : Int64) (ls : Array Slot), lv_has ls 3 [(0, .long x0), (2, .int (2 : Int32))] → cf_X4_leastGrey_s2_2  x0 = R → W p l e (headSpec wsX4_leastGrey ({ frames := 0, cells := 0, slots := 0, locals := 0 })).room s m ([.long a0] : List Value).toArray below meth c s.heap [] 0 0 (MQ below (rd_Q (some (.int R))) ([.long a0] : List Value).toArray s 0 0 (fun _ => False)) (F0 m 2 ls []) := by
    intro x0 ls hl hR
    unfold cf_X4_leastGrey_s2_2 at hR
    refine lv_iload_n hx hb dX4_leastGrey_2 rfl (lv_at hl 1 rfl) ?_
    refine lv_iconst (v := (4 : Int32)) hx hb dX4_leastGrey_3 (by decide +kernel) ?_
    refine lv_icmp_ge (tgt := 28) hx hb dX4_leastGrey_4 (by decide) (fun c_0 => absurd c_0 (by decide +kernel)) (fun _ => ?_)
    refine lv_lload_n hx hb dX4_leastGrey_7 rfl (lv_at hl 0 rfl) ?_
    refine lv_bipush (v := (33 : Int32)) hx hb dX4_leastGrey_8 (by decide +kernel) ?_
    refine lv_iload_n hx hb dX4_leastGrey_10 rfl (lv_at hl 1 rfl) ?_
    refine lv_iadd hx hb dX4_leastGrey_11 ?_
    refine lv_lushr (v := (jl_ushr x0 ((33 : Int32) + (2 : Int32)))) hx hb dX4_leastGrey_12 rfl ?_
    refine lv_lconst (v := (1 : Int64)) hx hb dX4_leastGrey_13 (by decide +kernel) ?_
    refine lv_land hx hb dX4_leastGrey_14 ?_
    refine lv_lconst (v := (0 : Int64)) hx hb dX4_leastGrey_15 (by decide +kernel) ?_
    refine W.lcmp hx hb dX4_leastGrey_16 ?_
    refine lv_if_eq (tgt := 22) hx hb dX4_leastGrey_17 (by decide) (fun c_3 => ?_) (fun c_3 => ?_)
    · rw [if_pos c_3] at hR
      refine lv_iinc (v := (3 : Int32)) (lv' := [(2, .int (3 : Int32)), (0, .long x0)]) hx hb dX4_leastGrey_22 hl (k := 1) rfl (by decide +kernel) (by decide) rfl (fun ls hl => ?_)
      refine lv_goto (tgt := 2) hx hb dX4_leastGrey_25 (by decide) ?_
      exact K2_3 x0 ls (lv_sub hl [1, 0] rfl) hR
    · rw [if_neg c_3] at hR
      refine lv_iload_n hx hb dX4_leastGrey_20 rfl (lv_at hl 1 rfl) ?_
      exact W.iret (v := (2 : Int32)) hx hb hr (fun t ht _ => ⟨congrArg (fun z => Outcome.returned (some (Value.int z))) hR, ht⟩) t_nil dX4_leastGrey_21
  have K2_1 : ∀ (x0 : Int64) (ls : Array Slot), lv_has ls 3 [(0, .long x0), (2, .int (1 : Int32))] → cf_X4_leastGrey_s2_1  x0 = R → W p l e (headSpec wsX4_leastGrey ({ frames := 0, cells := 0, slots := 0, locals := 0 })).room s m ([.long a0] : List Value).toArray below meth c s.heap [] 0 0 (MQ below (rd_Q (some (.int R))) ([.long a0] : List Value).toArray s 0 0 (fun _ => False)) (F0 m 2 ls []) := by
    intro x0 ls hl hR
    unfold cf_X4_leastGrey_s2_1 at hR
    refine lv_iload_n hx hb dX4_leastGrey_2 rfl (lv_at hl 1 rfl) ?_
    refine lv_iconst (v := (4 : Int32)) hx hb dX4_leastGrey_3 (by decide +kernel) ?_
    refine lv_icmp_ge (tgt := 28) hx hb dX4_leastGrey_4 (by decide) (fun c_0 => absurd c_0 (by decide +kernel)) (fun _ => ?_)
    refine lv_lload_n hx hb dX4_leastGrey_7 rfl (lv_at hl 0 rfl) ?_
    refine lv_bipush (v := (33 : Int32)) hx hb dX4_leastGrey_8 (by decide +kernel) ?_
    refine lv_iload_n hx hb dX4_leastGrey_10 rfl (lv_at hl 1 rfl) ?_
    refine lv_iadd hx hb dX4_leastGrey_11 ?_
    refine lv_lushr (v := (jl_ushr x0 ((33 : Int32) + (1 : Int32)))) hx hb dX4_leastGrey_12 rfl ?_
    refine lv_lconst (v := (1 : Int64)) hx hb dX4_leastGrey_13 (by decide +kernel) ?_
    refine lv_land hx hb dX4_leastGrey_14 ?_
    refine lv_lconst (v := (0 : Int64)) hx hb dX4_leastGrey_15 (by decide +kernel) ?_
    refine W.lcmp hx hb dX4_leastGrey_16 ?_
    refine lv_if_eq (tgt := 22) hx hb dX4_leastGrey_17 (by decide) (fun c_2 => ?_) (fun c_2 => ?_)
    · rw [if_pos c_2] at hR
      refine lv_iinc (v := (2 : Int32)) (lv' := [(2, .int (2 : Int32)), (0, .long x0)]) hx hb dX4_leastGrey_22 hl (k := 1) rfl (by decide +kernel) (by decide) rfl (fun ls hl => ?_)
      refine lv_goto (tgt := 2) hx hb dX4_leastGrey_25 (by decide) ?_
      exact K2_2 x0 ls (lv_sub hl [1, 0] rfl) hR
    · rw [if_neg c_2] at hR
      refine lv_iload_n hx hb dX4_leastGrey_20 rfl (lv_at hl 1 rfl) ?_
      exact W.iret (v := (1 : Int32)) hx hb hr (fun t ht _ => ⟨congrArg (fun z => Outcome.returned (some (Value.int z))) hR, ht⟩) t_nil dX4_leastGrey_21
  have K2_0 : ∀ (x0 : Int64) (ls : Array Slot), lv_has ls 3 [(0, .long x0), (2, .int (0 : Int32))] → cf_X4_leastGrey_s2_0  x0 = R → W p l e (headSpec wsX4_leastGrey ({ frames := 0, cells := 0, slots := 0, locals := 0 })).room s m ([.long a0] : List Value).toArray below meth c s.heap [] 0 0 (MQ below (rd_Q (some (.int R))) ([.long a0] : List Value).toArray s 0 0 (fun _ => False)) (F0 m 2 ls []) := by
    intro x0 ls hl hR
    unfold cf_X4_leastGrey_s2_0 at hR
    refine lv_iload_n hx hb dX4_leastGrey_2 rfl (lv_at hl 1 rfl) ?_
    refine lv_iconst (v := (4 : Int32)) hx hb dX4_leastGrey_3 (by decide +kernel) ?_
    refine lv_icmp_ge (tgt := 28) hx hb dX4_leastGrey_4 (by decide) (fun c_0 => absurd c_0 (by decide +kernel)) (fun _ => ?_)
    refine lv_lload_n hx hb dX4_leastGrey_7 rfl (lv_at hl 0 rfl) ?_
    refine lv_bipush (v := (33 : Int32)) hx hb dX4_leastGrey_8 (by decide +kernel) ?_
    refine lv_iload_n hx hb dX4_leastGrey_10 rfl (lv_at hl 1 rfl) ?_
    refine lv_iadd hx hb dX4_leastGrey_11 ?_
    refine lv_lushr (v := (jl_ushr x0 ((33 : Int32) + (0 : Int32)))) hx hb dX4_leastGrey_12 rfl ?_
    refine lv_lconst (v := (1 : Int64)) hx hb dX4_leastGrey_13 (by decide +kernel) ?_
    refine lv_land hx hb dX4_leastGrey_14 ?_
    refine lv_lconst (v := (0 : Int64)) hx hb dX4_leastGrey_15 (by decide +kernel) ?_
    refine W.lcmp hx hb dX4_leastGrey_16 ?_
    refine lv_if_eq (tgt := 22) hx hb dX4_leastGrey_17 (by decide) (fun c_1 => ?_) (fun c_1 => ?_)
    · rw [if_pos c_1] at hR
      refine lv_iinc (v := (1 : Int32)) (lv' := [(2, .int (1 : Int32)), (0, .long x0)]) hx hb dX4_leastGrey_22 hl (k := 1) rfl (by decide +kernel) (by decide) rfl (fun ls hl => ?_)
      refine lv_goto (tgt := 2) hx hb dX4_leastGrey_25 (by decide) ?_
      exact K2_1 x0 ls (lv_sub hl [1, 0] rfl) hR
    · rw [if_neg c_1] at hR
      refine lv_iload_n hx hb dX4_leastGrey_20 rfl (lv_at hl 1 rfl) ?_
      exact W.iret (v := (0 : Int32)) hx hb hr (fun t ht _ => ⟨congrArg (fun z => Outcome.returned (some (Value.int z))) hR, ht⟩) t_nil dX4_leastGrey_21
  have hl := lv_entry ([.long a0]) (n := 3) (Nat.le_of_ble_eq_true rfl)
  rw [lg_entry_eq]
  generalize (lg_sl ([.long a0]) ++ List.replicate (3 - (lg_sl ([.long a0])).length) Slot.unset).toArray = ls at hl ⊢
  have hl : lv_has ls 3 [(0, .long a0)] := hl
  unfold cf_X4_leastGrey at hR
  refine lv_iconst (v := (0 : Int32)) hx hb dX4_leastGrey_0 (by decide +kernel) ?_
  refine lv_istore_n (lv' := [(2, .int (0 : Int32)), (0, .long a0)]) hx hb dX4_leastGrey_1 rfl hl (by decide) rfl (fun ls hl => ?_)
  exact K2_0 a0 ls (lv_sub hl [1, 0] rfl) hR
def cf_X4_greyAgain  (a0 : Int64) (a1 : Int32) : Int64 :=
  ((a0 &&& ((jl_shl (1 : Int64) ((37 : Int32) + a1)) ^^^ (-1 : Int64))) ||| (jl_shl (1 : Int64) ((33 : Int32) + a1)))
set_option maxHeartbeats 4000000 in
set_option maxRecDepth 100000 in
theorem c_X4_greyAgain (l : Launch)  (a0 : Int64) (a1 : Int32)  : Met l yX4_greyAgain wsX4_greyAgain ({ frames := 0, cells := 0, slots := 0, locals := 0 }) (pu_P [.long a0, .int a1]) (rd_Q (some (.long (cf_X4_greyAgain  a0 a1)))) 0 0 (fun _ => False) := by
  refine Met.ofW (cc := cX4_greyAgain) (maxL := 3) (ret := (some .long)) (by decide) rfl ?_
  intro p e s m args below meth c s₁ B hml hv
  obtain rfl := hv
  have hx := B.exec
  have hb := B.bytes
  have hr := B.returns
  have hts := atoms_spec (ws := wsX4_greyAgain) B.pre
  have hown : s.vm.findClass RX4 = some m.cls := findClass_of_methodNamed B.named
  have hlocks := B.notSynchronized
  have h0_ : (Cond.constantLong RX4 17 (-1)).before _ s = true := hts _ (by decide +kernel)
  generalize hR : cf_X4_greyAgain  a0 a1 = R
  have hl := lv_entry ([.long a0, .int a1]) (n := 3) (Nat.le_of_ble_eq_true rfl)
  rw [lg_entry_eq]
  generalize (lg_sl ([.long a0, .int a1]) ++ List.replicate (3 - (lg_sl ([.long a0, .int a1])).length) Slot.unset).toArray = ls at hl ⊢
  have hl : lv_has ls 3 [(0, .long a0), (2, .int a1)] := hl
  unfold cf_X4_greyAgain at hR
  refine lv_lload_n hx hb dX4_greyAgain_0 rfl (lv_at hl 0 rfl) ?_
  refine lv_lconst (v := (1 : Int64)) hx hb dX4_greyAgain_1 (by decide +kernel) ?_
  refine lv_bipush (v := (37 : Int32)) hx hb dX4_greyAgain_2 (by decide +kernel) ?_
  refine lv_iload_n hx hb dX4_greyAgain_4 rfl (lv_at hl 1 rfl) ?_
  refine lv_iadd hx hb dX4_greyAgain_5 ?_
  refine lv_lshl (v := (jl_shl (1 : Int64) ((37 : Int32) + a1))) hx hb dX4_greyAgain_6 rfl ?_
  refine lv_ldc2 (v := (-1 : Int64)) hx hb hown h0_ dX4_greyAgain_7 ?_
  refine lv_lxor hx hb dX4_greyAgain_10 ?_
  refine lv_land hx hb dX4_greyAgain_11 ?_
  refine lv_lconst (v := (1 : Int64)) hx hb dX4_greyAgain_12 (by decide +kernel) ?_
  refine lv_bipush (v := (33 : Int32)) hx hb dX4_greyAgain_13 (by decide +kernel) ?_
  refine lv_iload_n hx hb dX4_greyAgain_15 rfl (lv_at hl 1 rfl) ?_
  refine lv_iadd hx hb dX4_greyAgain_16 ?_
  refine lv_lshl (v := (jl_shl (1 : Int64) ((33 : Int32) + a1))) hx hb dX4_greyAgain_17 rfl ?_
  refine lv_lor hx hb dX4_greyAgain_18 ?_
  exact W.lret (v := ((a0 &&& ((jl_shl (1 : Int64) ((37 : Int32) + a1)) ^^^ (-1 : Int64))) ||| (jl_shl (1 : Int64) ((33 : Int32) + a1)))) hx hb hr (fun t ht _ => ⟨congrArg (fun z => Outcome.returned (some (Value.long z))) hR, ht⟩) t_nil dX4_greyAgain_19
def cf_X4_blackened  (a0 : Int64) (a1 : Int32) : Int64 :=
  (((a0 &&& ((jl_shl (1 : Int64) ((33 : Int32) + a1)) ^^^ (-1 : Int64))) &&& ((jl_shl (1 : Int64) ((41 : Int32) + a1)) ^^^ (-1 : Int64))) ||| (jl_shl (1 : Int64) ((37 : Int32) + a1)))
set_option maxHeartbeats 4000000 in
set_option maxRecDepth 100000 in
theorem c_X4_blackened (l : Launch)  (a0 : Int64) (a1 : Int32)  : Met l yX4_blackened wsX4_blackened ({ frames := 0, cells := 0, slots := 0, locals := 0 }) (pu_P [.long a0, .int a1]) (rd_Q (some (.long (cf_X4_blackened  a0 a1)))) 0 0 (fun _ => False) := by
  refine Met.ofW (cc := cX4_blackened) (maxL := 5) (ret := (some .long)) (by decide) rfl ?_
  intro p e s m args below meth c s₁ B hml hv
  obtain rfl := hv
  have hx := B.exec
  have hb := B.bytes
  have hr := B.returns
  have hts := atoms_spec (ws := wsX4_blackened) B.pre
  have hown : s.vm.findClass RX4 = some m.cls := findClass_of_methodNamed B.named
  have hlocks := B.notSynchronized
  have h0_ : (Cond.constantLong RX4 17 (-1)).before _ s = true := hts _ (by decide +kernel)
  generalize hR : cf_X4_blackened  a0 a1 = R
  have hl := lv_entry ([.long a0, .int a1]) (n := 5) (Nat.le_of_ble_eq_true rfl)
  rw [lg_entry_eq]
  generalize (lg_sl ([.long a0, .int a1]) ++ List.replicate (5 - (lg_sl ([.long a0, .int a1])).length) Slot.unset).toArray = ls at hl ⊢
  have hl : lv_has ls 5 [(0, .long a0), (2, .int a1)] := hl
  unfold cf_X4_blackened at hR
  refine lv_lload_n hx hb dX4_blackened_0 rfl (lv_at hl 0 rfl) ?_
  refine lv_lconst (v := (1 : Int64)) hx hb dX4_blackened_1 (by decide +kernel) ?_
  refine lv_bipush (v := (33 : Int32)) hx hb dX4_blackened_2 (by decide +kernel) ?_
  refine lv_iload_n hx hb dX4_blackened_4 rfl (lv_at hl 1 rfl) ?_
  refine lv_iadd hx hb dX4_blackened_5 ?_
  refine lv_lshl (v := (jl_shl (1 : Int64) ((33 : Int32) + a1))) hx hb dX4_blackened_6 rfl ?_
  refine lv_ldc2 (v := (-1 : Int64)) hx hb hown h0_ dX4_blackened_7 ?_
  refine lv_lxor hx hb dX4_blackened_10 ?_
  refine lv_land hx hb dX4_blackened_11 ?_
  refine lv_lconst (v := (1 : Int64)) hx hb dX4_blackened_12 (by decide +kernel) ?_
  refine lv_bipush (v := (41 : Int32)) hx hb dX4_blackened_13 (by decide +kernel) ?_
  refine lv_iload_n hx hb dX4_blackened_15 rfl (lv_at hl 1 rfl) ?_
  refine lv_iadd hx hb dX4_blackened_16 ?_
  refine lv_lshl (v := (jl_shl (1 : Int64) ((41 : Int32) + a1))) hx hb dX4_blackened_17 rfl ?_
  refine lv_ldc2 (v := (-1 : Int64)) hx hb hown h0_ dX4_blackened_18 ?_
  refine lv_lxor hx hb dX4_blackened_21 ?_
  refine lv_land hx hb dX4_blackened_22 ?_
  refine lv_lstore_n (lv' := [(3, .long ((a0 &&& ((jl_shl (1 : Int64) ((33 : Int32) + a1)) ^^^ (-1 : Int64))) &&& ((jl_shl (1 : Int64) ((41 : Int32) + a1)) ^^^ (-1 : Int64)))), (0, .long a0), (2, .int a1)]) hx hb dX4_blackened_23 rfl hl (by decide) rfl (fun ls hl => ?_)
  refine lv_lload_n hx hb dX4_blackened_24 rfl (lv_at hl 0 rfl) ?_
  refine lv_lconst (v := (1 : Int64)) hx hb dX4_blackened_25 (by decide +kernel) ?_
  refine lv_bipush (v := (37 : Int32)) hx hb dX4_blackened_26 (by decide +kernel) ?_
  refine lv_iload_n hx hb dX4_blackened_28 rfl (lv_at hl 2 rfl) ?_
  refine lv_iadd hx hb dX4_blackened_29 ?_
  refine lv_lshl (v := (jl_shl (1 : Int64) ((37 : Int32) + a1))) hx hb dX4_blackened_30 rfl ?_
  refine lv_lor hx hb dX4_blackened_31 ?_
  exact W.lret (v := (((a0 &&& ((jl_shl (1 : Int64) ((33 : Int32) + a1)) ^^^ (-1 : Int64))) &&& ((jl_shl (1 : Int64) ((41 : Int32) + a1)) ^^^ (-1 : Int64))) ||| (jl_shl (1 : Int64) ((37 : Int32) + a1)))) hx hb hr (fun t ht _ => ⟨congrArg (fun z => Outcome.returned (some (Value.long z))) hR, ht⟩) t_nil dX4_blackened_32
def cf_X4_fieldsLookedAt  (a0 : Int64) (a1 : Int32) : Int32 :=
  (((jl_ushr a0 ((41 : Int32) + a1)).toInt32) &&& (1 : Int32))
set_option maxHeartbeats 4000000 in
set_option maxRecDepth 100000 in
theorem c_X4_fieldsLookedAt (l : Launch)  (a0 : Int64) (a1 : Int32)  : Met l yX4_fieldsLookedAt wsX4_fieldsLookedAt ({ frames := 0, cells := 0, slots := 0, locals := 0 }) (pu_P [.long a0, .int a1]) (rd_Q (some (.int (cf_X4_fieldsLookedAt  a0 a1)))) 0 0 (fun _ => False) := by
  refine Met.ofW (cc := cX4_fieldsLookedAt) (maxL := 3) (ret := (some .int)) (by decide) rfl ?_
  intro p e s m args below meth c s₁ B hml hv
  obtain rfl := hv
  have hx := B.exec
  have hb := B.bytes
  have hr := B.returns
  have hts := atoms_spec (ws := wsX4_fieldsLookedAt) B.pre
  have hown : s.vm.findClass RX4 = some m.cls := findClass_of_methodNamed B.named
  have hlocks := B.notSynchronized
  generalize hR : cf_X4_fieldsLookedAt  a0 a1 = R
  have hl := lv_entry ([.long a0, .int a1]) (n := 3) (Nat.le_of_ble_eq_true rfl)
  rw [lg_entry_eq]
  generalize (lg_sl ([.long a0, .int a1]) ++ List.replicate (3 - (lg_sl ([.long a0, .int a1])).length) Slot.unset).toArray = ls at hl ⊢
  have hl : lv_has ls 3 [(0, .long a0), (2, .int a1)] := hl
  unfold cf_X4_fieldsLookedAt at hR
  refine lv_lload_n hx hb dX4_fieldsLookedAt_0 rfl (lv_at hl 0 rfl) ?_
  refine lv_bipush (v := (41 : Int32)) hx hb dX4_fieldsLookedAt_1 (by decide +kernel) ?_
  refine lv_iload_n hx hb dX4_fieldsLookedAt_3 rfl (lv_at hl 1 rfl) ?_
  refine lv_iadd hx hb dX4_fieldsLookedAt_4 ?_
  refine lv_lushr (v := (jl_ushr a0 ((41 : Int32) + a1))) hx hb dX4_fieldsLookedAt_5 rfl ?_
  refine lv_l2i (v := ((jl_ushr a0 ((41 : Int32) + a1)).toInt32)) hx hb dX4_fieldsLookedAt_6 rfl ?_
  refine lv_iconst (v := (1 : Int32)) hx hb dX4_fieldsLookedAt_7 (by decide +kernel) ?_
  refine lv_iand hx hb dX4_fieldsLookedAt_8 ?_
  exact W.iret (v := (((jl_ushr a0 ((41 : Int32) + a1)).toInt32) &&& (1 : Int32))) hx hb hr (fun t ht _ => ⟨congrArg (fun z => Outcome.returned (some (Value.int z))) hR, ht⟩) t_nil dX4_fieldsLookedAt_9
def cf_X4_withFirstFieldLookedAt  (a0 : Int64) (a1 : Int32) : Int64 :=
  (a0 ||| (jl_shl (1 : Int64) ((41 : Int32) + a1)))
set_option maxHeartbeats 4000000 in
set_option maxRecDepth 100000 in
theorem c_X4_withFirstFieldLookedAt (l : Launch)  (a0 : Int64) (a1 : Int32)  : Met l yX4_withFirstFieldLookedAt wsX4_withFirstFieldLookedAt ({ frames := 0, cells := 0, slots := 0, locals := 0 }) (pu_P [.long a0, .int a1]) (rd_Q (some (.long (cf_X4_withFirstFieldLookedAt  a0 a1)))) 0 0 (fun _ => False) := by
  refine Met.ofW (cc := cX4_withFirstFieldLookedAt) (maxL := 3) (ret := (some .long)) (by decide) rfl ?_
  intro p e s m args below meth c s₁ B hml hv
  obtain rfl := hv
  have hx := B.exec
  have hb := B.bytes
  have hr := B.returns
  have hts := atoms_spec (ws := wsX4_withFirstFieldLookedAt) B.pre
  have hown : s.vm.findClass RX4 = some m.cls := findClass_of_methodNamed B.named
  have hlocks := B.notSynchronized
  generalize hR : cf_X4_withFirstFieldLookedAt  a0 a1 = R
  have hl := lv_entry ([.long a0, .int a1]) (n := 3) (Nat.le_of_ble_eq_true rfl)
  rw [lg_entry_eq]
  generalize (lg_sl ([.long a0, .int a1]) ++ List.replicate (3 - (lg_sl ([.long a0, .int a1])).length) Slot.unset).toArray = ls at hl ⊢
  have hl : lv_has ls 3 [(0, .long a0), (2, .int a1)] := hl
  unfold cf_X4_withFirstFieldLookedAt at hR
  refine lv_lload_n hx hb dX4_withFirstFieldLookedAt_0 rfl (lv_at hl 0 rfl) ?_
  refine lv_lconst (v := (1 : Int64)) hx hb dX4_withFirstFieldLookedAt_1 (by decide +kernel) ?_
  refine lv_bipush (v := (41 : Int32)) hx hb dX4_withFirstFieldLookedAt_2 (by decide +kernel) ?_
  refine lv_iload_n hx hb dX4_withFirstFieldLookedAt_4 rfl (lv_at hl 1 rfl) ?_
  refine lv_iadd hx hb dX4_withFirstFieldLookedAt_5 ?_
  refine lv_lshl (v := (jl_shl (1 : Int64) ((41 : Int32) + a1))) hx hb dX4_withFirstFieldLookedAt_6 rfl ?_
  refine lv_lor hx hb dX4_withFirstFieldLookedAt_7 ?_
  exact W.lret (v := (a0 ||| (jl_shl (1 : Int64) ((41 : Int32) + a1)))) hx hb hr (fun t ht _ => ⟨congrArg (fun z => Outcome.returned (some (Value.long z))) hR, ht⟩) t_nil dX4_withFirstFieldLookedAt_8
def cf_X4_rootsLookedAt  (a0 : Int64) : Int32 :=
  (((jl_ushr a0 (45 : Int32)).toInt32) &&& (3 : Int32))
set_option maxHeartbeats 4000000 in
set_option maxRecDepth 100000 in
theorem c_X4_rootsLookedAt (l : Launch)  (a0 : Int64)  : Met l yX4_rootsLookedAt wsX4_rootsLookedAt ({ frames := 0, cells := 0, slots := 0, locals := 0 }) (pu_P [.long a0]) (rd_Q (some (.int (cf_X4_rootsLookedAt  a0)))) 0 0 (fun _ => False) := by
  refine Met.ofW (cc := cX4_rootsLookedAt) (maxL := 2) (ret := (some .int)) (by decide) rfl ?_
  intro p e s m args below meth c s₁ B hml hv
  obtain rfl := hv
  have hx := B.exec
  have hb := B.bytes
  have hr := B.returns
  have hts := atoms_spec (ws := wsX4_rootsLookedAt) B.pre
  have hown : s.vm.findClass RX4 = some m.cls := findClass_of_methodNamed B.named
  have hlocks := B.notSynchronized
  generalize hR : cf_X4_rootsLookedAt  a0 = R
  have hl := lv_entry ([.long a0]) (n := 2) (Nat.le_of_ble_eq_true rfl)
  rw [lg_entry_eq]
  generalize (lg_sl ([.long a0]) ++ List.replicate (2 - (lg_sl ([.long a0])).length) Slot.unset).toArray = ls at hl ⊢
  have hl : lv_has ls 2 [(0, .long a0)] := hl
  unfold cf_X4_rootsLookedAt at hR
  refine lv_lload_n hx hb dX4_rootsLookedAt_0 rfl (lv_at hl 0 rfl) ?_
  refine lv_bipush (v := (45 : Int32)) hx hb dX4_rootsLookedAt_1 (by decide +kernel) ?_
  refine lv_lushr (v := (jl_ushr a0 (45 : Int32))) hx hb dX4_rootsLookedAt_3 rfl ?_
  refine lv_l2i (v := ((jl_ushr a0 (45 : Int32)).toInt32)) hx hb dX4_rootsLookedAt_4 rfl ?_
  refine lv_iconst (v := (3 : Int32)) hx hb dX4_rootsLookedAt_5 (by decide +kernel) ?_
  refine lv_iand hx hb dX4_rootsLookedAt_6 ?_
  exact W.iret (v := (((jl_ushr a0 (45 : Int32)).toInt32) &&& (3 : Int32))) hx hb hr (fun t ht _ => ⟨congrArg (fun z => Outcome.returned (some (Value.int z))) hR, ht⟩) t_nil dX4_rootsLookedAt_7
def cf_X4_withOneMoreRootLookedAt  (a0 : Int64) : Int64 :=
  (a0 + (35184372088832 : Int64))
set_option maxHeartbeats 4000000 in
set_option maxRecDepth 100000 in
theorem c_X4_withOneMoreRootLookedAt (l : Launch)  (a0 : Int64)  : Met l yX4_withOneMoreRootLookedAt wsX4_withOneMoreRootLookedAt ({ frames := 0, cells := 0, slots := 0, locals := 0 }) (pu_P [.long a0]) (rd_Q (some (.long (cf_X4_withOneMoreRootLookedAt  a0)))) 0 0 (fun _ => False) := by
  refine Met.ofW (cc := cX4_withOneMoreRootLookedAt) (maxL := 2) (ret := (some .long)) (by decide) rfl ?_
  intro p e s m args below meth c s₁ B hml hv
  obtain rfl := hv
  have hx := B.exec
  have hb := B.bytes
  have hr := B.returns
  have hts := atoms_spec (ws := wsX4_withOneMoreRootLookedAt) B.pre
  have hown : s.vm.findClass RX4 = some m.cls := findClass_of_methodNamed B.named
  have hlocks := B.notSynchronized
  have h0_ : (Cond.constantLong RX4 34 (35184372088832)).before _ s = true := hts _ (by decide +kernel)
  generalize hR : cf_X4_withOneMoreRootLookedAt  a0 = R
  have hl := lv_entry ([.long a0]) (n := 2) (Nat.le_of_ble_eq_true rfl)
  rw [lg_entry_eq]
  generalize (lg_sl ([.long a0]) ++ List.replicate (2 - (lg_sl ([.long a0])).length) Slot.unset).toArray = ls at hl ⊢
  have hl : lv_has ls 2 [(0, .long a0)] := hl
  unfold cf_X4_withOneMoreRootLookedAt at hR
  refine lv_lload_n hx hb dX4_withOneMoreRootLookedAt_0 rfl (lv_at hl 0 rfl) ?_
  refine lv_ldc2 (v := (35184372088832 : Int64)) hx hb hown h0_ dX4_withOneMoreRootLookedAt_1 ?_
  refine lv_ladd hx hb dX4_withOneMoreRootLookedAt_4 ?_
  exact W.lret (v := (a0 + (35184372088832 : Int64))) hx hb hr (fun t ht _ => ⟨congrArg (fun z => Outcome.returned (some (Value.long z))) hR, ht⟩) t_nil dX4_withOneMoreRootLookedAt_5
def cf_X4_isOver  (a0 : Int64) : Int32 :=
  (if (lg_cmp ((jl_ushr a0 (47 : Int32)) &&& (1 : Int64)) (0 : Int64)) = 0 then (0 : Int32) else (1 : Int32))
set_option maxHeartbeats 4000000 in
set_option maxRecDepth 100000 in
theorem c_X4_isOver (l : Launch)  (a0 : Int64)  : Met l yX4_isOver wsX4_isOver ({ frames := 0, cells := 0, slots := 0, locals := 0 }) (pu_P [.long a0]) (rd_Q (some (.int (cf_X4_isOver  a0)))) 0 0 (fun _ => False) := by
  refine Met.ofW (cc := cX4_isOver) (maxL := 2) (ret := (some .boolean)) (by decide) rfl ?_
  intro p e s m args below meth c s₁ B hml hv
  obtain rfl := hv
  have hx := B.exec
  have hb := B.bytes
  have hr := B.returns
  have hts := atoms_spec (ws := wsX4_isOver) B.pre
  have hown : s.vm.findClass RX4 = some m.cls := findClass_of_methodNamed B.named
  have hlocks := B.notSynchronized
  generalize hR : cf_X4_isOver  a0 = R
  have hl := lv_entry ([.long a0]) (n := 2) (Nat.le_of_ble_eq_true rfl)
  rw [lg_entry_eq]
  generalize (lg_sl ([.long a0]) ++ List.replicate (2 - (lg_sl ([.long a0])).length) Slot.unset).toArray = ls at hl ⊢
  have hl : lv_has ls 2 [(0, .long a0)] := hl
  unfold cf_X4_isOver at hR
  refine lv_lload_n hx hb dX4_isOver_0 rfl (lv_at hl 0 rfl) ?_
  refine lv_bipush (v := (47 : Int32)) hx hb dX4_isOver_1 (by decide +kernel) ?_
  refine lv_lushr (v := (jl_ushr a0 (47 : Int32))) hx hb dX4_isOver_3 rfl ?_
  refine lv_lconst (v := (1 : Int64)) hx hb dX4_isOver_4 (by decide +kernel) ?_
  refine lv_land hx hb dX4_isOver_5 ?_
  refine lv_lconst (v := (0 : Int64)) hx hb dX4_isOver_6 (by decide +kernel) ?_
  refine W.lcmp hx hb dX4_isOver_7 ?_
  refine lv_if_eq (tgt := 15) hx hb dX4_isOver_8 (by decide) (fun c_1 => ?_) (fun c_1 => ?_)
  · rw [if_pos c_1] at hR
    refine lv_iconst (v := (0 : Int32)) hx hb dX4_isOver_15 (by decide +kernel) ?_
    exact W.zret (ty := .boolean) (v := (0 : Int32)) hx hb hr (by decide +kernel) (fun t ht _ => ⟨congrArg (fun z => Outcome.returned (some (Value.int z))) hR, ht⟩) t_nil dX4_isOver_16
  · rw [if_neg c_1] at hR
    refine lv_iconst (v := (1 : Int32)) hx hb dX4_isOver_11 (by decide +kernel) ?_
    refine lv_goto (tgt := 16) hx hb dX4_isOver_12 (by decide) ?_
    exact W.zret (ty := .boolean) (v := (1 : Int32)) hx hb hr (by decide +kernel) (fun t ht _ => ⟨congrArg (fun z => Outcome.returned (some (Value.int z))) hR, ht⟩) t_nil dX4_isOver_16
def cf_X4_ended  (a0 : Int64) : Int64 :=
  (a0 ||| (140737488355328 : Int64))
set_option maxHeartbeats 4000000 in
set_option maxRecDepth 100000 in
theorem c_X4_ended (l : Launch)  (a0 : Int64)  : Met l yX4_ended wsX4_ended ({ frames := 0, cells := 0, slots := 0, locals := 0 }) (pu_P [.long a0]) (rd_Q (some (.long (cf_X4_ended  a0)))) 0 0 (fun _ => False) := by
  refine Met.ofW (cc := cX4_ended) (maxL := 2) (ret := (some .long)) (by decide) rfl ?_
  intro p e s m args below meth c s₁ B hml hv
  obtain rfl := hv
  have hx := B.exec
  have hb := B.bytes
  have hr := B.returns
  have hts := atoms_spec (ws := wsX4_ended) B.pre
  have hown : s.vm.findClass RX4 = some m.cls := findClass_of_methodNamed B.named
  have hlocks := B.notSynchronized
  have h0_ : (Cond.constantLong RX4 36 (140737488355328)).before _ s = true := hts _ (by decide +kernel)
  generalize hR : cf_X4_ended  a0 = R
  have hl := lv_entry ([.long a0]) (n := 2) (Nat.le_of_ble_eq_true rfl)
  rw [lg_entry_eq]
  generalize (lg_sl ([.long a0]) ++ List.replicate (2 - (lg_sl ([.long a0])).length) Slot.unset).toArray = ls at hl ⊢
  have hl : lv_has ls 2 [(0, .long a0)] := hl
  unfold cf_X4_ended at hR
  refine lv_lload_n hx hb dX4_ended_0 rfl (lv_at hl 0 rfl) ?_
  refine lv_ldc2 (v := (140737488355328 : Int64)) hx hb hown h0_ dX4_ended_1 ?_
  refine lv_lor hx hb dX4_ended_4 ?_
  exact W.lret (v := (a0 ||| (140737488355328 : Int64))) hx hb hr (fun t ht _ => ⟨congrArg (fun z => Outcome.returned (some (Value.long z))) hR, ht⟩) t_nil dX4_ended_5
def cf_X4_actsLeft  (a0 : Int64) : Int32 :=
  (((jl_ushr a0 (48 : Int32)).toInt32) &&& (15 : Int32))
set_option maxHeartbeats 4000000 in
set_option maxRecDepth 100000 in
theorem c_X4_actsLeft (l : Launch)  (a0 : Int64)  : Met l yX4_actsLeft wsX4_actsLeft ({ frames := 0, cells := 0, slots := 0, locals := 0 }) (pu_P [.long a0]) (rd_Q (some (.int (cf_X4_actsLeft  a0)))) 0 0 (fun _ => False) := by
  refine Met.ofW (cc := cX4_actsLeft) (maxL := 2) (ret := (some .int)) (by decide) rfl ?_
  intro p e s m args below meth c s₁ B hml hv
  obtain rfl := hv
  have hx := B.exec
  have hb := B.bytes
  have hr := B.returns
  have hts := atoms_spec (ws := wsX4_actsLeft) B.pre
  have hown : s.vm.findClass RX4 = some m.cls := findClass_of_methodNamed B.named
  have hlocks := B.notSynchronized
  generalize hR : cf_X4_actsLeft  a0 = R
  have hl := lv_entry ([.long a0]) (n := 2) (Nat.le_of_ble_eq_true rfl)
  rw [lg_entry_eq]
  generalize (lg_sl ([.long a0]) ++ List.replicate (2 - (lg_sl ([.long a0])).length) Slot.unset).toArray = ls at hl ⊢
  have hl : lv_has ls 2 [(0, .long a0)] := hl
  unfold cf_X4_actsLeft at hR
  refine lv_lload_n hx hb dX4_actsLeft_0 rfl (lv_at hl 0 rfl) ?_
  refine lv_bipush (v := (48 : Int32)) hx hb dX4_actsLeft_1 (by decide +kernel) ?_
  refine lv_lushr (v := (jl_ushr a0 (48 : Int32))) hx hb dX4_actsLeft_3 rfl ?_
  refine lv_l2i (v := ((jl_ushr a0 (48 : Int32)).toInt32)) hx hb dX4_actsLeft_4 rfl ?_
  refine lv_bipush (v := (15 : Int32)) hx hb dX4_actsLeft_5 (by decide +kernel) ?_
  refine lv_iand hx hb dX4_actsLeft_7 ?_
  exact W.iret (v := (((jl_ushr a0 (48 : Int32)).toInt32) &&& (15 : Int32))) hx hb hr (fun t ht _ => ⟨congrArg (fun z => Outcome.returned (some (Value.int z))) hR, ht⟩) t_nil dX4_actsLeft_8
def cf_X4_withActsLeft  (a0 : Int64) (a1 : Int32) : Int64 :=
  ((a0 &&& (-4222124650659841 : Int64)) ||| (jl_shl (a1.toInt64) (48 : Int32)))
set_option maxHeartbeats 4000000 in
set_option maxRecDepth 100000 in
theorem c_X4_withActsLeft (l : Launch)  (a0 : Int64) (a1 : Int32)  : Met l yX4_withActsLeft wsX4_withActsLeft ({ frames := 0, cells := 0, slots := 0, locals := 0 }) (pu_P [.long a0, .int a1]) (rd_Q (some (.long (cf_X4_withActsLeft  a0 a1)))) 0 0 (fun _ => False) := by
  refine Met.ofW (cc := cX4_withActsLeft) (maxL := 3) (ret := (some .long)) (by decide) rfl ?_
  intro p e s m args below meth c s₁ B hml hv
  obtain rfl := hv
  have hx := B.exec
  have hb := B.bytes
  have hr := B.returns
  have hts := atoms_spec (ws := wsX4_withActsLeft) B.pre
  have hown : s.vm.findClass RX4 = some m.cls := findClass_of_methodNamed B.named
  have hlocks := B.notSynchronized
  have h0_ : (Cond.constantLong RX4 38 (-4222124650659841)).before _ s = true := hts _ (by decide +kernel)
  generalize hR : cf_X4_withActsLeft  a0 a1 = R
  have hl := lv_entry ([.long a0, .int a1]) (n := 3) (Nat.le_of_ble_eq_true rfl)
  rw [lg_entry_eq]
  generalize (lg_sl ([.long a0, .int a1]) ++ List.replicate (3 - (lg_sl ([.long a0, .int a1])).length) Slot.unset).toArray = ls at hl ⊢
  have hl : lv_has ls 3 [(0, .long a0), (2, .int a1)] := hl
  unfold cf_X4_withActsLeft at hR
  refine lv_lload_n hx hb dX4_withActsLeft_0 rfl (lv_at hl 0 rfl) ?_
  refine lv_ldc2 (v := (-4222124650659841 : Int64)) hx hb hown h0_ dX4_withActsLeft_1 ?_
  refine lv_land hx hb dX4_withActsLeft_4 ?_
  refine lv_iload_n hx hb dX4_withActsLeft_5 rfl (lv_at hl 1 rfl) ?_
  refine lv_i2l (v := (a1.toInt64)) hx hb dX4_withActsLeft_6 rfl ?_
  refine lv_bipush (v := (48 : Int32)) hx hb dX4_withActsLeft_7 (by decide +kernel) ?_
  refine lv_lshl (v := (jl_shl (a1.toInt64) (48 : Int32))) hx hb dX4_withActsLeft_9 rfl ?_
  refine lv_lor hx hb dX4_withActsLeft_10 ?_
  exact W.lret (v := ((a0 &&& (-4222124650659841 : Int64)) ||| (jl_shl (a1.toInt64) (48 : Int32)))) hx hb hr (fun t ht _ => ⟨congrArg (fun z => Outcome.returned (some (Value.long z))) hR, ht⟩) t_nil dX4_withActsLeft_11

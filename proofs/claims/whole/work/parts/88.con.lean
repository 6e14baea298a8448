/-! constructors -/
def ar_c (cyI cyJ cyZ : ClassId) (U : State) : Prop := U.vm.findClass ("[" ++ FieldType.int.toString) = some cyI ∧ U.vm.findClass ("[" ++ FieldType.long.toString) = some cyJ ∧ U.vm.findClass ("[" ++ FieldType.boolean.toString) = some cyZ ∧ va_Nw (.methodLinkNest RX5 9 yX3_init RX5) U
theorem ar_c.warm {cyI cyJ cyZ : ClassId} {u U : State} (hW : u.WarmedH U.vm) (h : ar_c cyI cyJ cyZ u) : ar_c cyI cyJ cyZ U := ⟨by rw [hW.alike.findClass]; exact h.1, by rw [hW.alike.findClass]; exact h.2.1, by rw [hW.alike.findClass]; exact h.2.2.1, va_Nw.warmM hW h.2.2.2⟩
def cn_P (av : List Value) (sz : Nat) (D : va_G) (cl : List vw_C) (ws : va_W) (tys : List (ClassId × FieldType)) (cyI cyJ cyZ : ClassId) : Array Value → State → Prop := fun v U => v = av.toArray ∧ U.heap.size = sz ∧ va_P D cl ws U.heap ∧ va_K D cl tys U ∧ va_D (fun _ => True) ws ∧ ar_c cyI cyJ cyZ U
theorem cn_blind {av : List Value} {sz : Nat} {D : va_G} {cl : List vw_C} {ws : va_W} {tys : List (ClassId × FieldType)} {cyI cyJ cyZ : ClassId} : FrameBlind (cn_P av sz D cl ws tys cyI cyJ cyZ) := fun a U g mk q => ⟨q.1, q.2.1, q.2.2.1, va_K.moved (u := U) (U := U.calling g mk a) (Vm.Alike.refl U.vm) q.2.2.2.1, q.2.2.2.2.1, ar_c.warm (u := U) (U := U.calling g mk a) (State.WarmedH.refl U) q.2.2.2.2.2⟩
abbrev cn_Q {S : Type} (w : S → va_W) (D : va_G) (cl : List vw_C) (A : Nat → Prop) : Array Value → State → Outcome → State → Prop := va_Qv (fun _ : S => True) (fun u t => va_P D cl (w u) t.heap ∧ va_D A (w u)) A
theorem ca_arr {cA : ClassId} {N : Nat} {f g : Nat → Value} (h : ∀ k, k < N → f k = g k) : arrV cA N f = arrV cA N g := by
  unfold arrV
  congr 1
  congr 1
  funext j
  exact h j.val j.isLt
theorem ca_I {N : Nat} {z : Nat → Int32} (h : ∀ k, k < N → z k = 0) (cA : ClassId) : vp_cell cA (N, .inl z) = arrV cA N (fun _ => defaultValue .int) := ca_arr (f := fun j => Value.int (z j)) (g := fun _ => Value.int 0) (fun k hk => congrArg Value.int (h k hk))
theorem ca_J {N : Nat} {z : Nat → Int64} (h : ∀ k, k < N → z k = 0) (cA : ClassId) : vp_cell cA (N, .inr (.inl z)) = arrV cA N (fun _ => defaultValue .long) := ca_arr (f := fun j => Value.long (z j)) (g := fun _ => Value.long 0) (fun k hk => congrArg Value.long (h k hk))
theorem ca_Z {N : Nat} {z : Nat → Int32} (h : ∀ k, k < N → z k = 0) (cA : ClassId) : vp_cell cA (N, .inl z) = arrV cA N (fun _ => defaultValue .boolean) := ca_arr (f := fun j => Value.int (z j)) (g := fun _ => Value.int 0) (fun k hk => congrArg Value.int (h k hk))
/-- beyond its cells a row of links says NOTHING -/
def zN (n : Nat) : Nat → Int32 := fun k => if k < n then 0 else -1
theorem zN_0 {n : Nat} : ∀ k, k < n → zN n k = 0 := fun k hk => by unfold zN; rw [if_pos hk]
abbrev z0 : Nat → Int32 := fun _ => 0
abbrev zL : Nat → Int64 := fun _ => 0
section CN2
variable {p : Program} {l : Launch} {e : Env} {R : Room} {s : State} {m : MethodId} {args : Array Value} {below : List Frame} {meth : Method} {c : Code} {H : Heap} {locs : List Loc} {cells slots : Nat} {Q : State → Prop}
theorem ca_newa {pc : Nat} {ls : Array Slot} {rest : List Value} {cc : ByteArray} {D : va_G} {cl : List vw_C} {ws : va_W} {A : Nat → Prop} {H0 : Heap} (hexec : p.tables.exec = Jvm.exec) (hb : c.code = cc) {atype : ArrayType} (harr : (Cond.arrayClass (newarray.typeOf atype)).before args s = true) {ty : FieldType} (hty : newarray.typeOf atype = ty) {cA : ClassId} (hfc : s.vm.findClass ("[" ++ ty.toString) = some cA) (hP : va_P D cl ws H) (hD : va_D A ws) (hS : va_S A H0 H locs) (hA : ∀ q, H0.size ≤ q → A q)
    {n : Int32} {N' : Nat} {a0 : vp_A} (ha : ∀ cA : ClassId, vp_cell cA a0 = arrV cA N' (fun _ => defaultValue ty)) (hn : ¬ n < 0) (hN : n.toNatClampNeg = N') (hbytes : N' * componentBytes ty ≤ 536870912) (hcells : cells + 1 ≤ R.cells) (hslots : slots + N' ≤ R.slots) (hdg : decode cc pc = .ok (.newarray atype, 2))
    (kk : ∀ (q : Nat) (H1 : Heap), va_P D cl (ws ++ [(q, .inl (cA, a0))]) H1 → va_D A (ws ++ [(q, .inl (cA, a0))]) → va_S A H0 H1 locs →
      W p l e R s m args below meth c H1 locs (cells + 1) (slots + N') Q (F0 m (pc + 2) ls (.ref q :: rest))) : W p l e R s m args below meth c H locs cells slots Q (F0 m pc ls (.int n :: rest)) := by
  subst hty
  refine va_newaK hexec hb harr rfl hdg rfl hn hN hbytes hcells hslots rfl fun H1 cA' e1 z1 o1 hAr hNm => ?_
  have hcc : cA' = cA := Option.some.inj (hNm.symm.trans hfc)
  subst hcc
  have hk : ∀ (k : Nat) (x : Nat × va_E), ws[k]? = some x → H1[x.1]? = H[x.1]? := fun k x hx => o1 x.1 ((hP k x hx).lt)
  refine kk H.size H1 ((hP.kept hk).app (fun k x hx => ?_)) (hD.push hP rfl (hA _ hS.1)) ⟨Nat.le_trans hS.1 (by omega), fun x h1 h2 => (o1 x (Nat.lt_of_lt_of_le h1 hS.1)).trans (hS.2.1 x h1 h2), hS.2.2⟩
  have hz : k < 1 := (List.getElem?_eq_some_iff.mp hx).1
  rw [show k = 0 by omega] at hx
  have hx' := Option.some.inj hx
  subst hx'
  show H1[H.size]? = some (vp_cell cA' a0)
  rw [ha cA']; exact e1
end CN2
abbrev cw_X3_init (h0 : Nat) (cyI cyJ cyZ : ClassId) : Unit → va_W := fun (_ : Unit) => [(h0, .inr (2, [.int (1 : Int32), .int (1 : Int32), .int (1 : Int32), .int (0 : Int32), .int (0 : Int32), .long (0 : Int64)]))]
set_option maxHeartbeats 4000000 in
set_option maxRecDepth 100000 in
theorem c_X3_init (l : Launch) (dC : Nat → ClassId) (dI : Nat → Nat → Nat) (h0 : Nat) (cyI cyJ cyZ : ClassId) (sz : Nat) : Met l yX3_init wsX3_init ({ frames := 1, cells := 0, slots := 0, locals := 20 }) (cn_P [.ref h0] sz (dC, dI) kcl [(h0, .inr (2, [.int 0, .int 0, .int 0, .int 0, .int 0, .long 0]))] [] cyI cyJ cyZ) (cn_Q (cw_X3_init h0  cyI cyJ cyZ) (dC, dI) kcl (va_A [(h0, .inr (2, [.int 0, .int 0, .int 0, .int 0, .int 0, .long 0]))] sz)) 0 0 (va_A [(h0, .inr (2, [.int 0, .int 0, .int 0, .int 0, .int 0, .long 0]))] sz) := by
  refine Met.ofW (cc := cX3_init) (maxL := 1) (ret := none) (by decide) rfl ?_
  intro p e s m args below meth c s₁ B hml hv
  obtain ⟨rfl, hsz, hP, hK, hD0, hF⟩ := hv
  have hx := B.exec
  have hb := B.bytes
  have hr := B.returns
  have hts := atoms_spec (ws := wsX3_init) B.pre
  have hown : s.vm.findClass RX3 = some m.cls := findClass_of_methodNamed B.named
  have hlocks := B.notSynchronized
  have hin : meth.name = "<init>" := (name_of_methodNamed B.named B.method).1
  subst hsz
  have hD := hD0.self (sz := s.heap.size)
  generalize hAe : va_A [(h0, .inr (2, [.int 0, .int 0, .int 0, .int 0, .int 0, .long 0]))] s.heap.size = A at hD ⊢
  have hA : ∀ q : Nat, s.heap.size ≤ q → A q := fun q h => by rw [← hAe]; exact Or.inr h
  have hP : va_P (dC, dI) kcl [(h0, .inr (2, [.int 0, .int 0, .int 0, .int 0, .int 0, .long 0]))] s.heap := hP
  have hl := lv_entry ([.ref h0]) (n := 1) (Nat.le_of_ble_eq_true rfl)
  rw [lg_entry_eq]
  generalize (lg_sl ([.ref h0]) ++ List.replicate (1 - (lg_sl ([.ref h0])).length) Slot.unset).toArray = ls at hl ⊢
  have hl : lv_has ls 1 [(0, .ref h0)] := hl
  refine mu_start (A := A) (fun H locs hP hS => ?_) hP
  refine lv_aload_n hx hb dX3_init_0 rfl (lv_at hl 0 rfl) ?_
  refine W.objInit hx hb hown (hts (.methodLink RX3 1 objectInit) (by decide +kernel)) (hts (.instanceMethod objectInit) (by decide +kernel)) (hts (.code objectInit ⟨#[0xb1]⟩ 1 none) (by decide +kernel)) rfl (by rw [hml]; exact hl.1) rfl dX3_init_1 (Nat.le_of_ble_eq_true rfl) (Nat.le_of_ble_eq_true rfl) ?_
  refine W.eq (g2 := F0 m 4 ls []) rfl ?_
  refine lv_aload_n hx hb dX3_init_4 rfl (lv_at hl 0 rfl) ?_
  refine lv_iconst (v := (1 : Int32)) hx hb dX3_init_5 (by decide +kernel) ?_
  refine va_put (D := (dC, dI)) (ci := 2) (v := .int (1 : Int32)) (ty := .int) (C := RX3) (T := TX3) (N := 6) hx hb hts (fun w h => List.mem_cons_of_mem _ (List.mem_append_right _ h)) tyX3 tyX3_ok nmX3 hown hK hP hD hS 0 rfl rfl 0 (by decide) (hts (.fieldLink RX3 7 "ColourTrier$Setup" "objects" "I") (by decide +kernel)) (fun _ h9 => h9) rfl (by decide +kernel) rfl rfl (Nat.le_of_ble_eq_true rfl) dX3_init_6 (fun H locs hP hD hS => ?_)
  have hP : va_P (dC, dI) kcl [(h0, .inr (2, [.int (1 : Int32), .int 0, .int 0, .int 0, .int 0, .long 0]))] H := hP
  have hD : va_D A [(h0, .inr (2, [.int (1 : Int32), .int 0, .int 0, .int 0, .int 0, .long 0]))] := hD
  refine lv_aload_n hx hb dX3_init_9 rfl (lv_at hl 0 rfl) ?_
  refine lv_iconst (v := (1 : Int32)) hx hb dX3_init_10 (by decide +kernel) ?_
  refine va_put (D := (dC, dI)) (ci := 2) (v := .int (1 : Int32)) (ty := .int) (C := RX3) (T := TX3) (N := 6) hx hb hts (fun w h => List.mem_cons_of_mem _ (List.mem_append_right _ h)) tyX3 tyX3_ok nmX3 hown hK hP hD hS 0 rfl rfl 1 (by decide) (hts (.fieldLink RX3 13 "ColourTrier$Setup" "fields" "I") (by decide +kernel)) (fun _ h9 => h9) rfl (by decide +kernel) rfl rfl (Nat.le_of_ble_eq_true rfl) dX3_init_11 (fun H locs hP hD hS => ?_)
  have hP : va_P (dC, dI) kcl [(h0, .inr (2, [.int (1 : Int32), .int (1 : Int32), .int 0, .int 0, .int 0, .long 0]))] H := hP
  have hD : va_D A [(h0, .inr (2, [.int (1 : Int32), .int (1 : Int32), .int 0, .int 0, .int 0, .long 0]))] := hD
  refine lv_aload_n hx hb dX3_init_14 rfl (lv_at hl 0 rfl) ?_
  refine lv_iconst (v := (1 : Int32)) hx hb dX3_init_15 (by decide +kernel) ?_
  refine va_put (D := (dC, dI)) (ci := 2) (v := .int (1 : Int32)) (ty := .int) (C := RX3) (T := TX3) (N := 6) hx hb hts (fun w h => List.mem_cons_of_mem _ (List.mem_append_right _ h)) tyX3 tyX3_ok nmX3 hown hK hP hD hS 0 rfl rfl 2 (by decide) (hts (.fieldLink RX3 16 "ColourTrier$Setup" "roots" "I") (by decide +kernel)) (fun _ h9 => h9) rfl (by decide +kernel) rfl rfl (Nat.le_of_ble_eq_true rfl) dX3_init_16 (fun H locs hP hD hS => ?_)
  have hP : va_P (dC, dI) kcl [(h0, .inr (2, [.int (1 : Int32), .int (1 : Int32), .int (1 : Int32), .int 0, .int 0, .long 0]))] H := hP
  have hD : va_D A [(h0, .inr (2, [.int (1 : Int32), .int (1 : Int32), .int (1 : Int32), .int 0, .int 0, .long 0]))] := hD
  refine lv_aload_n hx hb dX3_init_19 rfl (lv_at hl 0 rfl) ?_
  refine lv_iconst (v := (0 : Int32)) hx hb dX3_init_20 (by decide +kernel) ?_
  refine va_put (D := (dC, dI)) (ci := 2) (v := .int (0 : Int32)) (ty := .int) (C := RX3) (T := TX3) (N := 6) hx hb hts (fun w h => List.mem_cons_of_mem _ (List.mem_append_right _ h)) tyX3 tyX3_ok nmX3 hown hK hP hD hS 0 rfl rfl 3 (by decide) (hts (.fieldLink RX3 19 "ColourTrier$Setup" "barriers" "I") (by decide +kernel)) (fun _ h9 => h9) rfl (by decide +kernel) rfl rfl (Nat.le_of_ble_eq_true rfl) dX3_init_21 (fun H locs hP hD hS => ?_)
  have hP : va_P (dC, dI) kcl [(h0, .inr (2, [.int (1 : Int32), .int (1 : Int32), .int (1 : Int32), .int (0 : Int32), .int 0, .long 0]))] H := hP
  have hD : va_D A [(h0, .inr (2, [.int (1 : Int32), .int (1 : Int32), .int (1 : Int32), .int (0 : Int32), .int 0, .long 0]))] := hD
  refine lv_aload_n hx hb dX3_init_24 rfl (lv_at hl 0 rfl) ?_
  refine lv_iconst (v := (0 : Int32)) hx hb dX3_init_25 (by decide +kernel) ?_
  refine va_put (D := (dC, dI)) (ci := 2) (v := .int (0 : Int32)) (ty := .int) (C := RX3) (T := TX3) (N := 6) hx hb hts (fun w h => List.mem_cons_of_mem _ (List.mem_append_right _ h)) tyX3 tyX3_ok nmX3 hown hK hP hD hS 0 rfl rfl 4 (by decide) (hts (.fieldLink RX3 22 "ColourTrier$Setup" "acts" "I") (by decide +kernel)) (fun _ h9 => h9) rfl (by decide +kernel) rfl rfl (Nat.le_of_ble_eq_true rfl) dX3_init_26 (fun H locs hP hD hS => ?_)
  have hP : va_P (dC, dI) kcl [(h0, .inr (2, [.int (1 : Int32), .int (1 : Int32), .int (1 : Int32), .int (0 : Int32), .int (0 : Int32), .long 0]))] H := hP
  have hD : va_D A [(h0, .inr (2, [.int (1 : Int32), .int (1 : Int32), .int (1 : Int32), .int (0 : Int32), .int (0 : Int32), .long 0]))] := hD
  refine lv_aload_n hx hb dX3_init_29 rfl (lv_at hl 0 rfl) ?_
  refine lv_lconst (v := (0 : Int64)) hx hb dX3_init_30 (by decide +kernel) ?_
  refine va_put (D := (dC, dI)) (ci := 2) (v := .long (0 : Int64)) (ty := .long) (C := RX3) (T := TX3) (N := 6) hx hb hts (fun w h => List.mem_cons_of_mem _ (List.mem_append_right _ h)) tyX3 tyX3_ok nmX3 hown hK hP hD hS 0 rfl rfl 5 (by decide) (hts (.fieldLink RX3 25 "ColourTrier$Setup" "links" "J") (by decide +kernel)) (fun _ h9 => h9) rfl (by decide +kernel) rfl rfl (Nat.le_of_ble_eq_true rfl) dX3_init_31 (fun H locs hP hD hS => ?_)
  have hP : va_P (dC, dI) kcl [(h0, .inr (2, [.int (1 : Int32), .int (1 : Int32), .int (1 : Int32), .int (0 : Int32), .int (0 : Int32), .long (0 : Int64)]))] H := hP
  have hD : va_D A [(h0, .inr (2, [.int (1 : Int32), .int (1 : Int32), .int (1 : Int32), .int (0 : Int32), .int (0 : Int32), .long (0 : Int64)]))] := hD
  refine W.widen (k := 0) (n := 0) (Nat.le_of_ble_eq_true rfl) (Nat.le_of_ble_eq_true rfl) ?_
  exact W.vret hx hb hr (fun t ht _ => ⟨⟨(), rfl, trivial, show va_P (dC, dI) kcl [(h0, .inr (2, [.int (1 : Int32), .int (1 : Int32), .int (1 : Int32), .int (0 : Int32), .int (0 : Int32), .long (0 : Int64)]))] t.heap by rw [ht]; exact hP, hD⟩, hS.F ht⟩) hS.2.2 dX3_init_34
abbrev cw_X1_init (h0 : Nat) (p0 : Nat) (cyI cyJ cyZ : ClassId) : Unit → va_W := fun (_ : Unit) => [(h0, .inr (0, [.ref p0]))]
set_option maxHeartbeats 4000000 in
set_option maxRecDepth 100000 in
theorem c_X1_init (l : Launch) (dC : Nat → ClassId) (dI : Nat → Nat → Nat) (h0 : Nat) (p0 : Nat) (cyI cyJ cyZ : ClassId) (sz : Nat) : Met l yX1_init wsX1_init ({ frames := 1, cells := 0, slots := 0, locals := 20 }) (cn_P [.ref h0, .ref p0] sz (dC, dI) kcl [(h0, .inr (0, [.null]))] [] cyI cyJ cyZ) (cn_Q (cw_X1_init h0 p0 cyI cyJ cyZ) (dC, dI) kcl (va_A [(h0, .inr (0, [.null]))] sz)) 0 0 (va_A [(h0, .inr (0, [.null]))] sz) := by
  refine Met.ofW (cc := cX1_init) (maxL := 2) (ret := none) (by decide) rfl ?_
  intro p e s m args below meth c s₁ B hml hv
  obtain ⟨rfl, hsz, hP, hK, hD0, hF⟩ := hv
  have hx := B.exec
  have hb := B.bytes
  have hr := B.returns
  have hts := atoms_spec (ws := wsX1_init) B.pre
  have hown : s.vm.findClass RX1 = some m.cls := findClass_of_methodNamed B.named
  have hlocks := B.notSynchronized
  have hin : meth.name = "<init>" := (name_of_methodNamed B.named B.method).1
  subst hsz
  have hD := hD0.self (sz := s.heap.size)
  generalize hAe : va_A [(h0, .inr (0, [.null]))] s.heap.size = A at hD ⊢
  have hA : ∀ q : Nat, s.heap.size ≤ q → A q := fun q h => by rw [← hAe]; exact Or.inr h
  have hP : va_P (dC, dI) kcl [(h0, .inr (0, [.null]))] s.heap := hP
  have hl := lv_entry ([.ref h0, .ref p0]) (n := 2) (Nat.le_of_ble_eq_true rfl)
  rw [lg_entry_eq]
  generalize (lg_sl ([.ref h0, .ref p0]) ++ List.replicate (2 - (lg_sl ([.ref h0, .ref p0])).length) Slot.unset).toArray = ls at hl ⊢
  have hl : lv_has ls 2 [(0, .ref h0), (1, .ref p0)] := hl
  refine mu_start (A := A) (fun H locs hP hS => ?_) hP
  refine lv_aload_n hx hb dX1_init_0 rfl (lv_at hl 0 rfl) ?_
  refine W.objInit hx hb hown (hts (.methodLink RX1 3 objectInit) (by decide +kernel)) (hts (.instanceMethod objectInit) (by decide +kernel)) (hts (.code objectInit ⟨#[0xb1]⟩ 1 none) (by decide +kernel)) rfl (by rw [hml]; exact hl.1) rfl dX1_init_1 (Nat.le_of_ble_eq_true rfl) (Nat.le_of_ble_eq_true rfl) ?_
  refine W.eq (g2 := F0 m 4 ls []) rfl ?_
  refine lv_aload_n hx hb dX1_init_4 rfl (lv_at hl 0 rfl) ?_
  refine lv_aload_n hx hb dX1_init_5 rfl (lv_at hl 1 rfl) ?_
  refine va_putF (D := (dC, dI)) (ci := 0) (v := .ref p0) (ty := (.object "ColourTrier$Setup")) (C := RX1) (T := TX1) (N := 1) hx hb hts (fun w h => List.mem_cons_of_mem _ (List.mem_append_right _ h)) tyX1 tyX1_ok nmX1 hown hK hP hD hS 0 rfl rfl 0 (by decide) (hts (.fieldLink RX1 9 "ColourTrier$Moves" "setup" "LColourTrier$Setup;") (by decide +kernel)) (fun _ h9 => h9) rfl hin rfl (by decide +kernel) rfl rfl (Nat.le_of_ble_eq_true rfl) dX1_init_6 (fun H locs hP hD hS => ?_)
  have hP : va_P (dC, dI) kcl [(h0, .inr (0, [.ref p0]))] H := hP
  have hD : va_D A [(h0, .inr (0, [.ref p0]))] := hD
  refine W.widen (k := 0) (n := 0) (Nat.le_of_ble_eq_true rfl) (Nat.le_of_ble_eq_true rfl) ?_
  exact W.vret hx hb hr (fun t ht _ => ⟨⟨(), rfl, trivial, show va_P (dC, dI) kcl [(h0, .inr (0, [.ref p0]))] t.heap by rw [ht]; exact hP, hD⟩, hS.F ht⟩) hS.2.2 dX1_init_9
abbrev cw_X2_init (h0 : Nat) (p0 : Nat) (cyI cyJ cyZ : ClassId) : Nat × Nat × Nat × Nat → va_W
  | (qs, qo, qh, qw) => [(h0, .inr (1, [.ref p0, .ref qs, .ref qo, .ref qh, .int (0 : Int32), .ref qw, .int (0 : Int32)])), (qs, .inl (cyJ, 20000, .inr (.inl zL))), (qo, .inl (cyI, 20000, .inl z0)), (qh, .inl (cyI, 32768, .inl z0)), (qw, .inl (cyI, 40, .inl z0))]
set_option maxHeartbeats 4000000 in
set_option maxRecDepth 100000 in
theorem c_X2_init (l : Launch) (dC : Nat → ClassId) (dI : Nat → Nat → Nat) (h0 : Nat) (p0 : Nat) (cyI cyJ cyZ : ClassId) (sz : Nat) : Met l yX2_init wsX2_init ({ frames := 1, cells := 4, slots := 72808, locals := 20 }) (cn_P [.ref h0, .ref p0] sz (dC, dI) kcl [(h0, .inr (1, [.null, .null, .null, .null, .int 0, .null, .int 0]))] [] cyI cyJ cyZ) (cn_Q (cw_X2_init h0 p0 cyI cyJ cyZ) (dC, dI) kcl (va_A [(h0, .inr (1, [.null, .null, .null, .null, .int 0, .null, .int 0]))] sz)) 4 72808 (va_A [(h0, .inr (1, [.null, .null, .null, .null, .int 0, .null, .int 0]))] sz) := by
  refine Met.ofW (cc := cX2_init) (maxL := 2) (ret := none) (by decide) rfl ?_
  intro p e s m args below meth c s₁ B hml hv
  obtain ⟨rfl, hsz, hP, hK, hD0, hF⟩ := hv
  have hx := B.exec
  have hb := B.bytes
  have hr := B.returns
  have hts := atoms_spec (ws := wsX2_init) B.pre
  have hown : s.vm.findClass RX2 = some m.cls := findClass_of_methodNamed B.named
  have hlocks := B.notSynchronized
  have hin : meth.name = "<init>" := (name_of_methodNamed B.named B.method).1
  subst hsz
  have hD := hD0.self (sz := s.heap.size)
  generalize hAe : va_A [(h0, .inr (1, [.null, .null, .null, .null, .int 0, .null, .int 0]))] s.heap.size = A at hD ⊢
  have hA : ∀ q : Nat, s.heap.size ≤ q → A q := fun q h => by rw [← hAe]; exact Or.inr h
  have hP : va_P (dC, dI) kcl [(h0, .inr (1, [.null, .null, .null, .null, .int 0, .null, .int 0]))] s.heap := hP
  have h0_ : (Cond.constant RX2 17 (32768)).before _ s = true := hts _ (by decide +kernel)
  have hl := lv_entry ([.ref h0, .ref p0]) (n := 2) (Nat.le_of_ble_eq_true rfl)
  rw [lg_entry_eq]
  generalize (lg_sl ([.ref h0, .ref p0]) ++ List.replicate (2 - (lg_sl ([.ref h0, .ref p0])).length) Slot.unset).toArray = ls at hl ⊢
  have hl : lv_has ls 2 [(0, .ref h0), (1, .ref p0)] := hl
  refine mu_start (A := A) (fun H locs hP hS => ?_) hP
  refine lv_aload_n hx hb dX2_init_0 rfl (lv_at hl 0 rfl) ?_
  refine W.objInit hx hb hown (hts (.methodLink RX2 1 objectInit) (by decide +kernel)) (hts (.instanceMethod objectInit) (by decide +kernel)) (hts (.code objectInit ⟨#[0xb1]⟩ 1 none) (by decide +kernel)) rfl (by rw [hml]; exact hl.1) rfl dX2_init_1 (Nat.le_of_ble_eq_true rfl) (Nat.le_of_ble_eq_true rfl) ?_
  refine W.eq (g2 := F0 m 4 ls []) rfl ?_
  refine lv_aload_n hx hb dX2_init_4 rfl (lv_at hl 0 rfl) ?_
  refine lv_sipush (v := (20000 : Int32)) hx hb dX2_init_5 (by decide +kernel) ?_
  refine ca_newa (atype := .long) (ty := .long) (cA := cyJ) (N' := 20000) (a0 := (20000, .inr (.inl zL))) hx hb (hts (.arrayClass .long) (by decide +kernel)) rfl hF.2.1 hP hD hS hA (ca_J (fun _ _ => rfl)) (by decide +kernel) (by decide +kernel) (by decide) (Nat.le_of_ble_eq_true rfl) (Nat.le_of_ble_eq_true rfl) dX2_init_8 (fun qs H hP hD hS => ?_)
  have hP : va_P (dC, dI) kcl [(h0, .inr (1, [.null, .null, .null, .null, .int 0, .null, .int 0])), (qs, .inl (cyJ, 20000, .inr (.inl zL)))] H := hP
  have hD : va_D A [(h0, .inr (1, [.null, .null, .null, .null, .int 0, .null, .int 0])), (qs, .inl (cyJ, 20000, .inr (.inl zL)))] := hD
  refine va_putF (D := (dC, dI)) (ci := 1) (v := .ref qs) (ty := (.array .long)) (C := RX2) (T := TX2) (N := 7) hx hb hts (fun w h => List.mem_cons_of_mem _ (List.mem_append_right _ h)) tyX2 tyX2_ok nmX2 hown hK hP hD hS 0 rfl rfl 1 (by decide) (hts (.fieldLink RX2 9 "ColourTrier$Search" "states" "[J") (by decide +kernel)) (fun _ h9 => h9) rfl hin rfl (by decide +kernel) rfl rfl (Nat.le_of_ble_eq_true rfl) dX2_init_10 (fun H locs hP hD hS => ?_)
  have hP : va_P (dC, dI) kcl [(h0, .inr (1, [.null, .ref qs, .null, .null, .int 0, .null, .int 0])), (qs, .inl (cyJ, 20000, .inr (.inl zL)))] H := hP
  have hD : va_D A [(h0, .inr (1, [.null, .ref qs, .null, .null, .int 0, .null, .int 0])), (qs, .inl (cyJ, 20000, .inr (.inl zL)))] := hD
  refine lv_aload_n hx hb dX2_init_13 rfl (lv_at hl 0 rfl) ?_
  refine lv_sipush (v := (20000 : Int32)) hx hb dX2_init_14 (by decide +kernel) ?_
  refine ca_newa (atype := .int) (ty := .int) (cA := cyI) (N' := 20000) (a0 := (20000, .inl z0)) hx hb (hts (.arrayClass .int) (by decide +kernel)) rfl hF.1 hP hD hS hA (ca_I (fun _ _ => rfl)) (by decide +kernel) (by decide +kernel) (by decide) (Nat.le_of_ble_eq_true rfl) (Nat.le_of_ble_eq_true rfl) dX2_init_17 (fun qo H hP hD hS => ?_)
  have hP : va_P (dC, dI) kcl [(h0, .inr (1, [.null, .ref qs, .null, .null, .int 0, .null, .int 0])), (qs, .inl (cyJ, 20000, .inr (.inl zL))), (qo, .inl (cyI, 20000, .inl z0))] H := hP
  have hD : va_D A [(h0, .inr (1, [.null, .ref qs, .null, .null, .int 0, .null, .int 0])), (qs, .inl (cyJ, 20000, .inr (.inl zL))), (qo, .inl (cyI, 20000, .inl z0))] := hD
  refine va_putF (D := (dC, dI)) (ci := 1) (v := .ref qo) (ty := (.array .int)) (C := RX2) (T := TX2) (N := 7) hx hb hts (fun w h => List.mem_cons_of_mem _ (List.mem_append_right _ h)) tyX2 tyX2_ok nmX2 hown hK hP hD hS 0 rfl rfl 2 (by decide) (hts (.fieldLink RX2 13 "ColourTrier$Search" "origins" "[I") (by decide +kernel)) (fun _ h9 => h9) rfl hin rfl (by decide +kernel) rfl rfl (Nat.le_of_ble_eq_true rfl) dX2_init_19 (fun H locs hP hD hS => ?_)
  have hP : va_P (dC, dI) kcl [(h0, .inr (1, [.null, .ref qs, .ref qo, .null, .int 0, .null, .int 0])), (qs, .inl (cyJ, 20000, .inr (.inl zL))), (qo, .inl (cyI, 20000, .inl z0))] H := hP
  have hD : va_D A [(h0, .inr (1, [.null, .ref qs, .ref qo, .null, .int 0, .null, .int 0])), (qs, .inl (cyJ, 20000, .inr (.inl zL))), (qo, .inl (cyI, 20000, .inl z0))] := hD
  refine lv_aload_n hx hb dX2_init_22 rfl (lv_at hl 0 rfl) ?_
  refine lv_ldc (v := (32768 : Int32)) hx hb hown h0_ dX2_init_23 ?_
  refine ca_newa (atype := .int) (ty := .int) (cA := cyI) (N' := 32768) (a0 := (32768, .inl z0)) hx hb (hts (.arrayClass .int) (by decide +kernel)) rfl hF.1 hP hD hS hA (ca_I (fun _ _ => rfl)) (by decide +kernel) (by decide +kernel) (by decide) (Nat.le_of_ble_eq_true rfl) (Nat.le_of_ble_eq_true rfl) dX2_init_25 (fun qh H hP hD hS => ?_)
  have hP : va_P (dC, dI) kcl [(h0, .inr (1, [.null, .ref qs, .ref qo, .null, .int 0, .null, .int 0])), (qs, .inl (cyJ, 20000, .inr (.inl zL))), (qo, .inl (cyI, 20000, .inl z0)), (qh, .inl (cyI, 32768, .inl z0))] H := hP
  have hD : va_D A [(h0, .inr (1, [.null, .ref qs, .ref qo, .null, .int 0, .null, .int 0])), (qs, .inl (cyJ, 20000, .inr (.inl zL))), (qo, .inl (cyI, 20000, .inl z0)), (qh, .inl (cyI, 32768, .inl z0))] := hD
  refine va_putF (D := (dC, dI)) (ci := 1) (v := .ref qh) (ty := (.array .int)) (C := RX2) (T := TX2) (N := 7) hx hb hts (fun w h => List.mem_cons_of_mem _ (List.mem_append_right _ h)) tyX2 tyX2_ok nmX2 hown hK hP hD hS 0 rfl rfl 3 (by decide) (hts (.fieldLink RX2 18 "ColourTrier$Search" "slots" "[I") (by decide +kernel)) (fun _ h9 => h9) rfl hin rfl (by decide +kernel) rfl rfl (Nat.le_of_ble_eq_true rfl) dX2_init_27 (fun H locs hP hD hS => ?_)
  have hP : va_P (dC, dI) kcl [(h0, .inr (1, [.null, .ref qs, .ref qo, .ref qh, .int 0, .null, .int 0])), (qs, .inl (cyJ, 20000, .inr (.inl zL))), (qo, .inl (cyI, 20000, .inl z0)), (qh, .inl (cyI, 32768, .inl z0))] H := hP
  have hD : va_D A [(h0, .inr (1, [.null, .ref qs, .ref qo, .ref qh, .int 0, .null, .int 0])), (qs, .inl (cyJ, 20000, .inr (.inl zL))), (qo, .inl (cyI, 20000, .inl z0)), (qh, .inl (cyI, 32768, .inl z0))] := hD
  refine lv_aload_n hx hb dX2_init_30 rfl (lv_at hl 0 rfl) ?_
  refine lv_iconst (v := (0 : Int32)) hx hb dX2_init_31 (by decide +kernel) ?_
  refine va_put (D := (dC, dI)) (ci := 1) (v := .int (0 : Int32)) (ty := .int) (C := RX2) (T := TX2) (N := 7) hx hb hts (fun w h => List.mem_cons_of_mem _ (List.mem_append_right _ h)) tyX2 tyX2_ok nmX2 hown hK hP hD hS 0 rfl rfl 4 (by decide) (hts (.fieldLink RX2 21 "ColourTrier$Search" "stateCount" "I") (by decide +kernel)) (fun _ h9 => h9) rfl (by decide +kernel) rfl rfl (Nat.le_of_ble_eq_true rfl) dX2_init_32 (fun H locs hP hD hS => ?_)
  have hP : va_P (dC, dI) kcl [(h0, .inr (1, [.null, .ref qs, .ref qo, .ref qh, .int (0 : Int32), .null, .int 0])), (qs, .inl (cyJ, 20000, .inr (.inl zL))), (qo, .inl (cyI, 20000, .inl z0)), (qh, .inl (cyI, 32768, .inl z0))] H := hP
  have hD : va_D A [(h0, .inr (1, [.null, .ref qs, .ref qo, .ref qh, .int (0 : Int32), .null, .int 0])), (qs, .inl (cyJ, 20000, .inr (.inl zL))), (qo, .inl (cyI, 20000, .inl z0)), (qh, .inl (cyI, 32768, .inl z0))] := hD
  refine lv_aload_n hx hb dX2_init_35 rfl (lv_at hl 0 rfl) ?_
  refine lv_bipush (v := (40 : Int32)) hx hb dX2_init_36 (by decide +kernel) ?_
  refine ca_newa (atype := .int) (ty := .int) (cA := cyI) (N' := 40) (a0 := (40, .inl z0)) hx hb (hts (.arrayClass .int) (by decide +kernel)) rfl hF.1 hP hD hS hA (ca_I (fun _ _ => rfl)) (by decide +kernel) (by decide +kernel) (by decide) (Nat.le_of_ble_eq_true rfl) (Nat.le_of_ble_eq_true rfl) dX2_init_38 (fun qw H hP hD hS => ?_)
  have hP : va_P (dC, dI) kcl [(h0, .inr (1, [.null, .ref qs, .ref qo, .ref qh, .int (0 : Int32), .null, .int 0])), (qs, .inl (cyJ, 20000, .inr (.inl zL))), (qo, .inl (cyI, 20000, .inl z0)), (qh, .inl (cyI, 32768, .inl z0)), (qw, .inl (cyI, 40, .inl z0))] H := hP
  have hD : va_D A [(h0, .inr (1, [.null, .ref qs, .ref qo, .ref qh, .int (0 : Int32), .null, .int 0])), (qs, .inl (cyJ, 20000, .inr (.inl zL))), (qo, .inl (cyI, 20000, .inl z0)), (qh, .inl (cyI, 32768, .inl z0)), (qw, .inl (cyI, 40, .inl z0))] := hD
  refine va_putF (D := (dC, dI)) (ci := 1) (v := .ref qw) (ty := (.array .int)) (C := RX2) (T := TX2) (N := 7) hx hb hts (fun w h => List.mem_cons_of_mem _ (List.mem_append_right _ h)) tyX2 tyX2_ok nmX2 hown hK hP hD hS 0 rfl rfl 5 (by decide) (hts (.fieldLink RX2 25 "ColourTrier$Search" "row" "[I") (by decide +kernel)) (fun _ h9 => h9) rfl hin rfl (by decide +kernel) rfl rfl (Nat.le_of_ble_eq_true rfl) dX2_init_40 (fun H locs hP hD hS => ?_)
  have hP : va_P (dC, dI) kcl [(h0, .inr (1, [.null, .ref qs, .ref qo, .ref qh, .int (0 : Int32), .ref qw, .int 0])), (qs, .inl (cyJ, 20000, .inr (.inl zL))), (qo, .inl (cyI, 20000, .inl z0)), (qh, .inl (cyI, 32768, .inl z0)), (qw, .inl (cyI, 40, .inl z0))] H := hP
  have hD : va_D A [(h0, .inr (1, [.null, .ref qs, .ref qo, .ref qh, .int (0 : Int32), .ref qw, .int 0])), (qs, .inl (cyJ, 20000, .inr (.inl zL))), (qo, .inl (cyI, 20000, .inl z0)), (qh, .inl (cyI, 32768, .inl z0)), (qw, .inl (cyI, 40, .inl z0))] := hD
  refine lv_aload_n hx hb dX2_init_43 rfl (lv_at hl 0 rfl) ?_
  refine lv_iconst (v := (0 : Int32)) hx hb dX2_init_44 (by decide +kernel) ?_
  refine va_put (D := (dC, dI)) (ci := 1) (v := .int (0 : Int32)) (ty := .int) (C := RX2) (T := TX2) (N := 7) hx hb hts (fun w h => List.mem_cons_of_mem _ (List.mem_append_right _ h)) tyX2 tyX2_ok nmX2 hown hK hP hD hS 0 rfl rfl 6 (by decide) (hts (.fieldLink RX2 28 "ColourTrier$Search" "rowLength" "I") (by decide +kernel)) (fun _ h9 => h9) rfl (by decide +kernel) rfl rfl (Nat.le_of_ble_eq_true rfl) dX2_init_45 (fun H locs hP hD hS => ?_)
  have hP : va_P (dC, dI) kcl [(h0, .inr (1, [.null, .ref qs, .ref qo, .ref qh, .int (0 : Int32), .ref qw, .int (0 : Int32)])), (qs, .inl (cyJ, 20000, .inr (.inl zL))), (qo, .inl (cyI, 20000, .inl z0)), (qh, .inl (cyI, 32768, .inl z0)), (qw, .inl (cyI, 40, .inl z0))] H := hP
  have hD : va_D A [(h0, .inr (1, [.null, .ref qs, .ref qo, .ref qh, .int (0 : Int32), .ref qw, .int (0 : Int32)])), (qs, .inl (cyJ, 20000, .inr (.inl zL))), (qo, .inl (cyI, 20000, .inl z0)), (qh, .inl (cyI, 32768, .inl z0)), (qw, .inl (cyI, 40, .inl z0))] := hD
  refine lv_aload_n hx hb dX2_init_48 rfl (lv_at hl 0 rfl) ?_
  refine lv_aload_n hx hb dX2_init_49 rfl (lv_at hl 1 rfl) ?_
  refine va_putF (D := (dC, dI)) (ci := 1) (v := .ref p0) (ty := (.object "ColourTrier$Moves")) (C := RX2) (T := TX2) (N := 7) hx hb hts (fun w h => List.mem_cons_of_mem _ (List.mem_append_right _ h)) tyX2 tyX2_ok nmX2 hown hK hP hD hS 0 rfl rfl 0 (by decide) (hts (.fieldLink RX2 31 "ColourTrier$Search" "moves" "LColourTrier$Moves;") (by decide +kernel)) (fun _ h9 => h9) rfl hin rfl (by decide +kernel) rfl rfl (Nat.le_of_ble_eq_true rfl) dX2_init_50 (fun H locs hP hD hS => ?_)
  have hP : va_P (dC, dI) kcl [(h0, .inr (1, [.ref p0, .ref qs, .ref qo, .ref qh, .int (0 : Int32), .ref qw, .int (0 : Int32)])), (qs, .inl (cyJ, 20000, .inr (.inl zL))), (qo, .inl (cyI, 20000, .inl z0)), (qh, .inl (cyI, 32768, .inl z0)), (qw, .inl (cyI, 40, .inl z0))] H := hP
  have hD : va_D A [(h0, .inr (1, [.ref p0, .ref qs, .ref qo, .ref qh, .int (0 : Int32), .ref qw, .int (0 : Int32)])), (qs, .inl (cyJ, 20000, .inr (.inl zL))), (qo, .inl (cyI, 20000, .inl z0)), (qh, .inl (cyI, 32768, .inl z0)), (qw, .inl (cyI, 40, .inl z0))] := hD
  refine W.widen (k := 4) (n := 72808) (Nat.le_of_ble_eq_true rfl) (Nat.le_of_ble_eq_true rfl) ?_
  exact W.vret hx hb hr (fun t ht _ => ⟨⟨(qs, qo, qh, qw), rfl, trivial, show va_P (dC, dI) kcl [(h0, .inr (1, [.ref p0, .ref qs, .ref qo, .ref qh, .int (0 : Int32), .ref qw, .int (0 : Int32)])), (qs, .inl (cyJ, 20000, .inr (.inl zL))), (qo, .inl (cyI, 20000, .inl z0)), (qh, .inl (cyI, 32768, .inl z0)), (qw, .inl (cyI, 40, .inl z0))] t.heap by rw [ht]; exact hP, hD⟩, hS.F ht⟩) hS.2.2 dX2_init_53
abbrev cw_X5_init (h0 : Nat) (cyI cyJ cyZ : ClassId) : Nat × Nat × Nat × Nat × Nat × Nat × Nat → va_W
  | (q3, q1, q2, qs, qo, qh, qw) => [(h0, .inr (3, [.ref q3, .ref q1, .ref q2, .long (cf_X3_firstState (1 : Int32) (1 : Int32) (1 : Int32) (0 : Int32) (0 : Int32) (0 : Int64))])), (q3, .inr (2, [.int (1 : Int32), .int (1 : Int32), .int (1 : Int32), .int (0 : Int32), .int (0 : Int32), .long (0 : Int64)])), (q1, .inr (0, [.ref q3])), (q2, .inr (1, [.ref q1, .ref qs, .ref qo, .ref qh, .int (0 : Int32), .ref qw, .int (0 : Int32)])), (qs, .inl (cyJ, 20000, .inr (.inl zL))), (qo, .inl (cyI, 20000, .inl z0)), (qh, .inl (cyI, 32768, .inl z0)), (qw, .inl (cyI, 40, .inl z0))]
set_option maxHeartbeats 4000000 in
set_option maxRecDepth 100000 in
theorem c_X5_init (l : Launch) (dC : Nat → ClassId) (dI : Nat → Nat → Nat) (h0 : Nat) (cyI cyJ cyZ : ClassId) (sz : Nat) : Met l yX5_init wsX5_init ({ frames := 2, cells := 7, slots := 72822, locals := 42 }) (cn_P [.ref h0] sz (dC, dI) kcl [(h0, .inr (3, [.null, .null, .null, .long 0]))] [] cyI cyJ cyZ) (cn_Q (cw_X5_init h0  cyI cyJ cyZ) (dC, dI) kcl (va_A [(h0, .inr (3, [.null, .null, .null, .long 0]))] sz)) 7 72822 (va_A [(h0, .inr (3, [.null, .null, .null, .long 0]))] sz) := by
  refine Met.ofW (cc := cX5_init) (maxL := 1) (ret := none) (by decide) rfl ?_
  intro p e s m args below meth c s₁ B hml hv
  obtain ⟨rfl, hsz, hP, hK, hD0, hF⟩ := hv
  have hx := B.exec
  have hb := B.bytes
  have hr := B.returns
  have hts := atoms_spec (ws := wsX5_init) B.pre
  have hown : s.vm.findClass RX5 = some m.cls := findClass_of_methodNamed B.named
  have hlocks := B.notSynchronized
  have hin : meth.name = "<init>" := (name_of_methodNamed B.named B.method).1
  subst hsz
  have hD := hD0.self (sz := s.heap.size)
  generalize hAe : va_A [(h0, .inr (3, [.null, .null, .null, .long 0]))] s.heap.size = A at hD ⊢
  have hA : ∀ q : Nat, s.heap.size ≤ q → A q := fun q h => by rw [← hAe]; exact Or.inr h
  have hP : va_P (dC, dI) kcl [(h0, .inr (3, [.null, .null, .null, .long 0]))] s.heap := hP
  have hl := lv_entry ([.ref h0]) (n := 1) (Nat.le_of_ble_eq_true rfl)
  rw [lg_entry_eq]
  generalize (lg_sl ([.ref h0]) ++ List.replicate (1 - (lg_sl ([.ref h0])).length) Slot.unset).toArray = ls at hl ⊢
  have hl : lv_has ls 1 [(0, .ref h0)] := hl
  refine mu_start (A := A) (fun H locs hP hS => ?_) hP
  refine lv_aload_n hx hb dX5_init_0 rfl (lv_at hl 0 rfl) ?_
  refine W.objInit hx hb hown (hts (.methodLink RX5 1 objectInit) (by decide +kernel)) (hts (.instanceMethod objectInit) (by decide +kernel)) (hts (.code objectInit ⟨#[0xb1]⟩ 1 none) (by decide +kernel)) rfl (by rw [hml]; exact hl.1) rfl dX5_init_1 (Nat.le_of_ble_eq_true rfl) (Nat.le_of_ble_eq_true rfl) ?_
  refine W.eq (g2 := F0 m 4 ls []) rfl ?_
  refine lv_aload_n hx hb dX5_init_4 rfl (lv_at hl 0 rfl) ?_
  refine va_new (ci := 2) (fs := [.int 0, .int 0, .int 0, .int 0, .int 0, .long 0]) (C := RX3) (T := TX3) (N := 6) hx hb hts (fun w h => List.mem_cons_of_mem _ (List.mem_append_left _ (List.mem_append_left _ (List.mem_append_left _ (List.mem_append_right _ h))))) tyX3 tyX3_ok hown (hts (.classLink RX5 7 RX3) (by decide +kernel)) (hts (.instantiable RX3 6) (by decide +kernel)) (hts (.initialized RX3) (by decide +kernel)) hK hP hD hS hA rfl (fun j hj => by rcases (show j = 0 ∨ j = 1 ∨ j = 2 ∨ j = 3 ∨ j = 4 ∨ j = 5 by omega) with rfl | rfl | rfl | rfl | rfl | rfl <;> rfl) (Nat.le_of_ble_eq_true rfl) (Nat.le_of_ble_eq_true rfl) dX5_init_5 (fun q3 H hP hD hS => ?_)
  have hP : va_P (dC, dI) kcl [(h0, .inr (3, [.null, .null, .null, .long 0])), (q3, .inr (2, [.int 0, .int 0, .int 0, .int 0, .int 0, .long 0]))] H := hP
  have hD : va_D A [(h0, .inr (3, [.null, .null, .null, .long 0])), (q3, .inr (2, [.int 0, .int 0, .int 0, .int 0, .int 0, .long 0]))] := hD
  refine lv_dup hx hb dX5_init_8 rfl ?_
  have hPc := hP.sub (ws' := [(q3, .inr (2, [.int 0, .int 0, .int 0, .int 0, .int 0, .long 0]))]) [1] rfl
  have hDc := hD.sub (ws' := [(q3, .inr (2, [.int 0, .int 0, .int 0, .int 0, .int 0, .long 0]))]) [1] (by decide) rfl
  have hFc := va_free (wc := [(q3, .inr (2, [.int 0, .int 0, .int 0, .int 0, .int 0, .long 0]))]) hD hS hA [1] rfl
  refine va_callv (va_runIN (As := []) (rest := [.ref q3, .ref h0]) ⟨hx, hb, hml, hown, hts⟩ (c_X3_init l dC dI q3  cyI cyJ cyZ H.size) ⟨va_cnB 0 hts gX5_init_X3_init_n9 rfl rfl rfl hF.2.2.2 (hts (.initialized RX3) (by decide +kernel)) (by decide +kernel) ⟨Nat.le_of_ble_eq_true rfl, Nat.le_of_ble_eq_true rfl⟩, rfl, (hts (.instanceMethod yX3_init) (by decide +kernel))⟩ ⟨cn_blind, fun U hU hW => ⟨rfl, by rw [hU], by rw [hU]; exact hPc, va_K.moved hW.alike (hK.sub [] rfl), hDc.weaken (fun _ _ _ _ => trivial), hF.warm hW⟩⟩ rfl rfl hl.1 rfl (lv_room (Nat.le_of_ble_eq_true rfl)) dX5_init_9 ⟨Nat.le_of_ble_eq_true rfl, Nat.le_of_ble_eq_true rfl⟩) hS (fun q _ h => hFc q h) hFc (fun u t H1 locs ht hvm _ hB hz1 hk1 hS => ?_)
  obtain ⟨hP1, hD1⟩ := hB
  rw [ht] at hP1
  obtain ⟨hP, hD⟩ := va_join (wr := [(h0, .inr (3, [.null, .null, .null, .long 0]))]) (w1 := [(q3, .inr (2, [.int (1 : Int32), .int (1 : Int32), .int (1 : Int32), .int (0 : Int32), .int (0 : Int32), .long (0 : Int64)]))]) hP hD [1] [0] rfl rfl (by decide) (by decide) hk1 hFc hP1 hD1
  generalize H1 = H at hP hS ⊢
  have hP : va_P (dC, dI) kcl [(h0, .inr (3, [.null, .null, .null, .long 0])), (q3, .inr (2, [.int (1 : Int32), .int (1 : Int32), .int (1 : Int32), .int (0 : Int32), .int (0 : Int32), .long (0 : Int64)]))] H := hP
  have hD : va_D A [(h0, .inr (3, [.null, .null, .null, .long 0])), (q3, .inr (2, [.int (1 : Int32), .int (1 : Int32), .int (1 : Int32), .int (0 : Int32), .int (0 : Int32), .long (0 : Int64)]))] := hD
  refine va_putF (D := (dC, dI)) (ci := 3) (v := .ref q3) (ty := (.object "ColourTrier$Setup")) (C := RX5) (T := TX5) (N := 4) hx hb hts (fun w h => List.mem_cons_of_mem _ (List.mem_append_left _ (List.mem_append_left _ (List.mem_append_right _ h)))) tyX5 tyX5_ok nmX5 hown hK hP hD hS 0 rfl rfl 0 (by decide) (hts (.fieldLink RX5 10 "ColourTrier" "setup" "LColourTrier$Setup;") (by decide +kernel)) (fun _ h9 => h9) rfl hin rfl (by decide +kernel) rfl rfl (Nat.le_of_ble_eq_true rfl) dX5_init_12 (fun H locs hP hD hS => ?_)
  have hP : va_P (dC, dI) kcl [(h0, .inr (3, [.ref q3, .null, .null, .long 0])), (q3, .inr (2, [.int (1 : Int32), .int (1 : Int32), .int (1 : Int32), .int (0 : Int32), .int (0 : Int32), .long (0 : Int64)]))] H := hP
  have hD : va_D A [(h0, .inr (3, [.ref q3, .null, .null, .long 0])), (q3, .inr (2, [.int (1 : Int32), .int (1 : Int32), .int (1 : Int32), .int (0 : Int32), .int (0 : Int32), .long (0 : Int64)]))] := hD
  refine lv_aload_n hx hb dX5_init_15 rfl (lv_at hl 0 rfl) ?_
  refine va_new (ci := 0) (fs := [.null]) (C := RX1) (T := TX1) (N := 1) hx hb hts (fun w h => List.mem_cons_of_mem _ (List.mem_append_left _ (List.mem_append_right _ h))) tyX1 tyX1_ok hown (hts (.classLink RX5 16 RX1) (by decide +kernel)) (hts (.instantiable RX1 1) (by decide +kernel)) (hts (.initialized RX1) (by decide +kernel)) hK hP hD hS hA rfl (fun j hj => by rcases (show j = 0 by omega) with rfl <;> rfl) (Nat.le_of_ble_eq_true rfl) (Nat.le_of_ble_eq_true rfl) dX5_init_16 (fun q1 H hP hD hS => ?_)
  have hP : va_P (dC, dI) kcl [(h0, .inr (3, [.ref q3, .null, .null, .long 0])), (q3, .inr (2, [.int (1 : Int32), .int (1 : Int32), .int (1 : Int32), .int (0 : Int32), .int (0 : Int32), .long (0 : Int64)])), (q1, .inr (0, [.null]))] H := hP
  have hD : va_D A [(h0, .inr (3, [.ref q3, .null, .null, .long 0])), (q3, .inr (2, [.int (1 : Int32), .int (1 : Int32), .int (1 : Int32), .int (0 : Int32), .int (0 : Int32), .long (0 : Int64)])), (q1, .inr (0, [.null]))] := hD
  refine lv_dup hx hb dX5_init_19 rfl ?_
  refine lv_aload_n hx hb dX5_init_20 rfl (lv_at hl 0 rfl) ?_
  refine va_get (D := (dC, dI)) (ci := 3) (v := .ref q3) (C := RX5) (T := TX5) (N := 4) hx hb hts (fun w h => List.mem_cons_of_mem _ (List.mem_append_left _ (List.mem_append_left _ (List.mem_append_right _ h)))) hown hK hP 0 rfl rfl 0 (by decide) (hts (.fieldLink RX5 10 "ColourTrier" "setup" "LColourTrier$Setup;") (by decide +kernel)) (fun _ h9 => h9) rfl dX5_init_21 ?_
  have hPc := hP.sub (ws' := [(q1, .inr (0, [.null]))]) [2] rfl
  have hDc := hD.sub (ws' := [(q1, .inr (0, [.null]))]) [2] (by decide) rfl
  have hFc := va_free (wc := [(q1, .inr (0, [.null]))]) hD hS hA [2] rfl
  refine va_callv (va_runI (As := [.ref q3]) (rest := [.ref q1, .ref h0]) ⟨hx, hb, hml, hown, hts⟩ (c_X1_init l dC dI q1 q3 cyI cyJ cyZ H.size) (cwI 1 hts gX5_init_X1_init rfl rfl rfl (hts (.initialized RX1) (by decide +kernel)) (hts (.methodLink RX5 18 yX1_init) (by decide +kernel)) (hts (.instanceMethod yX1_init) (by decide +kernel)) rfl (by decide +kernel) ⟨Nat.le_of_ble_eq_true rfl, Nat.le_of_ble_eq_true rfl⟩) ⟨cn_blind, fun U hU hW => ⟨rfl, by rw [hU], by rw [hU]; exact hPc, va_K.moved hW.alike (hK.sub [] rfl), hDc.weaken (fun _ _ _ _ => trivial), hF.warm hW⟩⟩ rfl rfl hl.1 rfl (lv_room (Nat.le_of_ble_eq_true rfl)) dX5_init_24 ⟨Nat.le_of_ble_eq_true rfl, Nat.le_of_ble_eq_true rfl⟩) hS (fun q _ h => hFc q h) hFc (fun u t H1 locs ht hvm _ hB hz1 hk1 hS => ?_)
  obtain ⟨hP1, hD1⟩ := hB
  rw [ht] at hP1
  obtain ⟨hP, hD⟩ := va_join (wr := [(h0, .inr (3, [.ref q3, .null, .null, .long 0])), (q3, .inr (2, [.int (1 : Int32), .int (1 : Int32), .int (1 : Int32), .int (0 : Int32), .int (0 : Int32), .long (0 : Int64)]))]) (w1 := [(q1, .inr (0, [.ref q3]))]) hP hD [2] [0, 1] rfl rfl (by decide) (by decide) hk1 hFc hP1 hD1
  generalize H1 = H at hP hS ⊢
  have hP : va_P (dC, dI) kcl [(h0, .inr (3, [.ref q3, .null, .null, .long 0])), (q3, .inr (2, [.int (1 : Int32), .int (1 : Int32), .int (1 : Int32), .int (0 : Int32), .int (0 : Int32), .long (0 : Int64)])), (q1, .inr (0, [.ref q3]))] H := hP
  have hD : va_D A [(h0, .inr (3, [.ref q3, .null, .null, .long 0])), (q3, .inr (2, [.int (1 : Int32), .int (1 : Int32), .int (1 : Int32), .int (0 : Int32), .int (0 : Int32), .long (0 : Int64)])), (q1, .inr (0, [.ref q3]))] := hD
  refine va_putF (D := (dC, dI)) (ci := 3) (v := .ref q1) (ty := (.object "ColourTrier$Moves")) (C := RX5) (T := TX5) (N := 4) hx hb hts (fun w h => List.mem_cons_of_mem _ (List.mem_append_left _ (List.mem_append_left _ (List.mem_append_right _ h)))) tyX5 tyX5_ok nmX5 hown hK hP hD hS 0 rfl rfl 1 (by decide) (hts (.fieldLink RX5 21 "ColourTrier" "moves" "LColourTrier$Moves;") (by decide +kernel)) (fun _ h9 => h9) rfl hin rfl (by decide +kernel) rfl rfl (Nat.le_of_ble_eq_true rfl) dX5_init_27 (fun H locs hP hD hS => ?_)
  have hP : va_P (dC, dI) kcl [(h0, .inr (3, [.ref q3, .ref q1, .null, .long 0])), (q3, .inr (2, [.int (1 : Int32), .int (1 : Int32), .int (1 : Int32), .int (0 : Int32), .int (0 : Int32), .long (0 : Int64)])), (q1, .inr (0, [.ref q3]))] H := hP
  have hD : va_D A [(h0, .inr (3, [.ref q3, .ref q1, .null, .long 0])), (q3, .inr (2, [.int (1 : Int32), .int (1 : Int32), .int (1 : Int32), .int (0 : Int32), .int (0 : Int32), .long (0 : Int64)])), (q1, .inr (0, [.ref q3]))] := hD
  refine lv_aload_n hx hb dX5_init_30 rfl (lv_at hl 0 rfl) ?_
  refine va_new (ci := 1) (fs := [.null, .null, .null, .null, .int 0, .null, .int 0]) (C := RX2) (T := TX2) (N := 7) hx hb hts (fun w h => List.mem_cons_of_mem _ (List.mem_append_right _ h)) tyX2 tyX2_ok hown (hts (.classLink RX5 25 RX2) (by decide +kernel)) (hts (.instantiable RX2 7) (by decide +kernel)) (hts (.initialized RX2) (by decide +kernel)) hK hP hD hS hA rfl (fun j hj => by rcases (show j = 0 ∨ j = 1 ∨ j = 2 ∨ j = 3 ∨ j = 4 ∨ j = 5 ∨ j = 6 by omega) with rfl | rfl | rfl | rfl | rfl | rfl | rfl <;> rfl) (Nat.le_of_ble_eq_true rfl) (Nat.le_of_ble_eq_true rfl) dX5_init_31 (fun q2 H hP hD hS => ?_)
  have hP : va_P (dC, dI) kcl [(h0, .inr (3, [.ref q3, .ref q1, .null, .long 0])), (q3, .inr (2, [.int (1 : Int32), .int (1 : Int32), .int (1 : Int32), .int (0 : Int32), .int (0 : Int32), .long (0 : Int64)])), (q1, .inr (0, [.ref q3])), (q2, .inr (1, [.null, .null, .null, .null, .int 0, .null, .int 0]))] H := hP
  have hD : va_D A [(h0, .inr (3, [.ref q3, .ref q1, .null, .long 0])), (q3, .inr (2, [.int (1 : Int32), .int (1 : Int32), .int (1 : Int32), .int (0 : Int32), .int (0 : Int32), .long (0 : Int64)])), (q1, .inr (0, [.ref q3])), (q2, .inr (1, [.null, .null, .null, .null, .int 0, .null, .int 0]))] := hD
  refine lv_dup hx hb dX5_init_34 rfl ?_
  refine lv_aload_n hx hb dX5_init_35 rfl (lv_at hl 0 rfl) ?_
  refine va_get (D := (dC, dI)) (ci := 3) (v := .ref q1) (C := RX5) (T := TX5) (N := 4) hx hb hts (fun w h => List.mem_cons_of_mem _ (List.mem_append_left _ (List.mem_append_left _ (List.mem_append_right _ h)))) hown hK hP 0 rfl rfl 1 (by decide) (hts (.fieldLink RX5 21 "ColourTrier" "moves" "LColourTrier$Moves;") (by decide +kernel)) (fun _ h9 => h9) rfl dX5_init_36 ?_
  have hPc := hP.sub (ws' := [(q2, .inr (1, [.null, .null, .null, .null, .int 0, .null, .int 0]))]) [3] rfl
  have hDc := hD.sub (ws' := [(q2, .inr (1, [.null, .null, .null, .null, .int 0, .null, .int 0]))]) [3] (by decide) rfl
  have hFc := va_free (wc := [(q2, .inr (1, [.null, .null, .null, .null, .int 0, .null, .int 0]))]) hD hS hA [3] rfl
  refine va_callv (va_runI (As := [.ref q1]) (rest := [.ref q2, .ref h0]) ⟨hx, hb, hml, hown, hts⟩ (c_X2_init l dC dI q2 q1 cyI cyJ cyZ H.size) (cwI 1 hts gX5_init_X2_init rfl rfl rfl (hts (.initialized RX2) (by decide +kernel)) (hts (.methodLink RX5 27 yX2_init) (by decide +kernel)) (hts (.instanceMethod yX2_init) (by decide +kernel)) rfl (by decide +kernel) ⟨Nat.le_of_ble_eq_true rfl, Nat.le_of_ble_eq_true rfl⟩) ⟨cn_blind, fun U hU hW => ⟨rfl, by rw [hU], by rw [hU]; exact hPc, va_K.moved hW.alike (hK.sub [] rfl), hDc.weaken (fun _ _ _ _ => trivial), hF.warm hW⟩⟩ rfl rfl hl.1 rfl (lv_room (Nat.le_of_ble_eq_true rfl)) dX5_init_39 ⟨Nat.le_of_ble_eq_true rfl, Nat.le_of_ble_eq_true rfl⟩) hS (fun q _ h => hFc q h) hFc (fun u t H1 locs ht hvm _ hB hz1 hk1 hS => ?_)
  obtain ⟨qs, qo, qh, qw⟩ := u
  obtain ⟨hP1, hD1⟩ := hB
  rw [ht] at hP1
  obtain ⟨hP, hD⟩ := va_join (wr := [(h0, .inr (3, [.ref q3, .ref q1, .null, .long 0])), (q3, .inr (2, [.int (1 : Int32), .int (1 : Int32), .int (1 : Int32), .int (0 : Int32), .int (0 : Int32), .long (0 : Int64)])), (q1, .inr (0, [.ref q3]))]) (w1 := [(q2, .inr (1, [.ref q1, .ref qs, .ref qo, .ref qh, .int (0 : Int32), .ref qw, .int (0 : Int32)])), (qs, .inl (cyJ, 20000, .inr (.inl zL))), (qo, .inl (cyI, 20000, .inl z0)), (qh, .inl (cyI, 32768, .inl z0)), (qw, .inl (cyI, 40, .inl z0))]) hP hD [3] [0, 1, 2] rfl rfl (by decide) (by decide) hk1 hFc hP1 hD1
  generalize H1 = H at hP hS ⊢
  have hP : va_P (dC, dI) kcl [(h0, .inr (3, [.ref q3, .ref q1, .null, .long 0])), (q3, .inr (2, [.int (1 : Int32), .int (1 : Int32), .int (1 : Int32), .int (0 : Int32), .int (0 : Int32), .long (0 : Int64)])), (q1, .inr (0, [.ref q3])), (q2, .inr (1, [.ref q1, .ref qs, .ref qo, .ref qh, .int (0 : Int32), .ref qw, .int (0 : Int32)])), (qs, .inl (cyJ, 20000, .inr (.inl zL))), (qo, .inl (cyI, 20000, .inl z0)), (qh, .inl (cyI, 32768, .inl z0)), (qw, .inl (cyI, 40, .inl z0))] H := hP
  have hD : va_D A [(h0, .inr (3, [.ref q3, .ref q1, .null, .long 0])), (q3, .inr (2, [.int (1 : Int32), .int (1 : Int32), .int (1 : Int32), .int (0 : Int32), .int (0 : Int32), .long (0 : Int64)])), (q1, .inr (0, [.ref q3])), (q2, .inr (1, [.ref q1, .ref qs, .ref qo, .ref qh, .int (0 : Int32), .ref qw, .int (0 : Int32)])), (qs, .inl (cyJ, 20000, .inr (.inl zL))), (qo, .inl (cyI, 20000, .inl z0)), (qh, .inl (cyI, 32768, .inl z0)), (qw, .inl (cyI, 40, .inl z0))] := hD
  refine va_putF (D := (dC, dI)) (ci := 3) (v := .ref q2) (ty := (.object "ColourTrier$Search")) (C := RX5) (T := TX5) (N := 4) hx hb hts (fun w h => List.mem_cons_of_mem _ (List.mem_append_left _ (List.mem_append_left _ (List.mem_append_right _ h)))) tyX5 tyX5_ok nmX5 hown hK hP hD hS 0 rfl rfl 2 (by decide) (hts (.fieldLink RX5 30 "ColourTrier" "search" "LColourTrier$Search;") (by decide +kernel)) (fun _ h9 => h9) rfl hin rfl (by decide +kernel) rfl rfl (Nat.le_of_ble_eq_true rfl) dX5_init_42 (fun H locs hP hD hS => ?_)
  have hP : va_P (dC, dI) kcl [(h0, .inr (3, [.ref q3, .ref q1, .ref q2, .long 0])), (q3, .inr (2, [.int (1 : Int32), .int (1 : Int32), .int (1 : Int32), .int (0 : Int32), .int (0 : Int32), .long (0 : Int64)])), (q1, .inr (0, [.ref q3])), (q2, .inr (1, [.ref q1, .ref qs, .ref qo, .ref qh, .int (0 : Int32), .ref qw, .int (0 : Int32)])), (qs, .inl (cyJ, 20000, .inr (.inl zL))), (qo, .inl (cyI, 20000, .inl z0)), (qh, .inl (cyI, 32768, .inl z0)), (qw, .inl (cyI, 40, .inl z0))] H := hP
  have hD : va_D A [(h0, .inr (3, [.ref q3, .ref q1, .ref q2, .long 0])), (q3, .inr (2, [.int (1 : Int32), .int (1 : Int32), .int (1 : Int32), .int (0 : Int32), .int (0 : Int32), .long (0 : Int64)])), (q1, .inr (0, [.ref q3])), (q2, .inr (1, [.ref q1, .ref qs, .ref qo, .ref qh, .int (0 : Int32), .ref qw, .int (0 : Int32)])), (qs, .inl (cyJ, 20000, .inr (.inl zL))), (qo, .inl (cyI, 20000, .inl z0)), (qh, .inl (cyI, 32768, .inl z0)), (qw, .inl (cyI, 40, .inl z0))] := hD
  refine lv_aload_n hx hb dX5_init_45 rfl (lv_at hl 0 rfl) ?_
  refine lv_aload_n hx hb dX5_init_46 rfl (lv_at hl 0 rfl) ?_
  refine va_get (D := (dC, dI)) (ci := 3) (v := .ref q3) (C := RX5) (T := TX5) (N := 4) hx hb hts (fun w h => List.mem_cons_of_mem _ (List.mem_append_left _ (List.mem_append_left _ (List.mem_append_right _ h)))) hown hK hP 0 rfl rfl 0 (by decide) (hts (.fieldLink RX5 10 "ColourTrier" "setup" "LColourTrier$Setup;") (by decide +kernel)) (fun _ h9 => h9) rfl dX5_init_47 ?_
  refine rd_calll (va_runV (As := []) (rest := [.ref h0]) ⟨hx, hb, hml, hown, hts⟩ (c_X3_firstState l dC dI q3 (1 : Int32) (1 : Int32) (1 : Int32) (0 : Int32) (0 : Int32) (0 : Int64)) (cwV 0 hts gX5_init_X3_firstState rfl rfl rfl (by decide +kernel) ⟨Nat.le_of_ble_eq_true rfl, Nat.le_of_ble_eq_true rfl⟩) ⟨rd_blind, va_recv hK hP (ci := 2) (q0 := 1) rfl rfl, fun U hU hW => ⟨rfl, by rw [hU]; exact (hP.sub [1] rfl), va_K.moved hW.alike (hK.sub [] rfl)⟩⟩ rfl rfl hl.1 rfl (lv_room (Nat.le_of_ble_eq_true rfl)) dX5_init_50 ⟨Nat.le_of_ble_eq_true rfl, Nat.le_of_ble_eq_true rfl⟩) ?_
  refine va_put (D := (dC, dI)) (ci := 3) (v := .long (cf_X3_firstState (1 : Int32) (1 : Int32) (1 : Int32) (0 : Int32) (0 : Int32) (0 : Int64))) (ty := .long) (C := RX5) (T := TX5) (N := 4) hx hb hts (fun w h => List.mem_cons_of_mem _ (List.mem_append_left _ (List.mem_append_left _ (List.mem_append_right _ h)))) tyX5 tyX5_ok nmX5 hown hK hP hD hS 0 rfl rfl 3 (by decide) (hts (.fieldLink RX5 38 "ColourTrier" "state" "J") (by decide +kernel)) (fun _ h9 => h9) rfl (by decide +kernel) rfl rfl (Nat.le_of_ble_eq_true rfl) dX5_init_53 (fun H locs hP hD hS => ?_)
  have hP : va_P (dC, dI) kcl [(h0, .inr (3, [.ref q3, .ref q1, .ref q2, .long (cf_X3_firstState (1 : Int32) (1 : Int32) (1 : Int32) (0 : Int32) (0 : Int32) (0 : Int64))])), (q3, .inr (2, [.int (1 : Int32), .int (1 : Int32), .int (1 : Int32), .int (0 : Int32), .int (0 : Int32), .long (0 : Int64)])), (q1, .inr (0, [.ref q3])), (q2, .inr (1, [.ref q1, .ref qs, .ref qo, .ref qh, .int (0 : Int32), .ref qw, .int (0 : Int32)])), (qs, .inl (cyJ, 20000, .inr (.inl zL))), (qo, .inl (cyI, 20000, .inl z0)), (qh, .inl (cyI, 32768, .inl z0)), (qw, .inl (cyI, 40, .inl z0))] H := hP
  have hD : va_D A [(h0, .inr (3, [.ref q3, .ref q1, .ref q2, .long (cf_X3_firstState (1 : Int32) (1 : Int32) (1 : Int32) (0 : Int32) (0 : Int32) (0 : Int64))])), (q3, .inr (2, [.int (1 : Int32), .int (1 : Int32), .int (1 : Int32), .int (0 : Int32), .int (0 : Int32), .long (0 : Int64)])), (q1, .inr (0, [.ref q3])), (q2, .inr (1, [.ref q1, .ref qs, .ref qo, .ref qh, .int (0 : Int32), .ref qw, .int (0 : Int32)])), (qs, .inl (cyJ, 20000, .inr (.inl zL))), (qo, .inl (cyI, 20000, .inl z0)), (qh, .inl (cyI, 32768, .inl z0)), (qw, .inl (cyI, 40, .inl z0))] := hD
  refine W.widen (k := 7) (n := 72822) (Nat.le_of_ble_eq_true rfl) (Nat.le_of_ble_eq_true rfl) ?_
  exact W.vret hx hb hr (fun t ht _ => ⟨⟨(q3, q1, q2, qs, qo, qh, qw), rfl, trivial, show va_P (dC, dI) kcl [(h0, .inr (3, [.ref q3, .ref q1, .ref q2, .long (cf_X3_firstState (1 : Int32) (1 : Int32) (1 : Int32) (0 : Int32) (0 : Int32) (0 : Int64))])), (q3, .inr (2, [.int (1 : Int32), .int (1 : Int32), .int (1 : Int32), .int (0 : Int32), .int (0 : Int32), .long (0 : Int64)])), (q1, .inr (0, [.ref q3])), (q2, .inr (1, [.ref q1, .ref qs, .ref qo, .ref qh, .int (0 : Int32), .ref qw, .int (0 : Int32)])), (qs, .inl (cyJ, 20000, .inr (.inl zL))), (qo, .inl (cyI, 20000, .inl z0)), (qh, .inl (cyI, 32768, .inl z0)), (qw, .inl (cyI, 40, .inl z0))] t.heap by rw [ht]; exact hP, hD⟩, hS.F ht⟩) hS.2.2 dX5_init_56

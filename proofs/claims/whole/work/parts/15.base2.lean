/-! METHODS THAT WRITE, and make nothing: the cells w0 become w1, the answer is v -/
def mu_P (av : List Value) (sz : Nat) (D : va_G) (cl : List vw_C) (ws : va_W) (tys : List (ClassId × FieldType)) : Array Value → State → Prop := fun v U => v = av.toArray ∧ U.heap.size = sz ∧ va_P D cl ws U.heap ∧ va_K D cl tys U ∧ va_D (fun _ => True) ws
def mu_Q (v : Option Value) (D : va_G) (cl : List vw_C) (w1 : va_W) (A : Nat → Prop) : Array Value → State → Outcome → State → Prop := fun _ st o t => o = .returned v ∧ va_P D cl w1 t.heap ∧ va_F A st t
theorem mu_blind {av : List Value} {sz : Nat} {D : va_G} {cl : List vw_C} {ws : va_W} {tys : List (ClassId × FieldType)} : FrameBlind (mu_P av sz D cl ws tys) := fun a U g mk q => ⟨q.1, q.2.1, q.2.2.1, va_K.moved (u := U) (U := U.calling g mk a) (Vm.Alike.refl U.vm) q.2.2.2.1, q.2.2.2.2⟩
theorem mu_D {A : Nat → Prop} {w w1 : va_W} (h : va_D A w) (he : w1.map (·.1) = w.map (·.1)) : va_D A w1 := by
  have key : ∀ (k : Nat) (q : Nat × va_E), w1[k]? = some q → ∃ q', w[k]? = some q' ∧ q'.1 = q.1 := by
    intro k q hk
    have h1 : (w1.map (·.1))[k]? = some q.1 := by rw [List.getElem?_map, hk]; rfl
    rw [he, List.getElem?_map] at h1
    cases hw : w[k]? with
    | none => rw [hw] at h1; cases h1
    | some q' => rw [hw] at h1; exact ⟨q', rfl, Option.some.inj h1⟩
  refine ⟨fun i j x y hi hj hxy => ?_, fun k q hk => ?_⟩
  · obtain ⟨x', a1, a2⟩ := key i x hi
    obtain ⟨y', b1, b2⟩ := key j y hj
    exact h.1 i j x' y' a1 b1 (by rw [a2, b2, hxy])
  · obtain ⟨q', a1, a2⟩ := key k q hk
    rw [← a2]; exact h.2 k q' a1
theorem mu_fm {α : Type} {is : List Nat} {f : Nat → Option α} {ws' : List α} (h : is.map f = ws'.map some) : is.filterMap f = ws' := by
  induction is generalizing ws' with
  | nil => cases ws' with
    | nil => rfl
    | cons _ _ => simp at h
  | cons a t ih => cases ws' with
    | nil => simp at h
    | cons b u =>
      simp only [List.map_cons, List.cons.injEq] at h
      rw [List.filterMap_cons, h.1]
      exact congrArg (b :: ·) (ih h.2)
section MU
variable {p : Program} {l : Launch} {e : Env} {R : Room} {s : State} {m : MethodId} {args : Array Value} {below : List Frame} {meth : Method} {c : Code} {H : Heap} {locs : List Loc} {cells slots : Nat} {Q : State → Prop}
variable {pc : Nat} {ls : Array Slot} {rest st0 : List Value} {a : Array Value} {D : va_G} {cl : List vw_C} {A0 : Nat → Prop} {H0 : Heap} {ws wc wr w1 ws' : va_W}
theorem mu_call {v : Option Value} (hr : va_Run p l e R s m args below meth c H locs cells slots 0 0 (F0 m pc ls st0) rest (mu_Q v D cl w1 (va_A wc H.size) a) (va_A wc H.size)) (hP : va_P D cl ws H) (hD : va_D A0 ws) (hS : va_S A0 H0 H locs) (hA : ∀ q, H0.size ≤ q → A0 q)
    (isC isR isP : List Nat) (hC : isC.map (fun i => ws[i]?) = wc.map some) (hR : isR.map (fun i => ws[i]?) = wr.map some) (hnC : va_nd isC = true) (hn : va_nd isR = true) (hdis : ∀ i ∈ isR, i ∉ isC) (had : w1.map (·.1) = wc.map (·.1)) (hnP : va_nd isP = true) (hPm : isP.map (fun i => (wr ++ w1)[i]?) = ws'.map some)
    (kk : ∀ (H1 : Heap) (locs1 : List Loc), va_P D cl ws' H1 → va_D A0 ws' → va_S A0 H0 H1 locs1 → W p l e R s m args below meth c H1 locs1 cells slots Q (F0 m (pc + 3) ls (v.toList ++ rest))) : W p l e R s m args below meth c H locs cells slots Q (F0 m pc ls st0) := by
  intro T hT X
  obtain ⟨v', st₀, t, T', L, h0, X', hL, e1, e2, ⟨hv, hP1, hz, hk⟩, st⟩ := hr T hT X
  cases hv
  rw [h0] at hz hk
  have hF := va_free (wc := wc) hD hS hA isC hC
  have hD1 : va_D (va_A wc H.size) w1 := mu_D ((hD.sub isC hnC hC).self) had
  obtain ⟨hPn, hDn⟩ := va_join (H1 := T'.heap) hP hD isC isR hC hR hn hdis (fun q h1 h2 => by rw [e1]; exact hk q h1 h2) hF (by rw [e1]; exact hP1) hD1
  obtain ⟨t2, a1, b1⟩ := kk T'.heap (locs ++ L) (hPn.sub isP (mu_fm hPm)) (hDn.sub isP hnP hPm)
    ⟨Nat.le_trans hS.1 (by rw [e1]; exact hz), fun q h1 h2 => by rw [e1, hk q (Nat.lt_of_lt_of_le h1 hS.1) (fun z => h2 (hF q z))]; exact hS.2.1 q h1 h2, fun q hq => by
      rcases List.mem_append.mp hq with h | h
      · exact hS.2.2 q h
      · exact hF _ (hL q h)⟩ T' rfl X'
  exact ⟨t2, st t2 a1, b1⟩
theorem mu_start {w : va_W} {A : Nat → Prop} {g : JFrame} (k : ∀ (H : Heap) (locs : List Loc), va_P D cl w H → va_S A s.heap H locs → W p l e R s m args below meth c H locs cells slots Q g) (hP : va_P D cl w s.heap) : W p l e R s m args below meth c s.heap [] cells slots Q g := k s.heap [] hP va_S.rf
end MU
/-- the reference's cells -/
abbrev mo_W (q6 qA qB qF qR qC qL qS qO qY qH qW qM : Nat) (cyI cyJ cyZ : ClassId) (m_th m_o m_f m_r m_b m_a : Int32) (u_F u_R g_F g_R g_C g_L : Nat → Int32) (m_rl m_lf m_ov : Int32) (m_pl : Int64) (g_S : Nat → Int64) (g_O g_Y g_H : Nat → Int32) (m_st : Int32) (g_W : Nat → Int32) (m_rm m_fs : Int32) (g_M : Nat → Int32) : va_W :=
  [(q6, .inr (4, [.int m_th, .int m_o, .int m_f, .int m_r, .int m_b, .int m_a, .ref qA, .ref qB, .ref qF, .ref qR, .ref qC, .ref qL, .int m_rl, .int m_lf, .int m_ov, .long m_pl, .ref qS, .ref qO, .ref qY, .ref qH, .int m_st, .ref qW, .int m_rm, .int m_fs, .ref qM])),
   (qA, .inl (cyI, 8, .inl u_F)), (qB, .inl (cyI, 3, .inl u_R)), (qF, .inl (cyI, 8, .inl g_F)), (qR, .inl (cyI, 3, .inl g_R)), (qC, .inl (cyI, 4, .inl g_C)), (qL, .inl (cyI, 4, .inl g_L)), (qS, .inl (cyJ, 20000, .inr (.inl g_S))), (qO, .inl (cyI, 20000, .inl g_O)), (qY, .inl (cyI, 20000, .inl g_Y)), (qH, .inl (cyI, 65536, .inl g_H)), (qW, .inl (cyI, 20000, .inl g_W)), (qM, .inl (cyZ, 4, .inl g_M))]
/-- the search's cells, with the moves' and the set-up's -/
abbrev se_W (q2 q1 q3 qs qo qh qw : Nat) (cyI cyJ : ClassId) (w_o w_f w_r w_b w_a : Int32) (w_l : Int64) (t_S : Nat → Int64) (t_O t_H : Nat → Int32) (s_n : Int32) (t_W : Nat → Int32) (s_k : Int32) : va_W :=
  [(q2, .inr (1, [.ref q1, .ref qs, .ref qo, .ref qh, .int s_n, .ref qw, .int s_k])), (q1, .inr (0, [.ref q3])), (q3, .inr (2, [.int w_o, .int w_f, .int w_r, .int w_b, .int w_a, .long w_l])), (qs, .inl (cyJ, 20000, .inr (.inl t_S))), (qo, .inl (cyI, 20000, .inl t_O)), (qh, .inl (cyI, 32768, .inl t_H)), (qw, .inl (cyI, 40, .inl t_W))]
/-- the class's cells -/
abbrev cl_W (q5 q2 q1 q3 qs qo qh qw : Nat) (cyI cyJ : ClassId) (w_o w_f w_r w_b w_a : Int32) (w_l : Int64) (t_S : Nat → Int64) (t_O t_H : Nat → Int32) (s_n : Int32) (t_W : Nat → Int32) (s_k : Int32) (v_s : Int64) : va_W :=
  (q5, .inr (3, [.ref q3, .ref q1, .ref q2, .long v_s])) :: se_W q2 q1 q3 qs qo qh qw cyI cyJ w_o w_f w_r w_b w_a w_l t_S t_O t_H s_n t_W s_k

/-! the reference's BROKEN is the class's -/
theorem rt_d : ∀ a, a < 5 → ∀ b, b < 5 → ∀ c, c < 5 → (let s1 := if a = 0 then 0 else 0 ||| 2 ^ (a - 1); let s2 := if b = 0 then s1 else s1 ||| 2 ^ (b - 1); (if c = 0 then s2 else s2 ||| 2 ^ (c - 1)) = (2 ^ a ||| 2 ^ b ||| 2 ^ c) / 2) := by decide +kernel
def rt_s (D : ab_D) (k S : Nat) : Nat := if D 1 k = 0 then S else S ||| 2 ^ (D 1 k - 1)
theorem rt_e {D : ab_D} (h : ab_B D) : rt_s D 2 (rt_s D 1 (rt_s D 0 0)) = nf_rt D := rt_d _ (Nat.lt_succ_of_le (h.2.1 0 (by omega))) _ (Nat.lt_succ_of_le (h.2.1 1 (by omega))) _ (Nat.lt_succ_of_le (h.2.1 2 (by omega)))
theorem rt_z {D : ab_D} {k S : Nat} (h : D 1 k = 0) : rt_s D k S = S := by unfold rt_s; rw [if_pos h]
theorem vpn_0 : vp_nar .boolean (0 : Int32) = 0 := by decide +kernel
theorem vpn_1 : vp_nar .boolean (1 : Int32) = 1 := by decide +kernel
theorem mm_clear (g : Nat → Int32) : upd (upd (upd (upd g ((0 : Int32)).toNatClampNeg (vp_nar .boolean (0 : Int32))) ((1 : Int32)).toNatClampNeg (vp_nar .boolean (0 : Int32))) ((2 : Int32)).toNatClampNeg (vp_nar .boolean (0 : Int32))) ((3 : Int32)).toNatClampNeg (vp_nar .boolean (0 : Int32)) = mm_M 0 g := by
  funext k
  rw [vpn_0]
  unfold upd mm_M
  rw [show ((0 : Int32)).toNatClampNeg = 0 from rfl, show ((1 : Int32)).toNatClampNeg = 1 from rfl, show ((2 : Int32)).toNatClampNeg = 2 from rfl, show ((3 : Int32)).toNatClampNeg = 3 from rfl]
  by_cases h3 : k = 3
  · subst h3; rfl
  by_cases h2 : k = 2
  · subst h2; rfl
  by_cases h1 : k = 1
  · subst h1; rfl
  by_cases h0 : k = 0
  · subst h0; rfl
  rw [if_neg h3, if_neg h2, if_neg h1, if_neg h0, if_neg (by omega)]
theorem mm_set (g : Nat → Int32) (S : Nat) (v0 v1 v2 v3 : Int32) (h0 : v0 = if S.testBit 0 = true then 1 else 0) (h1 : v1 = if S.testBit 1 = true then 1 else 0) (h2 : v2 = if S.testBit 2 = true then 1 else 0) (h3 : v3 = if S.testBit 3 = true then 1 else 0) : upd (upd (upd (upd g ((0 : Int32)).toNatClampNeg (vp_nar .boolean v0)) ((1 : Int32)).toNatClampNeg (vp_nar .boolean v1)) ((2 : Int32)).toNatClampNeg (vp_nar .boolean v2)) ((3 : Int32)).toNatClampNeg (vp_nar .boolean v3) = mm_M S g := by
  have key : ∀ b : Bool, vp_nar .boolean (if b = true then (1 : Int32) else 0) = if b = true then 1 else 0 := by intro b; cases b; exact vpn_0; exact vpn_1
  subst h0 h1 h2 h3
  rw [key, key, key, key]
  funext k
  unfold upd mm_M
  rw [show ((0 : Int32)).toNatClampNeg = 0 from rfl, show ((1 : Int32)).toNatClampNeg = 1 from rfl, show ((2 : Int32)).toNatClampNeg = 2 from rfl, show ((3 : Int32)).toNatClampNeg = 3 from rfl]
  by_cases h3 : k = 3
  · subst h3; rfl
  by_cases h2 : k = 2
  · subst h2; rfl
  by_cases h1 : k = 1
  · subst h1; rfl
  by_cases h0 : k = 0
  · subst h0; rfl
  rw [if_neg h3, if_neg h2, if_neg h1, if_neg h0, if_neg (by omega)]
section BR
variable {o f r fu : Nat} {D : ab_D} {g : Nat → Int32}
theorem vp_t {t : Nat} (h0 : t ≠ 0) (h : t ≤ 4) : vp_in (nI t - 1) 4 := by
  obtain ⟨_, e⟩ := ms_t t (by omega)
  rw [(e h0).2]
  exact vp_in_nI (by omega) (by omega)

theorem mr_3 (hw : ab_W o f r) (h : ab_V o f r D) (hfu : 18 ≤ fu) {S : Nat} (hS : S < 16) : cf_X6_spread fu (nI o) (nI f) (ma_F D) (ma_C D) (mm_M S g) 0 = mm_M (nf_cl D S 15) g ∧ vc_X6_spread fu (nI o) (nI f) (ma_F D) (ma_C D) (mm_M S g) 0 := mm_s (fl := false) hw h ⟨fun _ => rfl, fun _ => rfl⟩ nf_t15 hS hfu
theorem rt_lt (h : ab_B D) {k S : Nat} (hk : k < 3) (hS : S < 16) : rt_s D k S < 16 := by
  have := h.2.1 k hk
  unfold rt_s; split
  · exact hS
  · refine nb_o16 hS ?_
    rcases (show D 1 k - 1 = 0 ∨ D 1 k - 1 = 1 ∨ D 1 k - 1 = 2 ∨ D 1 k - 1 = 3 by omega) with e | e | e | e <;> rw [e] <;> decide

theorem mr_s2 (hw : ab_W o f r) (h : ab_V o f r D) (hfu : 18 ≤ fu) {S : Nat} (hS : S < 16) : cf_X6_markReached_s22_2 fu (nI o) (nI f) (nI r) (ma_F D) (ma_R D) (ma_C D) (mm_M S g) = mm_M (nf_cl D (rt_s D 2 S) 15) g ∧ vc_X6_markReached_s22_2 fu (nI o) (nI f) (nI r) (ma_F D) (ma_R D) (ma_C D) (mm_M S g) := by
  obtain ⟨w1, w2, w3, w4, w5, w6⟩ := id hw
  have hb := h.2.1 2 (by omega)
  obtain ⟨e0, e1⟩ := ms_t (D 1 2) (by omega)
  have er : ma_R D ((2 : Int32)).toNatClampNeg = nI (D 1 2) - 1 := rfl
  unfold cf_X6_markReached_s22_2 vc_X6_markReached_s22_2
  by_cases lr : r ≤ 2
  · have y : nI r ≤ (2 : Int32) := (nl_le (c := 2) (by omega) (by omega)).mpr lr
    have z2 := (h.2.1 2 (by omega)).2 (by omega)
    rw [if_pos y, rt_z z2]
    have q := mr_3 (g := g) hw h hfu hS
    exact ⟨q.1, fun _ => ⟨q.2, trivial⟩, fun z => absurd y z⟩
  · have y : ¬ nI r ≤ (2 : Int32) := fun q => lr ((nl_le (c := 2) (by omega) (by omega)).mp q)
    rw [if_neg y, er]
    by_cases c : D 1 2 = 0
    · rw [if_pos (e0.mpr c), rt_z c]
      have q := mr_3 (g := g) hw h hfu hS
      exact ⟨q.1, fun z => absurd z y, fun _ => ⟨fun _ => ⟨q.2, trivial⟩, fun z => absurd (e0.mpr c) z⟩⟩
    · have y2 : ¬ nI (D 1 2) - 1 < (0 : Int32) := fun z => c (e0.mp z)
      have et : rt_s D 2 S = S ||| 2 ^ (D 1 2 - 1) := by unfold rt_s; rw [if_neg c]
      rw [if_neg y2, (e1 c).1, mm_up g (by omega), et]
      have q := mr_3 (g := g) hw h hfu (by have := rt_lt (h.B hw) (k := 2) (by omega) hS; rwa [et] at this)
      exact ⟨q.1, fun z => absurd z y, fun _ => ⟨fun z => absurd z y2, fun _ => ⟨vp_t c (by omega), ⟨q.2, trivial⟩⟩⟩⟩
theorem mr_s1 (hw : ab_W o f r) (h : ab_V o f r D) (hfu : 18 ≤ fu) {S : Nat} (hS : S < 16) : cf_X6_markReached_s22_1 fu (nI o) (nI f) (nI r) (ma_F D) (ma_R D) (ma_C D) (mm_M S g) = mm_M (nf_cl D (rt_s D 2 (rt_s D 1 S)) 15) g ∧ vc_X6_markReached_s22_1 fu (nI o) (nI f) (nI r) (ma_F D) (ma_R D) (ma_C D) (mm_M S g) := by
  obtain ⟨w1, w2, w3, w4, w5, w6⟩ := id hw
  have hb := h.2.1 1 (by omega)
  obtain ⟨e0, e1⟩ := ms_t (D 1 1) (by omega)
  have er : ma_R D ((1 : Int32)).toNatClampNeg = nI (D 1 1) - 1 := rfl
  unfold cf_X6_markReached_s22_1 vc_X6_markReached_s22_1
  by_cases lr : r ≤ 1
  · have y : nI r ≤ (1 : Int32) := (nl_le (c := 1) (by omega) (by omega)).mpr lr
    have z1 := (h.2.1 1 (by omega)).2 (by omega)
    have z2 := (h.2.1 2 (by omega)).2 (by omega)
    rw [if_pos y, rt_z z1, rt_z z2]
    have q := mr_3 (g := g) hw h hfu hS
    exact ⟨q.1, fun _ => ⟨q.2, trivial⟩, fun z => absurd y z⟩
  · have y : ¬ nI r ≤ (1 : Int32) := fun q => lr ((nl_le (c := 1) (by omega) (by omega)).mp q)
    rw [if_neg y, er]
    by_cases c : D 1 1 = 0
    · rw [if_pos (e0.mpr c), rt_z c]
      have q := mr_s2 (g := g) hw h hfu hS
      exact ⟨q.1, fun z => absurd z y, fun _ => ⟨fun _ => q.2, fun z => absurd (e0.mpr c) z⟩⟩
    · have y2 : ¬ nI (D 1 1) - 1 < (0 : Int32) := fun z => c (e0.mp z)
      have et : rt_s D 1 S = S ||| 2 ^ (D 1 1 - 1) := by unfold rt_s; rw [if_neg c]
      rw [if_neg y2, (e1 c).1, mm_up g (by omega), et]
      have q := mr_s2 (g := g) hw h hfu (by have := rt_lt (h.B hw) (k := 1) (by omega) hS; rwa [et] at this)
      exact ⟨q.1, fun z => absurd z y, fun _ => ⟨fun z => absurd z y2, fun _ => ⟨vp_t c (by omega), q.2⟩⟩⟩
theorem mr_s0 (hw : ab_W o f r) (h : ab_V o f r D) (hfu : 18 ≤ fu) {S : Nat} (hS : S < 16) : cf_X6_markReached_s22_0 fu (nI o) (nI f) (nI r) (ma_F D) (ma_R D) (ma_C D) (mm_M S g) = mm_M (nf_cl D (rt_s D 2 (rt_s D 1 (rt_s D 0 S))) 15) g ∧ vc_X6_markReached_s22_0 fu (nI o) (nI f) (nI r) (ma_F D) (ma_R D) (ma_C D) (mm_M S g) := by
  obtain ⟨w1, w2, w3, w4, w5, w6⟩ := id hw
  have hb := h.2.1 0 (by omega)
  obtain ⟨e0, e1⟩ := ms_t (D 1 0) (by omega)
  have er : ma_R D ((0 : Int32)).toNatClampNeg = nI (D 1 0) - 1 := rfl
  unfold cf_X6_markReached_s22_0 vc_X6_markReached_s22_0
  by_cases lr : r ≤ 0
  · have y : nI r ≤ (0 : Int32) := (nl_le (c := 0) (by omega) (by omega)).mpr lr
    have z0 := (h.2.1 0 (by omega)).2 (by omega)
    have z1 := (h.2.1 1 (by omega)).2 (by omega)
    have z2 := (h.2.1 2 (by omega)).2 (by omega)
    rw [if_pos y, rt_z z0, rt_z z1, rt_z z2]
    have q := mr_3 (g := g) hw h hfu hS
    exact ⟨q.1, fun _ => ⟨q.2, trivial⟩, fun z => absurd y z⟩
  · have y : ¬ nI r ≤ (0 : Int32) := fun q => lr ((nl_le (c := 0) (by omega) (by omega)).mp q)
    rw [if_neg y, er]
    by_cases c : D 1 0 = 0
    · rw [if_pos (e0.mpr c), rt_z c]
      have q := mr_s1 (g := g) hw h hfu hS
      exact ⟨q.1, fun z => absurd z y, fun _ => ⟨fun _ => q.2, fun z => absurd (e0.mpr c) z⟩⟩
    · have y2 : ¬ nI (D 1 0) - 1 < (0 : Int32) := fun z => c (e0.mp z)
      have et : rt_s D 0 S = S ||| 2 ^ (D 1 0 - 1) := by unfold rt_s; rw [if_neg c]
      rw [if_neg y2, (e1 c).1, mm_up g (by omega), et]
      have q := mr_s1 (g := g) hw h hfu (by have := rt_lt (h.B hw) (k := 0) (by omega) hS; rwa [et] at this)
      exact ⟨q.1, fun z => absurd z y, fun _ => ⟨fun z => absurd z y2, fun _ => ⟨vp_t c (by omega), q.2⟩⟩⟩
theorem mr_all (hw : ab_W o f r) (h : ab_V o f r D) (hfu : 18 ≤ fu) : cf_X6_markReached fu (nI o) (nI f) (nI r) (ma_F D) (ma_R D) (ma_C D) g = mm_M (nf_need D) g ∧ vc_X6_markReached fu (nI o) (nI f) (nI r) (ma_F D) (ma_R D) (ma_C D) g := by
  have q := mr_s0 (g := g) hw h hfu (S := 0) (by omega)
  rw [rt_e (h.B hw)] at q
  unfold cf_X6_markReached vc_X6_markReached cf_X6_markReached_s2_0 vc_X6_markReached_s2_0 cf_X6_markReached_s2_1 vc_X6_markReached_s2_1 cf_X6_markReached_s2_2 vc_X6_markReached_s2_2 cf_X6_markReached_s2_3 vc_X6_markReached_s2_3 cf_X6_markReached_s2_4 vc_X6_markReached_s2_4
  rw [mm_clear]
  exact q
theorem br_st {α : Type} {P Q R S T : Prop} [Decidable P] [Decidable Q] [Decidable R] [Decidable S] [Decidable T] (A B N : α) : (if P then A else if Q then (if R then N else if S then B else N) else (if R then (if T then B else N) else N)) = if P then A else if ((Q ∧ ¬ R ∧ S) ∨ (¬ Q ∧ R ∧ T)) then B else N := by
  by_cases P <;> by_cases Q <;> by_cases R <;> by_cases S <;> by_cases T <;> simp [*]
/-- LOST, and FLOATING -/
abbrev br_e (D : ab_D) (w C k : Nat) : Prop := (w = 0 ∧ C.testBit k = true ∧ D 2 k = 0) ∨ (w ≠ 0 ∧ C.testBit k = false ∧ D 2 k = 2)

theorem br_s3 (hw : ab_W o f r) (h : ab_V o f r D) {w C : Nat} (hw4 : w < 4) (x : Int32) : cf_X6_isBroken_s24_3 fu (nI o) (nI f) (nI r) (ma_F D) (ma_R D) (ma_C D) x (mm_M C g) (nI w) = if o ≤ 3 then (mm_M C g, (0 : Int32)) else if br_e D w C 3 then (mm_M C g, (1 : Int32)) else (mm_M C g, (0 : Int32)) := by
  obtain ⟨w1, w2, w3, w4, w5, w6⟩ := id hw
  have hc := h.2.2.1 3 (by omega)
  unfold cf_X6_isBroken_s24_3
  rw [br_st]
  have p1 : (nI o ≤ (3 : Int32)) ↔ o ≤ 3 := nl_le (c := 3) (by omega) (by omega)
  have p2 : (nI w = (0 : Int32)) ↔ w = 0 := ms_0 (by omega)
  have p3 : (mm_M C g ((3 : Int32)).toNatClampNeg = 0) ↔ C.testBit 3 = false := mm_0 (S := C) (k := 3) (by omega)
  have p4 : (ma_C D ((3 : Int32)).toNatClampNeg = 0) ↔ D 2 3 = 0 := ms_0 (n := D 2 3) (by omega)
  have p5 : (ma_C D ((3 : Int32)).toNatClampNeg = (2 : Int32)) ↔ D 2 3 = 2 := ms_2 (n := D 2 3) (by omega)
  have pe : ((nI w = (0 : Int32) ∧ ¬ mm_M C g ((3 : Int32)).toNatClampNeg = 0 ∧ ma_C D ((3 : Int32)).toNatClampNeg = 0) ∨ (¬ nI w = (0 : Int32) ∧ mm_M C g ((3 : Int32)).toNatClampNeg = 0 ∧ ma_C D ((3 : Int32)).toNatClampNeg = (2 : Int32))) ↔ br_e D w C 3 := by
    rw [p2, p3, p4, p5]; unfold br_e; simp
  by_cases a1 : o ≤ 3
  · rw [if_pos (p1.mpr a1), if_pos a1]
  rw [if_neg (fun y => a1 (p1.mp y)), if_neg a1]
  by_cases a2 : br_e D w C 3
  · rw [if_pos (pe.mpr a2), if_pos a2]; rfl
  rw [if_neg (fun y => a2 (pe.mp y)), if_neg a2]
  rfl
theorem br_s2 (hw : ab_W o f r) (h : ab_V o f r D) {w C : Nat} (hw4 : w < 4) (x : Int32) : cf_X6_isBroken_s24_2 fu (nI o) (nI f) (nI r) (ma_F D) (ma_R D) (ma_C D) x (mm_M C g) (nI w) = if o ≤ 2 then (mm_M C g, (0 : Int32)) else if br_e D w C 2 then (mm_M C g, (1 : Int32)) else cf_X6_isBroken_s24_3 fu (nI o) (nI f) (nI r) (ma_F D) (ma_R D) (ma_C D) x (mm_M C g) (nI w) := by
  obtain ⟨w1, w2, w3, w4, w5, w6⟩ := id hw
  have hc := h.2.2.1 2 (by omega)
  unfold cf_X6_isBroken_s24_2
  rw [br_st]
  have p1 : (nI o ≤ (2 : Int32)) ↔ o ≤ 2 := nl_le (c := 2) (by omega) (by omega)
  have p2 : (nI w = (0 : Int32)) ↔ w = 0 := ms_0 (by omega)
  have p3 : (mm_M C g ((2 : Int32)).toNatClampNeg = 0) ↔ C.testBit 2 = false := mm_0 (S := C) (k := 2) (by omega)
  have p4 : (ma_C D ((2 : Int32)).toNatClampNeg = 0) ↔ D 2 2 = 0 := ms_0 (n := D 2 2) (by omega)
  have p5 : (ma_C D ((2 : Int32)).toNatClampNeg = (2 : Int32)) ↔ D 2 2 = 2 := ms_2 (n := D 2 2) (by omega)
  have pe : ((nI w = (0 : Int32) ∧ ¬ mm_M C g ((2 : Int32)).toNatClampNeg = 0 ∧ ma_C D ((2 : Int32)).toNatClampNeg = 0) ∨ (¬ nI w = (0 : Int32) ∧ mm_M C g ((2 : Int32)).toNatClampNeg = 0 ∧ ma_C D ((2 : Int32)).toNatClampNeg = (2 : Int32))) ↔ br_e D w C 2 := by
    rw [p2, p3, p4, p5]; unfold br_e; simp
  by_cases a1 : o ≤ 2
  · rw [if_pos (p1.mpr a1), if_pos a1]
  rw [if_neg (fun y => a1 (p1.mp y)), if_neg a1]
  by_cases a2 : br_e D w C 2
  · rw [if_pos (pe.mpr a2), if_pos a2]; rfl
  rw [if_neg (fun y => a2 (pe.mp y)), if_neg a2]
  rfl
theorem br_s1 (hw : ab_W o f r) (h : ab_V o f r D) {w C : Nat} (hw4 : w < 4) (x : Int32) : cf_X6_isBroken_s24_1 fu (nI o) (nI f) (nI r) (ma_F D) (ma_R D) (ma_C D) x (mm_M C g) (nI w) = if o ≤ 1 then (mm_M C g, (0 : Int32)) else if br_e D w C 1 then (mm_M C g, (1 : Int32)) else cf_X6_isBroken_s24_2 fu (nI o) (nI f) (nI r) (ma_F D) (ma_R D) (ma_C D) x (mm_M C g) (nI w) := by
  obtain ⟨w1, w2, w3, w4, w5, w6⟩ := id hw
  have hc := h.2.2.1 1 (by omega)
  unfold cf_X6_isBroken_s24_1
  rw [br_st]
  have p1 : (nI o ≤ (1 : Int32)) ↔ o ≤ 1 := nl_le (c := 1) (by omega) (by omega)
  have p2 : (nI w = (0 : Int32)) ↔ w = 0 := ms_0 (by omega)
  have p3 : (mm_M C g ((1 : Int32)).toNatClampNeg = 0) ↔ C.testBit 1 = false := mm_0 (S := C) (k := 1) (by omega)
  have p4 : (ma_C D ((1 : Int32)).toNatClampNeg = 0) ↔ D 2 1 = 0 := ms_0 (n := D 2 1) (by omega)
  have p5 : (ma_C D ((1 : Int32)).toNatClampNeg = (2 : Int32)) ↔ D 2 1 = 2 := ms_2 (n := D 2 1) (by omega)
  have pe : ((nI w = (0 : Int32) ∧ ¬ mm_M C g ((1 : Int32)).toNatClampNeg = 0 ∧ ma_C D ((1 : Int32)).toNatClampNeg = 0) ∨ (¬ nI w = (0 : Int32) ∧ mm_M C g ((1 : Int32)).toNatClampNeg = 0 ∧ ma_C D ((1 : Int32)).toNatClampNeg = (2 : Int32))) ↔ br_e D w C 1 := by
    rw [p2, p3, p4, p5]; unfold br_e; simp
  by_cases a1 : o ≤ 1
  · rw [if_pos (p1.mpr a1), if_pos a1]
  rw [if_neg (fun y => a1 (p1.mp y)), if_neg a1]
  by_cases a2 : br_e D w C 1
  · rw [if_pos (pe.mpr a2), if_pos a2]; rfl
  rw [if_neg (fun y => a2 (pe.mp y)), if_neg a2]
  rfl
theorem br_s0 (hw : ab_W o f r) (h : ab_V o f r D) {w C : Nat} (hw4 : w < 4) (x : Int32) : cf_X6_isBroken_s24_0 fu (nI o) (nI f) (nI r) (ma_F D) (ma_R D) (ma_C D) x (mm_M C g) (nI w) = if o ≤ 0 then (mm_M C g, (0 : Int32)) else if br_e D w C 0 then (mm_M C g, (1 : Int32)) else cf_X6_isBroken_s24_1 fu (nI o) (nI f) (nI r) (ma_F D) (ma_R D) (ma_C D) x (mm_M C g) (nI w) := by
  obtain ⟨w1, w2, w3, w4, w5, w6⟩ := id hw
  have hc := h.2.2.1 0 (by omega)
  unfold cf_X6_isBroken_s24_0
  rw [br_st]
  have p1 : (nI o ≤ (0 : Int32)) ↔ o ≤ 0 := nl_le (c := 0) (by omega) (by omega)
  have p2 : (nI w = (0 : Int32)) ↔ w = 0 := ms_0 (by omega)
  have p3 : (mm_M C g ((0 : Int32)).toNatClampNeg = 0) ↔ C.testBit 0 = false := mm_0 (S := C) (k := 0) (by omega)
  have p4 : (ma_C D ((0 : Int32)).toNatClampNeg = 0) ↔ D 2 0 = 0 := ms_0 (n := D 2 0) (by omega)
  have p5 : (ma_C D ((0 : Int32)).toNatClampNeg = (2 : Int32)) ↔ D 2 0 = 2 := ms_2 (n := D 2 0) (by omega)
  have pe : ((nI w = (0 : Int32) ∧ ¬ mm_M C g ((0 : Int32)).toNatClampNeg = 0 ∧ ma_C D ((0 : Int32)).toNatClampNeg = 0) ∨ (¬ nI w = (0 : Int32) ∧ mm_M C g ((0 : Int32)).toNatClampNeg = 0 ∧ ma_C D ((0 : Int32)).toNatClampNeg = (2 : Int32))) ↔ br_e D w C 0 := by
    rw [p2, p3, p4, p5]; unfold br_e; simp
  by_cases a1 : o ≤ 0
  · rw [if_pos (p1.mpr a1), if_pos a1]
  rw [if_neg (fun y => a1 (p1.mp y)), if_neg a1]
  by_cases a2 : br_e D w C 0
  · rw [if_pos (pe.mpr a2), if_pos a2]; rfl
  rw [if_neg (fun y => a2 (pe.mp y)), if_neg a2]
  rfl
theorem br_all (hw : ab_W o f r) (h : ab_V o f r D) {w C : Nat} (hw4 : w < 4) (x : Int32) : cf_X6_isBroken_s24_0 fu (nI o) (nI f) (nI r) (ma_F D) (ma_R D) (ma_C D) x (mm_M C g) (nI w) = (mm_M C g, if (∃ k, k < o ∧ br_e D w C k) then (1 : Int32) else 0) := by
  obtain ⟨w1, w2, w3, w4, w5, w6⟩ := id hw
  rw [br_s0 hw h hw4, br_s1 hw h hw4, br_s2 hw h hw4, br_s3 hw h hw4]
  by_cases q : ∃ k, k < o ∧ br_e D w C k
  · rw [if_pos q]
    obtain ⟨k, hk, hb⟩ := q
    rw [if_neg (show ¬ o ≤ 0 by omega)]
    by_cases e0 : br_e D w C 0
    · rw [if_pos e0]
    rw [if_neg e0]
    have k0 : k ≠ 0 := fun y => e0 (y ▸ hb)
    rw [if_neg (show ¬ o ≤ 1 by omega)]
    by_cases e1 : br_e D w C 1
    · rw [if_pos e1]
    rw [if_neg e1]
    have k1 : k ≠ 1 := fun y => e1 (y ▸ hb)
    rw [if_neg (show ¬ o ≤ 2 by omega)]
    by_cases e2 : br_e D w C 2
    · rw [if_pos e2]
    rw [if_neg e2]
    have k2 : k ≠ 2 := fun y => e2 (y ▸ hb)
    rw [if_neg (show ¬ o ≤ 3 by omega)]
    by_cases e3 : br_e D w C 3
    · rw [if_pos e3]
    exact absurd (show k = 3 by omega) (fun y => e3 (y ▸ hb))
  · rw [if_neg q]
    have n : ∀ k, ¬ o ≤ k → ¬ br_e D w C k := fun k hk y => q ⟨k, by omega, y⟩
    by_cases c0 : o ≤ 0
    · rw [if_pos c0]
    rw [if_neg c0, if_neg (n 0 c0)]
    by_cases c1 : o ≤ 1
    · rw [if_pos c1]
    rw [if_neg c1, if_neg (n 1 c1)]
    by_cases c2 : o ≤ 2
    · rw [if_pos c2]
    rw [if_neg c2, if_neg (n 2 c2)]
    by_cases c3 : o ≤ 3
    · rw [if_pos c3]
    rw [if_neg c3, if_neg (n 3 c3)]
/-- STRONG, and WEAK -/
abbrev bq_f (D : ab_D) (C j : Nat) : Prop := D 0 j ≠ 0 ∧ D 2 (D 0 j - 1) = 0 ∧ C.testBit (D 0 j - 1) = false

theorem bf_3_1 (hw : ab_W o f r) (h : ab_V o f r D) {C : Nat} (x : Int32) (hk : ¬ o ≤ 3) : (cf_X6_isBroken_s168_3_1 fu (nI o) (nI f) (nI r) (ma_F D) (ma_R D) (ma_C D) x (mm_M C g) = if bq_f D C 7 then (mm_M C g, (1 : Int32)) else cf_X6_isBroken_s221_3 fu (nI o) (nI f) (nI r) (ma_F D) (ma_R D) (ma_C D) x (mm_M C g)) ∧ (True → vc_X6_isBroken_s168_3_1 fu (nI o) (nI f) (nI r) (ma_F D) (ma_R D) (ma_C D) x (mm_M C g)) := by
  obtain ⟨w1, w2, w3, w4, w5, w6⟩ := id hw
  have hb := (h.1 7 (by omega))
  obtain ⟨e0, e1⟩ := ms_t (D 0 7) (by omega)
  have er : ma_F D ((7 : Int32)).toNatClampNeg = nI (D 0 7) - 1 := rfl
  unfold cf_X6_isBroken_s168_3_1 vc_X6_isBroken_s168_3_1
  rw [er]
  by_cases lf : f ≤ 1
  · have y : nI f ≤ (1 : Int32) := (nl_le (c := 1) (by omega) (by omega)).mpr lf
    have z : D 0 7 = 0 := hb.2 (Or.inr (by omega))
    rw [if_pos y, if_neg (fun q : bq_f D C 7 => q.1 z)]
    exact ⟨rfl, fun V => ⟨fun _ => trivial, fun q => absurd y q⟩⟩
  have y : ¬ nI f ≤ (1 : Int32) := fun q => lf ((nl_le (c := 1) (by omega) (by omega)).mp q)
  rw [if_neg y]
  by_cases c0 : D 0 7 = 0
  · rw [if_pos (e0.mpr c0), if_neg (fun q : bq_f D C 7 => q.1 c0)]
    exact ⟨rfl, fun V => ⟨fun q => absurd q y, fun _ => ⟨fun _ => trivial, fun q => absurd (e0.mpr c0) q⟩⟩⟩
  have y0 : ¬ nI (D 0 7) - 1 < (0 : Int32) := fun q => c0 (e0.mp q)
  have hin : vp_in (nI (D 0 7) - 1) 4 := vp_t c0 (by omega)
  have hc2 := (h.2.2.1 (D 0 7 - 1) (by omega)).1
  rw [if_neg y0, (e1 c0).1]
  have p1 : ma_C D (D 0 7 - 1) = 0 ↔ D 2 (D 0 7 - 1) = 0 := ms_0 (n := D 2 (D 0 7 - 1)) (by omega)
  have p2 : mm_M C g (D 0 7 - 1) = 0 ↔ C.testBit (D 0 7 - 1) = false := mm_0 (by omega)
  by_cases c1 : D 2 (D 0 7 - 1) = 0
  · rw [if_pos (p1.mpr c1)]
    by_cases c2 : C.testBit (D 0 7 - 1) = false
    · rw [if_pos (p2.mpr c2), if_pos (show bq_f D C 7 from ⟨c0, c1, c2⟩)]
      exact ⟨rfl, fun V => ⟨fun q => absurd q y, fun _ => ⟨fun q => absurd q y0, fun _ => ⟨hin, fun _ => ⟨hin, trivial⟩, fun q => absurd (p1.mpr c1) q⟩⟩⟩⟩
    · rw [if_neg (fun q => c2 (p2.mp q)), if_neg (fun q : bq_f D C 7 => c2 q.2.2)]
      exact ⟨rfl, fun V => ⟨fun q => absurd q y, fun _ => ⟨fun q => absurd q y0, fun _ => ⟨hin, fun _ => ⟨hin, trivial⟩, fun q => absurd (p1.mpr c1) q⟩⟩⟩⟩
  · rw [if_neg (fun q => c1 (p1.mp q)), if_neg (fun q : bq_f D C 7 => c1 q.2.1)]
    exact ⟨rfl, fun V => ⟨fun q => absurd q y, fun _ => ⟨fun q => absurd q y0, fun _ => ⟨hin, fun q => absurd (p1.mp q) c1, fun _ => trivial⟩⟩⟩⟩
theorem bf_3_0 (hw : ab_W o f r) (h : ab_V o f r D) {C : Nat} (x : Int32) (hk : ¬ o ≤ 3) : (cf_X6_isBroken_s168_3_0 fu (nI o) (nI f) (nI r) (ma_F D) (ma_R D) (ma_C D) x (mm_M C g) = if bq_f D C 6 then (mm_M C g, (1 : Int32)) else cf_X6_isBroken_s168_3_1 fu (nI o) (nI f) (nI r) (ma_F D) (ma_R D) (ma_C D) x (mm_M C g)) ∧ (vc_X6_isBroken_s168_3_1 fu (nI o) (nI f) (nI r) (ma_F D) (ma_R D) (ma_C D) x (mm_M C g) → vc_X6_isBroken_s168_3_0 fu (nI o) (nI f) (nI r) (ma_F D) (ma_R D) (ma_C D) x (mm_M C g)) := by
  obtain ⟨w1, w2, w3, w4, w5, w6⟩ := id hw
  have hb := (h.1 6 (by omega))
  obtain ⟨e0, e1⟩ := ms_t (D 0 6) (by omega)
  have er : ma_F D ((6 : Int32)).toNatClampNeg = nI (D 0 6) - 1 := rfl
  unfold cf_X6_isBroken_s168_3_0 vc_X6_isBroken_s168_3_0
  rw [er]
  by_cases lf : f ≤ 0
  · omega
  have y : ¬ nI f ≤ (0 : Int32) := fun q => lf ((nl_le (c := 0) (by omega) (by omega)).mp q)
  rw [if_neg y]
  by_cases c0 : D 0 6 = 0
  · rw [if_pos (e0.mpr c0), if_neg (fun q : bq_f D C 6 => q.1 c0)]
    exact ⟨rfl, fun V => ⟨fun q => absurd q y, fun _ => ⟨fun _ => V, fun q => absurd (e0.mpr c0) q⟩⟩⟩
  have y0 : ¬ nI (D 0 6) - 1 < (0 : Int32) := fun q => c0 (e0.mp q)
  have hin : vp_in (nI (D 0 6) - 1) 4 := vp_t c0 (by omega)
  have hc2 := (h.2.2.1 (D 0 6 - 1) (by omega)).1
  rw [if_neg y0, (e1 c0).1]
  have p1 : ma_C D (D 0 6 - 1) = 0 ↔ D 2 (D 0 6 - 1) = 0 := ms_0 (n := D 2 (D 0 6 - 1)) (by omega)
  have p2 : mm_M C g (D 0 6 - 1) = 0 ↔ C.testBit (D 0 6 - 1) = false := mm_0 (by omega)
  by_cases c1 : D 2 (D 0 6 - 1) = 0
  · rw [if_pos (p1.mpr c1)]
    by_cases c2 : C.testBit (D 0 6 - 1) = false
    · rw [if_pos (p2.mpr c2), if_pos (show bq_f D C 6 from ⟨c0, c1, c2⟩)]
      exact ⟨rfl, fun V => ⟨fun q => absurd q y, fun _ => ⟨fun q => absurd q y0, fun _ => ⟨hin, fun _ => ⟨hin, ⟨fun _ => trivial, fun q => absurd (p2.mpr c2) q⟩⟩, fun q => absurd (p1.mpr c1) q⟩⟩⟩⟩
    · rw [if_neg (fun q => c2 (p2.mp q)), if_neg (fun q : bq_f D C 6 => c2 q.2.2)]
      exact ⟨rfl, fun V => ⟨fun q => absurd q y, fun _ => ⟨fun q => absurd q y0, fun _ => ⟨hin, fun _ => ⟨hin, ⟨fun q => absurd (p2.mp q) c2, fun _ => V⟩⟩, fun q => absurd (p1.mpr c1) q⟩⟩⟩⟩
  · rw [if_neg (fun q => c1 (p1.mp q)), if_neg (fun q : bq_f D C 6 => c1 q.2.1)]
    exact ⟨rfl, fun V => ⟨fun q => absurd q y, fun _ => ⟨fun q => absurd q y0, fun _ => ⟨hin, fun q => absurd (p1.mp q) c1, fun _ => V⟩⟩⟩⟩
theorem bg_3 (hw : ab_W o f r) (h : ab_V o f r D) {C : Nat} (x : Int32) : (cf_X6_isBroken_s145_3 fu (nI o) (nI f) (nI r) (ma_F D) (ma_R D) (ma_C D) x (mm_M C g) = if o ≤ 3 then (mm_M C g, (0 : Int32)) else if D 2 3 = 2 ∧ (bq_f D C 6 ∨ bq_f D C 7) then (mm_M C g, (1 : Int32)) else (mm_M C g, (0 : Int32))) ∧ (True → vc_X6_isBroken_s145_3 fu (nI o) (nI f) (nI r) (ma_F D) (ma_R D) (ma_C D) x (mm_M C g)) := by
  obtain ⟨w1, w2, w3, w4, w5, w6⟩ := id hw
  have hc := h.2.2.1 3 (by omega)
  unfold cf_X6_isBroken_s145_3 vc_X6_isBroken_s145_3
  have p1 : (nI o ≤ (3 : Int32)) ↔ o ≤ 3 := nl_le (c := 3) (by omega) (by omega)
  have p5 : (ma_C D ((3 : Int32)).toNatClampNeg = (2 : Int32)) ↔ D 2 3 = 2 := ms_2 (n := D 2 3) (by omega)
  by_cases a1 : o ≤ 3
  · rw [if_pos (p1.mpr a1), if_pos a1]
    exact ⟨rfl, fun _ => ⟨fun _ => trivial, fun q => absurd (p1.mpr a1) q⟩⟩
  rw [if_neg (fun y => a1 (p1.mp y)), if_neg a1]
  have y1 : ¬ nI o ≤ (3 : Int32) := fun y => a1 (p1.mp y)
  obtain ⟨u1, u2⟩ := bf_3_0 (fu := fu) (g := g) hw h (C := C) x a1
  obtain ⟨u3, u4⟩ := bf_3_1 (fu := fu) (g := g) hw h (C := C) x a1
  by_cases a2 : D 2 3 = 2
  · rw [if_pos (p5.mpr a2), u1, u3]
    refine ⟨?_, fun V => ⟨fun q => absurd q y1, fun _ => ⟨fun _ => u2 (u4 trivial), fun q => absurd (p5.mpr a2) q⟩⟩⟩
    by_cases b0 : bq_f D C 6
    · rw [if_pos b0, if_pos ⟨a2, Or.inl b0⟩]
    rw [if_neg b0]
    by_cases b1 : bq_f D C 7
    · rw [if_pos b1, if_pos ⟨a2, Or.inr b1⟩]
    rw [if_neg b1, if_neg (fun q => q.2.elim b0 b1)]
    rfl
  · rw [if_neg (fun y => a2 (p5.mp y)), if_neg (fun q => a2 q.1)]
    exact ⟨rfl, fun V => ⟨fun q => absurd q y1, fun _ => ⟨fun q => absurd (p5.mp q) a2, fun _ => trivial⟩⟩⟩
theorem bf_2_1 (hw : ab_W o f r) (h : ab_V o f r D) {C : Nat} (x : Int32) (hk : ¬ o ≤ 2) : (cf_X6_isBroken_s168_2_1 fu (nI o) (nI f) (nI r) (ma_F D) (ma_R D) (ma_C D) x (mm_M C g) = if bq_f D C 5 then (mm_M C g, (1 : Int32)) else cf_X6_isBroken_s221_2 fu (nI o) (nI f) (nI r) (ma_F D) (ma_R D) (ma_C D) x (mm_M C g)) ∧ (vc_X6_isBroken_s221_2 fu (nI o) (nI f) (nI r) (ma_F D) (ma_R D) (ma_C D) x (mm_M C g) → vc_X6_isBroken_s168_2_1 fu (nI o) (nI f) (nI r) (ma_F D) (ma_R D) (ma_C D) x (mm_M C g)) := by
  obtain ⟨w1, w2, w3, w4, w5, w6⟩ := id hw
  have hb := (h.1 5 (by omega))
  obtain ⟨e0, e1⟩ := ms_t (D 0 5) (by omega)
  have er : ma_F D ((5 : Int32)).toNatClampNeg = nI (D 0 5) - 1 := rfl
  unfold cf_X6_isBroken_s168_2_1 vc_X6_isBroken_s168_2_1
  rw [er]
  by_cases lf : f ≤ 1
  · have y : nI f ≤ (1 : Int32) := (nl_le (c := 1) (by omega) (by omega)).mpr lf
    have z : D 0 5 = 0 := hb.2 (Or.inr (by omega))
    rw [if_pos y, if_neg (fun q : bq_f D C 5 => q.1 z)]
    exact ⟨rfl, fun V => ⟨fun _ => V, fun q => absurd y q⟩⟩
  have y : ¬ nI f ≤ (1 : Int32) := fun q => lf ((nl_le (c := 1) (by omega) (by omega)).mp q)
  rw [if_neg y]
  by_cases c0 : D 0 5 = 0
  · rw [if_pos (e0.mpr c0), if_neg (fun q : bq_f D C 5 => q.1 c0)]
    exact ⟨rfl, fun V => ⟨fun q => absurd q y, fun _ => ⟨fun _ => V, fun q => absurd (e0.mpr c0) q⟩⟩⟩
  have y0 : ¬ nI (D 0 5) - 1 < (0 : Int32) := fun q => c0 (e0.mp q)
  have hin : vp_in (nI (D 0 5) - 1) 4 := vp_t c0 (by omega)
  have hc2 := (h.2.2.1 (D 0 5 - 1) (by omega)).1
  rw [if_neg y0, (e1 c0).1]
  have p1 : ma_C D (D 0 5 - 1) = 0 ↔ D 2 (D 0 5 - 1) = 0 := ms_0 (n := D 2 (D 0 5 - 1)) (by omega)
  have p2 : mm_M C g (D 0 5 - 1) = 0 ↔ C.testBit (D 0 5 - 1) = false := mm_0 (by omega)
  by_cases c1 : D 2 (D 0 5 - 1) = 0
  · rw [if_pos (p1.mpr c1)]
    by_cases c2 : C.testBit (D 0 5 - 1) = false
    · rw [if_pos (p2.mpr c2), if_pos (show bq_f D C 5 from ⟨c0, c1, c2⟩)]
      exact ⟨rfl, fun V => ⟨fun q => absurd q y, fun _ => ⟨fun q => absurd q y0, fun _ => ⟨hin, fun _ => ⟨hin, ⟨fun _ => trivial, fun q => absurd (p2.mpr c2) q⟩⟩, fun q => absurd (p1.mpr c1) q⟩⟩⟩⟩
    · rw [if_neg (fun q => c2 (p2.mp q)), if_neg (fun q : bq_f D C 5 => c2 q.2.2)]
      exact ⟨rfl, fun V => ⟨fun q => absurd q y, fun _ => ⟨fun q => absurd q y0, fun _ => ⟨hin, fun _ => ⟨hin, ⟨fun q => absurd (p2.mp q) c2, fun _ => V⟩⟩, fun q => absurd (p1.mpr c1) q⟩⟩⟩⟩
  · rw [if_neg (fun q => c1 (p1.mp q)), if_neg (fun q : bq_f D C 5 => c1 q.2.1)]
    exact ⟨rfl, fun V => ⟨fun q => absurd q y, fun _ => ⟨fun q => absurd q y0, fun _ => ⟨hin, fun q => absurd (p1.mp q) c1, fun _ => V⟩⟩⟩⟩
theorem bf_2_0 (hw : ab_W o f r) (h : ab_V o f r D) {C : Nat} (x : Int32) (hk : ¬ o ≤ 2) : (cf_X6_isBroken_s168_2_0 fu (nI o) (nI f) (nI r) (ma_F D) (ma_R D) (ma_C D) x (mm_M C g) = if bq_f D C 4 then (mm_M C g, (1 : Int32)) else cf_X6_isBroken_s168_2_1 fu (nI o) (nI f) (nI r) (ma_F D) (ma_R D) (ma_C D) x (mm_M C g)) ∧ (vc_X6_isBroken_s168_2_1 fu (nI o) (nI f) (nI r) (ma_F D) (ma_R D) (ma_C D) x (mm_M C g) → vc_X6_isBroken_s168_2_0 fu (nI o) (nI f) (nI r) (ma_F D) (ma_R D) (ma_C D) x (mm_M C g)) := by
  obtain ⟨w1, w2, w3, w4, w5, w6⟩ := id hw
  have hb := (h.1 4 (by omega))
  obtain ⟨e0, e1⟩ := ms_t (D 0 4) (by omega)
  have er : ma_F D ((4 : Int32)).toNatClampNeg = nI (D 0 4) - 1 := rfl
  unfold cf_X6_isBroken_s168_2_0 vc_X6_isBroken_s168_2_0
  rw [er]
  by_cases lf : f ≤ 0
  · omega
  have y : ¬ nI f ≤ (0 : Int32) := fun q => lf ((nl_le (c := 0) (by omega) (by omega)).mp q)
  rw [if_neg y]
  by_cases c0 : D 0 4 = 0
  · rw [if_pos (e0.mpr c0), if_neg (fun q : bq_f D C 4 => q.1 c0)]
    exact ⟨rfl, fun V => ⟨fun q => absurd q y, fun _ => ⟨fun _ => V, fun q => absurd (e0.mpr c0) q⟩⟩⟩
  have y0 : ¬ nI (D 0 4) - 1 < (0 : Int32) := fun q => c0 (e0.mp q)
  have hin : vp_in (nI (D 0 4) - 1) 4 := vp_t c0 (by omega)
  have hc2 := (h.2.2.1 (D 0 4 - 1) (by omega)).1
  rw [if_neg y0, (e1 c0).1]
  have p1 : ma_C D (D 0 4 - 1) = 0 ↔ D 2 (D 0 4 - 1) = 0 := ms_0 (n := D 2 (D 0 4 - 1)) (by omega)
  have p2 : mm_M C g (D 0 4 - 1) = 0 ↔ C.testBit (D 0 4 - 1) = false := mm_0 (by omega)
  by_cases c1 : D 2 (D 0 4 - 1) = 0
  · rw [if_pos (p1.mpr c1)]
    by_cases c2 : C.testBit (D 0 4 - 1) = false
    · rw [if_pos (p2.mpr c2), if_pos (show bq_f D C 4 from ⟨c0, c1, c2⟩)]
      exact ⟨rfl, fun V => ⟨fun q => absurd q y, fun _ => ⟨fun q => absurd q y0, fun _ => ⟨hin, fun _ => ⟨hin, ⟨fun _ => trivial, fun q => absurd (p2.mpr c2) q⟩⟩, fun q => absurd (p1.mpr c1) q⟩⟩⟩⟩
    · rw [if_neg (fun q => c2 (p2.mp q)), if_neg (fun q : bq_f D C 4 => c2 q.2.2)]
      exact ⟨rfl, fun V => ⟨fun q => absurd q y, fun _ => ⟨fun q => absurd q y0, fun _ => ⟨hin, fun _ => ⟨hin, ⟨fun q => absurd (p2.mp q) c2, fun _ => V⟩⟩, fun q => absurd (p1.mpr c1) q⟩⟩⟩⟩
  · rw [if_neg (fun q => c1 (p1.mp q)), if_neg (fun q : bq_f D C 4 => c1 q.2.1)]
    exact ⟨rfl, fun V => ⟨fun q => absurd q y, fun _ => ⟨fun q => absurd q y0, fun _ => ⟨hin, fun q => absurd (p1.mp q) c1, fun _ => V⟩⟩⟩⟩
theorem bg_2 (hw : ab_W o f r) (h : ab_V o f r D) {C : Nat} (x : Int32) : (cf_X6_isBroken_s145_2 fu (nI o) (nI f) (nI r) (ma_F D) (ma_R D) (ma_C D) x (mm_M C g) = if o ≤ 2 then (mm_M C g, (0 : Int32)) else if D 2 2 = 2 ∧ (bq_f D C 4 ∨ bq_f D C 5) then (mm_M C g, (1 : Int32)) else cf_X6_isBroken_s145_3 fu (nI o) (nI f) (nI r) (ma_F D) (ma_R D) (ma_C D) x (mm_M C g)) ∧ (vc_X6_isBroken_s145_3 fu (nI o) (nI f) (nI r) (ma_F D) (ma_R D) (ma_C D) x (mm_M C g) → vc_X6_isBroken_s145_2 fu (nI o) (nI f) (nI r) (ma_F D) (ma_R D) (ma_C D) x (mm_M C g)) := by
  obtain ⟨w1, w2, w3, w4, w5, w6⟩ := id hw
  have hc := h.2.2.1 2 (by omega)
  unfold cf_X6_isBroken_s145_2 vc_X6_isBroken_s145_2
  have p1 : (nI o ≤ (2 : Int32)) ↔ o ≤ 2 := nl_le (c := 2) (by omega) (by omega)
  have p5 : (ma_C D ((2 : Int32)).toNatClampNeg = (2 : Int32)) ↔ D 2 2 = 2 := ms_2 (n := D 2 2) (by omega)
  by_cases a1 : o ≤ 2
  · rw [if_pos (p1.mpr a1), if_pos a1]
    exact ⟨rfl, fun _ => ⟨fun _ => trivial, fun q => absurd (p1.mpr a1) q⟩⟩
  rw [if_neg (fun y => a1 (p1.mp y)), if_neg a1]
  have y1 : ¬ nI o ≤ (2 : Int32) := fun y => a1 (p1.mp y)
  obtain ⟨u1, u2⟩ := bf_2_0 (fu := fu) (g := g) hw h (C := C) x a1
  obtain ⟨u3, u4⟩ := bf_2_1 (fu := fu) (g := g) hw h (C := C) x a1
  by_cases a2 : D 2 2 = 2
  · rw [if_pos (p5.mpr a2), u1, u3]
    refine ⟨?_, fun V => ⟨fun q => absurd q y1, fun _ => ⟨fun _ => u2 (u4 V), fun q => absurd (p5.mpr a2) q⟩⟩⟩
    by_cases b0 : bq_f D C 4
    · rw [if_pos b0, if_pos ⟨a2, Or.inl b0⟩]
    rw [if_neg b0]
    by_cases b1 : bq_f D C 5
    · rw [if_pos b1, if_pos ⟨a2, Or.inr b1⟩]
    rw [if_neg b1, if_neg (fun q => q.2.elim b0 b1)]
    rfl
  · rw [if_neg (fun y => a2 (p5.mp y)), if_neg (fun q => a2 q.1)]
    exact ⟨rfl, fun V => ⟨fun q => absurd q y1, fun _ => ⟨fun q => absurd (p5.mp q) a2, fun _ => V⟩⟩⟩
theorem bf_1_1 (hw : ab_W o f r) (h : ab_V o f r D) {C : Nat} (x : Int32) (hk : ¬ o ≤ 1) : (cf_X6_isBroken_s168_1_1 fu (nI o) (nI f) (nI r) (ma_F D) (ma_R D) (ma_C D) x (mm_M C g) = if bq_f D C 3 then (mm_M C g, (1 : Int32)) else cf_X6_isBroken_s221_1 fu (nI o) (nI f) (nI r) (ma_F D) (ma_R D) (ma_C D) x (mm_M C g)) ∧ (vc_X6_isBroken_s221_1 fu (nI o) (nI f) (nI r) (ma_F D) (ma_R D) (ma_C D) x (mm_M C g) → vc_X6_isBroken_s168_1_1 fu (nI o) (nI f) (nI r) (ma_F D) (ma_R D) (ma_C D) x (mm_M C g)) := by
  obtain ⟨w1, w2, w3, w4, w5, w6⟩ := id hw
  have hb := (h.1 3 (by omega))
  obtain ⟨e0, e1⟩ := ms_t (D 0 3) (by omega)
  have er : ma_F D ((3 : Int32)).toNatClampNeg = nI (D 0 3) - 1 := rfl
  unfold cf_X6_isBroken_s168_1_1 vc_X6_isBroken_s168_1_1
  rw [er]
  by_cases lf : f ≤ 1
  · have y : nI f ≤ (1 : Int32) := (nl_le (c := 1) (by omega) (by omega)).mpr lf
    have z : D 0 3 = 0 := hb.2 (Or.inr (by omega))
    rw [if_pos y, if_neg (fun q : bq_f D C 3 => q.1 z)]
    exact ⟨rfl, fun V => ⟨fun _ => V, fun q => absurd y q⟩⟩
  have y : ¬ nI f ≤ (1 : Int32) := fun q => lf ((nl_le (c := 1) (by omega) (by omega)).mp q)
  rw [if_neg y]
  by_cases c0 : D 0 3 = 0
  · rw [if_pos (e0.mpr c0), if_neg (fun q : bq_f D C 3 => q.1 c0)]
    exact ⟨rfl, fun V => ⟨fun q => absurd q y, fun _ => ⟨fun _ => V, fun q => absurd (e0.mpr c0) q⟩⟩⟩
  have y0 : ¬ nI (D 0 3) - 1 < (0 : Int32) := fun q => c0 (e0.mp q)
  have hin : vp_in (nI (D 0 3) - 1) 4 := vp_t c0 (by omega)
  have hc2 := (h.2.2.1 (D 0 3 - 1) (by omega)).1
  rw [if_neg y0, (e1 c0).1]
  have p1 : ma_C D (D 0 3 - 1) = 0 ↔ D 2 (D 0 3 - 1) = 0 := ms_0 (n := D 2 (D 0 3 - 1)) (by omega)
  have p2 : mm_M C g (D 0 3 - 1) = 0 ↔ C.testBit (D 0 3 - 1) = false := mm_0 (by omega)
  by_cases c1 : D 2 (D 0 3 - 1) = 0
  · rw [if_pos (p1.mpr c1)]
    by_cases c2 : C.testBit (D 0 3 - 1) = false
    · rw [if_pos (p2.mpr c2), if_pos (show bq_f D C 3 from ⟨c0, c1, c2⟩)]
      exact ⟨rfl, fun V => ⟨fun q => absurd q y, fun _ => ⟨fun q => absurd q y0, fun _ => ⟨hin, fun _ => ⟨hin, ⟨fun _ => trivial, fun q => absurd (p2.mpr c2) q⟩⟩, fun q => absurd (p1.mpr c1) q⟩⟩⟩⟩
    · rw [if_neg (fun q => c2 (p2.mp q)), if_neg (fun q : bq_f D C 3 => c2 q.2.2)]
      exact ⟨rfl, fun V => ⟨fun q => absurd q y, fun _ => ⟨fun q => absurd q y0, fun _ => ⟨hin, fun _ => ⟨hin, ⟨fun q => absurd (p2.mp q) c2, fun _ => V⟩⟩, fun q => absurd (p1.mpr c1) q⟩⟩⟩⟩
  · rw [if_neg (fun q => c1 (p1.mp q)), if_neg (fun q : bq_f D C 3 => c1 q.2.1)]
    exact ⟨rfl, fun V => ⟨fun q => absurd q y, fun _ => ⟨fun q => absurd q y0, fun _ => ⟨hin, fun q => absurd (p1.mp q) c1, fun _ => V⟩⟩⟩⟩
theorem bf_1_0 (hw : ab_W o f r) (h : ab_V o f r D) {C : Nat} (x : Int32) (hk : ¬ o ≤ 1) : (cf_X6_isBroken_s168_1_0 fu (nI o) (nI f) (nI r) (ma_F D) (ma_R D) (ma_C D) x (mm_M C g) = if bq_f D C 2 then (mm_M C g, (1 : Int32)) else cf_X6_isBroken_s168_1_1 fu (nI o) (nI f) (nI r) (ma_F D) (ma_R D) (ma_C D) x (mm_M C g)) ∧ (vc_X6_isBroken_s168_1_1 fu (nI o) (nI f) (nI r) (ma_F D) (ma_R D) (ma_C D) x (mm_M C g) → vc_X6_isBroken_s168_1_0 fu (nI o) (nI f) (nI r) (ma_F D) (ma_R D) (ma_C D) x (mm_M C g)) := by
  obtain ⟨w1, w2, w3, w4, w5, w6⟩ := id hw
  have hb := (h.1 2 (by omega))
  obtain ⟨e0, e1⟩ := ms_t (D 0 2) (by omega)
  have er : ma_F D ((2 : Int32)).toNatClampNeg = nI (D 0 2) - 1 := rfl
  unfold cf_X6_isBroken_s168_1_0 vc_X6_isBroken_s168_1_0
  rw [er]
  by_cases lf : f ≤ 0
  · omega
  have y : ¬ nI f ≤ (0 : Int32) := fun q => lf ((nl_le (c := 0) (by omega) (by omega)).mp q)
  rw [if_neg y]
  by_cases c0 : D 0 2 = 0
  · rw [if_pos (e0.mpr c0), if_neg (fun q : bq_f D C 2 => q.1 c0)]
    exact ⟨rfl, fun V => ⟨fun q => absurd q y, fun _ => ⟨fun _ => V, fun q => absurd (e0.mpr c0) q⟩⟩⟩
  have y0 : ¬ nI (D 0 2) - 1 < (0 : Int32) := fun q => c0 (e0.mp q)
  have hin : vp_in (nI (D 0 2) - 1) 4 := vp_t c0 (by omega)
  have hc2 := (h.2.2.1 (D 0 2 - 1) (by omega)).1
  rw [if_neg y0, (e1 c0).1]
  have p1 : ma_C D (D 0 2 - 1) = 0 ↔ D 2 (D 0 2 - 1) = 0 := ms_0 (n := D 2 (D 0 2 - 1)) (by omega)
  have p2 : mm_M C g (D 0 2 - 1) = 0 ↔ C.testBit (D 0 2 - 1) = false := mm_0 (by omega)
  by_cases c1 : D 2 (D 0 2 - 1) = 0
  · rw [if_pos (p1.mpr c1)]
    by_cases c2 : C.testBit (D 0 2 - 1) = false
    · rw [if_pos (p2.mpr c2), if_pos (show bq_f D C 2 from ⟨c0, c1, c2⟩)]
      exact ⟨rfl, fun V => ⟨fun q => absurd q y, fun _ => ⟨fun q => absurd q y0, fun _ => ⟨hin, fun _ => ⟨hin, ⟨fun _ => trivial, fun q => absurd (p2.mpr c2) q⟩⟩, fun q => absurd (p1.mpr c1) q⟩⟩⟩⟩
    · rw [if_neg (fun q => c2 (p2.mp q)), if_neg (fun q : bq_f D C 2 => c2 q.2.2)]
      exact ⟨rfl, fun V => ⟨fun q => absurd q y, fun _ => ⟨fun q => absurd q y0, fun _ => ⟨hin, fun _ => ⟨hin, ⟨fun q => absurd (p2.mp q) c2, fun _ => V⟩⟩, fun q => absurd (p1.mpr c1) q⟩⟩⟩⟩
  · rw [if_neg (fun q => c1 (p1.mp q)), if_neg (fun q : bq_f D C 2 => c1 q.2.1)]
    exact ⟨rfl, fun V => ⟨fun q => absurd q y, fun _ => ⟨fun q => absurd q y0, fun _ => ⟨hin, fun q => absurd (p1.mp q) c1, fun _ => V⟩⟩⟩⟩
theorem bg_1 (hw : ab_W o f r) (h : ab_V o f r D) {C : Nat} (x : Int32) : (cf_X6_isBroken_s145_1 fu (nI o) (nI f) (nI r) (ma_F D) (ma_R D) (ma_C D) x (mm_M C g) = if o ≤ 1 then (mm_M C g, (0 : Int32)) else if D 2 1 = 2 ∧ (bq_f D C 2 ∨ bq_f D C 3) then (mm_M C g, (1 : Int32)) else cf_X6_isBroken_s145_2 fu (nI o) (nI f) (nI r) (ma_F D) (ma_R D) (ma_C D) x (mm_M C g)) ∧ (vc_X6_isBroken_s145_2 fu (nI o) (nI f) (nI r) (ma_F D) (ma_R D) (ma_C D) x (mm_M C g) → vc_X6_isBroken_s145_1 fu (nI o) (nI f) (nI r) (ma_F D) (ma_R D) (ma_C D) x (mm_M C g)) := by
  obtain ⟨w1, w2, w3, w4, w5, w6⟩ := id hw
  have hc := h.2.2.1 1 (by omega)
  unfold cf_X6_isBroken_s145_1 vc_X6_isBroken_s145_1
  have p1 : (nI o ≤ (1 : Int32)) ↔ o ≤ 1 := nl_le (c := 1) (by omega) (by omega)
  have p5 : (ma_C D ((1 : Int32)).toNatClampNeg = (2 : Int32)) ↔ D 2 1 = 2 := ms_2 (n := D 2 1) (by omega)
  by_cases a1 : o ≤ 1
  · rw [if_pos (p1.mpr a1), if_pos a1]
    exact ⟨rfl, fun _ => ⟨fun _ => trivial, fun q => absurd (p1.mpr a1) q⟩⟩
  rw [if_neg (fun y => a1 (p1.mp y)), if_neg a1]
  have y1 : ¬ nI o ≤ (1 : Int32) := fun y => a1 (p1.mp y)
  obtain ⟨u1, u2⟩ := bf_1_0 (fu := fu) (g := g) hw h (C := C) x a1
  obtain ⟨u3, u4⟩ := bf_1_1 (fu := fu) (g := g) hw h (C := C) x a1
  by_cases a2 : D 2 1 = 2
  · rw [if_pos (p5.mpr a2), u1, u3]
    refine ⟨?_, fun V => ⟨fun q => absurd q y1, fun _ => ⟨fun _ => u2 (u4 V), fun q => absurd (p5.mpr a2) q⟩⟩⟩
    by_cases b0 : bq_f D C 2
    · rw [if_pos b0, if_pos ⟨a2, Or.inl b0⟩]
    rw [if_neg b0]
    by_cases b1 : bq_f D C 3
    · rw [if_pos b1, if_pos ⟨a2, Or.inr b1⟩]
    rw [if_neg b1, if_neg (fun q => q.2.elim b0 b1)]
    rfl
  · rw [if_neg (fun y => a2 (p5.mp y)), if_neg (fun q => a2 q.1)]
    exact ⟨rfl, fun V => ⟨fun q => absurd q y1, fun _ => ⟨fun q => absurd (p5.mp q) a2, fun _ => V⟩⟩⟩
theorem bf_0_1 (hw : ab_W o f r) (h : ab_V o f r D) {C : Nat} (x : Int32) (hk : ¬ o ≤ 0) : (cf_X6_isBroken_s168_0_1 fu (nI o) (nI f) (nI r) (ma_F D) (ma_R D) (ma_C D) x (mm_M C g) = if bq_f D C 1 then (mm_M C g, (1 : Int32)) else cf_X6_isBroken_s221_0 fu (nI o) (nI f) (nI r) (ma_F D) (ma_R D) (ma_C D) x (mm_M C g)) ∧ (vc_X6_isBroken_s221_0 fu (nI o) (nI f) (nI r) (ma_F D) (ma_R D) (ma_C D) x (mm_M C g) → vc_X6_isBroken_s168_0_1 fu (nI o) (nI f) (nI r) (ma_F D) (ma_R D) (ma_C D) x (mm_M C g)) := by
  obtain ⟨w1, w2, w3, w4, w5, w6⟩ := id hw
  have hb := (h.1 1 (by omega))
  obtain ⟨e0, e1⟩ := ms_t (D 0 1) (by omega)
  have er : ma_F D ((1 : Int32)).toNatClampNeg = nI (D 0 1) - 1 := rfl
  unfold cf_X6_isBroken_s168_0_1 vc_X6_isBroken_s168_0_1
  rw [er]
  by_cases lf : f ≤ 1
  · have y : nI f ≤ (1 : Int32) := (nl_le (c := 1) (by omega) (by omega)).mpr lf
    have z : D 0 1 = 0 := hb.2 (Or.inr (by omega))
    rw [if_pos y, if_neg (fun q : bq_f D C 1 => q.1 z)]
    exact ⟨rfl, fun V => ⟨fun _ => V, fun q => absurd y q⟩⟩
  have y : ¬ nI f ≤ (1 : Int32) := fun q => lf ((nl_le (c := 1) (by omega) (by omega)).mp q)
  rw [if_neg y]
  by_cases c0 : D 0 1 = 0
  · rw [if_pos (e0.mpr c0), if_neg (fun q : bq_f D C 1 => q.1 c0)]
    exact ⟨rfl, fun V => ⟨fun q => absurd q y, fun _ => ⟨fun _ => V, fun q => absurd (e0.mpr c0) q⟩⟩⟩
  have y0 : ¬ nI (D 0 1) - 1 < (0 : Int32) := fun q => c0 (e0.mp q)
  have hin : vp_in (nI (D 0 1) - 1) 4 := vp_t c0 (by omega)
  have hc2 := (h.2.2.1 (D 0 1 - 1) (by omega)).1
  rw [if_neg y0, (e1 c0).1]
  have p1 : ma_C D (D 0 1 - 1) = 0 ↔ D 2 (D 0 1 - 1) = 0 := ms_0 (n := D 2 (D 0 1 - 1)) (by omega)
  have p2 : mm_M C g (D 0 1 - 1) = 0 ↔ C.testBit (D 0 1 - 1) = false := mm_0 (by omega)
  by_cases c1 : D 2 (D 0 1 - 1) = 0
  · rw [if_pos (p1.mpr c1)]
    by_cases c2 : C.testBit (D 0 1 - 1) = false
    · rw [if_pos (p2.mpr c2), if_pos (show bq_f D C 1 from ⟨c0, c1, c2⟩)]
      exact ⟨rfl, fun V => ⟨fun q => absurd q y, fun _ => ⟨fun q => absurd q y0, fun _ => ⟨hin, fun _ => ⟨hin, ⟨fun _ => trivial, fun q => absurd (p2.mpr c2) q⟩⟩, fun q => absurd (p1.mpr c1) q⟩⟩⟩⟩
    · rw [if_neg (fun q => c2 (p2.mp q)), if_neg (fun q : bq_f D C 1 => c2 q.2.2)]
      exact ⟨rfl, fun V => ⟨fun q => absurd q y, fun _ => ⟨fun q => absurd q y0, fun _ => ⟨hin, fun _ => ⟨hin, ⟨fun q => absurd (p2.mp q) c2, fun _ => V⟩⟩, fun q => absurd (p1.mpr c1) q⟩⟩⟩⟩
  · rw [if_neg (fun q => c1 (p1.mp q)), if_neg (fun q : bq_f D C 1 => c1 q.2.1)]
    exact ⟨rfl, fun V => ⟨fun q => absurd q y, fun _ => ⟨fun q => absurd q y0, fun _ => ⟨hin, fun q => absurd (p1.mp q) c1, fun _ => V⟩⟩⟩⟩
theorem bf_0_0 (hw : ab_W o f r) (h : ab_V o f r D) {C : Nat} (x : Int32) (hk : ¬ o ≤ 0) : (cf_X6_isBroken_s168_0_0 fu (nI o) (nI f) (nI r) (ma_F D) (ma_R D) (ma_C D) x (mm_M C g) = if bq_f D C 0 then (mm_M C g, (1 : Int32)) else cf_X6_isBroken_s168_0_1 fu (nI o) (nI f) (nI r) (ma_F D) (ma_R D) (ma_C D) x (mm_M C g)) ∧ (vc_X6_isBroken_s168_0_1 fu (nI o) (nI f) (nI r) (ma_F D) (ma_R D) (ma_C D) x (mm_M C g) → vc_X6_isBroken_s168_0_0 fu (nI o) (nI f) (nI r) (ma_F D) (ma_R D) (ma_C D) x (mm_M C g)) := by
  obtain ⟨w1, w2, w3, w4, w5, w6⟩ := id hw
  have hb := (h.1 0 (by omega))
  obtain ⟨e0, e1⟩ := ms_t (D 0 0) (by omega)
  have er : ma_F D ((0 : Int32)).toNatClampNeg = nI (D 0 0) - 1 := rfl
  unfold cf_X6_isBroken_s168_0_0 vc_X6_isBroken_s168_0_0
  rw [er]
  by_cases lf : f ≤ 0
  · omega
  have y : ¬ nI f ≤ (0 : Int32) := fun q => lf ((nl_le (c := 0) (by omega) (by omega)).mp q)
  rw [if_neg y]
  by_cases c0 : D 0 0 = 0
  · rw [if_pos (e0.mpr c0), if_neg (fun q : bq_f D C 0 => q.1 c0)]
    exact ⟨rfl, fun V => ⟨fun q => absurd q y, fun _ => ⟨fun _ => V, fun q => absurd (e0.mpr c0) q⟩⟩⟩
  have y0 : ¬ nI (D 0 0) - 1 < (0 : Int32) := fun q => c0 (e0.mp q)
  have hin : vp_in (nI (D 0 0) - 1) 4 := vp_t c0 (by omega)
  have hc2 := (h.2.2.1 (D 0 0 - 1) (by omega)).1
  rw [if_neg y0, (e1 c0).1]
  have p1 : ma_C D (D 0 0 - 1) = 0 ↔ D 2 (D 0 0 - 1) = 0 := ms_0 (n := D 2 (D 0 0 - 1)) (by omega)
  have p2 : mm_M C g (D 0 0 - 1) = 0 ↔ C.testBit (D 0 0 - 1) = false := mm_0 (by omega)
  by_cases c1 : D 2 (D 0 0 - 1) = 0
  · rw [if_pos (p1.mpr c1)]
    by_cases c2 : C.testBit (D 0 0 - 1) = false
    · rw [if_pos (p2.mpr c2), if_pos (show bq_f D C 0 from ⟨c0, c1, c2⟩)]
      exact ⟨rfl, fun V => ⟨fun q => absurd q y, fun _ => ⟨fun q => absurd q y0, fun _ => ⟨hin, fun _ => ⟨hin, ⟨fun _ => trivial, fun q => absurd (p2.mpr c2) q⟩⟩, fun q => absurd (p1.mpr c1) q⟩⟩⟩⟩
    · rw [if_neg (fun q => c2 (p2.mp q)), if_neg (fun q : bq_f D C 0 => c2 q.2.2)]
      exact ⟨rfl, fun V => ⟨fun q => absurd q y, fun _ => ⟨fun q => absurd q y0, fun _ => ⟨hin, fun _ => ⟨hin, ⟨fun q => absurd (p2.mp q) c2, fun _ => V⟩⟩, fun q => absurd (p1.mpr c1) q⟩⟩⟩⟩
  · rw [if_neg (fun q => c1 (p1.mp q)), if_neg (fun q : bq_f D C 0 => c1 q.2.1)]
    exact ⟨rfl, fun V => ⟨fun q => absurd q y, fun _ => ⟨fun q => absurd q y0, fun _ => ⟨hin, fun q => absurd (p1.mp q) c1, fun _ => V⟩⟩⟩⟩
theorem bg_0 (hw : ab_W o f r) (h : ab_V o f r D) {C : Nat} (x : Int32) : (cf_X6_isBroken_s145_0 fu (nI o) (nI f) (nI r) (ma_F D) (ma_R D) (ma_C D) x (mm_M C g) = if o ≤ 0 then (mm_M C g, (0 : Int32)) else if D 2 0 = 2 ∧ (bq_f D C 0 ∨ bq_f D C 1) then (mm_M C g, (1 : Int32)) else cf_X6_isBroken_s145_1 fu (nI o) (nI f) (nI r) (ma_F D) (ma_R D) (ma_C D) x (mm_M C g)) ∧ (vc_X6_isBroken_s145_1 fu (nI o) (nI f) (nI r) (ma_F D) (ma_R D) (ma_C D) x (mm_M C g) → vc_X6_isBroken_s145_0 fu (nI o) (nI f) (nI r) (ma_F D) (ma_R D) (ma_C D) x (mm_M C g)) := by
  obtain ⟨w1, w2, w3, w4, w5, w6⟩ := id hw
  have hc := h.2.2.1 0 (by omega)
  unfold cf_X6_isBroken_s145_0 vc_X6_isBroken_s145_0
  have p1 : (nI o ≤ (0 : Int32)) ↔ o ≤ 0 := nl_le (c := 0) (by omega) (by omega)
  have p5 : (ma_C D ((0 : Int32)).toNatClampNeg = (2 : Int32)) ↔ D 2 0 = 2 := ms_2 (n := D 2 0) (by omega)
  by_cases a1 : o ≤ 0
  · rw [if_pos (p1.mpr a1), if_pos a1]
    exact ⟨rfl, fun _ => ⟨fun _ => trivial, fun q => absurd (p1.mpr a1) q⟩⟩
  rw [if_neg (fun y => a1 (p1.mp y)), if_neg a1]
  have y1 : ¬ nI o ≤ (0 : Int32) := fun y => a1 (p1.mp y)
  obtain ⟨u1, u2⟩ := bf_0_0 (fu := fu) (g := g) hw h (C := C) x a1
  obtain ⟨u3, u4⟩ := bf_0_1 (fu := fu) (g := g) hw h (C := C) x a1
  by_cases a2 : D 2 0 = 2
  · rw [if_pos (p5.mpr a2), u1, u3]
    refine ⟨?_, fun V => ⟨fun q => absurd q y1, fun _ => ⟨fun _ => u2 (u4 V), fun q => absurd (p5.mpr a2) q⟩⟩⟩
    by_cases b0 : bq_f D C 0
    · rw [if_pos b0, if_pos ⟨a2, Or.inl b0⟩]
    rw [if_neg b0]
    by_cases b1 : bq_f D C 1
    · rw [if_pos b1, if_pos ⟨a2, Or.inr b1⟩]
    rw [if_neg b1, if_neg (fun q => q.2.elim b0 b1)]
    rfl
  · rw [if_neg (fun y => a2 (p5.mp y)), if_neg (fun q => a2 q.1)]
    exact ⟨rfl, fun V => ⟨fun q => absurd q y1, fun _ => ⟨fun q => absurd (p5.mp q) a2, fun _ => V⟩⟩⟩
theorem bg_all (hw : ab_W o f r) (h : ab_V o f r D) {C : Nat} (x : Int32) : cf_X6_isBroken_s143 fu (nI o) (nI f) (nI r) (ma_F D) (ma_R D) (ma_C D) x (mm_M C g) = (mm_M C g, if (∃ k, k < o ∧ (D 2 k = 2 ∧ (bq_f D C (2 * k) ∨ bq_f D C (2 * k + 1)))) then (1 : Int32) else 0) ∧ vc_X6_isBroken_s143 fu (nI o) (nI f) (nI r) (ma_F D) (ma_R D) (ma_C D) x (mm_M C g) := by
  obtain ⟨w1, w2, w3, w4, w5, w6⟩ := id hw
  obtain ⟨u0, v0⟩ := bg_0 (fu := fu) (g := g) hw h (C := C) x
  obtain ⟨u1, v1⟩ := bg_1 (fu := fu) (g := g) hw h (C := C) x
  obtain ⟨u2, v2⟩ := bg_2 (fu := fu) (g := g) hw h (C := C) x
  obtain ⟨u3, v3⟩ := bg_3 (fu := fu) (g := g) hw h (C := C) x
  refine ⟨?_, v0 (v1 (v2 (v3 trivial)))⟩
  show cf_X6_isBroken_s145_0 fu (nI o) (nI f) (nI r) (ma_F D) (ma_R D) (ma_C D) x (mm_M C g) = _
  rw [u0, u1, u2, u3]
  by_cases q : ∃ k, k < o ∧ (D 2 k = 2 ∧ (bq_f D C (2 * k) ∨ bq_f D C (2 * k + 1)))
  · rw [if_pos q]
    obtain ⟨k, hk, hb⟩ := q
    rw [if_neg (show ¬ o ≤ 0 by omega)]
    by_cases e0 : D 2 0 = 2 ∧ (bq_f D C 0 ∨ bq_f D C 1)
    · rw [if_pos e0]
    rw [if_neg e0]
    have k0 : k ≠ 0 := fun y => e0 (by subst y; exact hb)
    rw [if_neg (show ¬ o ≤ 1 by omega)]
    by_cases e1 : D 2 1 = 2 ∧ (bq_f D C 2 ∨ bq_f D C 3)
    · rw [if_pos e1]
    rw [if_neg e1]
    have k1 : k ≠ 1 := fun y => e1 (by subst y; exact hb)
    rw [if_neg (show ¬ o ≤ 2 by omega)]
    by_cases e2 : D 2 2 = 2 ∧ (bq_f D C 4 ∨ bq_f D C 5)
    · rw [if_pos e2]
    rw [if_neg e2]
    have k2 : k ≠ 2 := fun y => e2 (by subst y; exact hb)
    rw [if_neg (show ¬ o ≤ 3 by omega)]
    by_cases e3 : D 2 3 = 2 ∧ (bq_f D C 6 ∨ bq_f D C 7)
    · rw [if_pos e3]
    exact absurd (show k = 3 by omega) (fun y => e3 (by subst y; exact hb))
  · rw [if_neg q]
    have n : ∀ k, ¬ o ≤ k → ¬ (D 2 k = 2 ∧ (bq_f D C (2 * k) ∨ bq_f D C (2 * k + 1))) := fun k hk y => q ⟨k, by omega, y⟩
    by_cases c0 : o ≤ 0
    · rw [if_pos c0]
    rw [if_neg c0, if_neg (n 0 c0)]
    by_cases c1 : o ≤ 1
    · rw [if_pos c1]
    rw [if_neg c1, if_neg (n 1 c1)]
    by_cases c2 : o ≤ 2
    · rw [if_pos c2]
    rw [if_neg c2, if_neg (n 2 c2)]
    by_cases c3 : o ≤ 3
    · rw [if_pos c3]
    rw [if_neg c3, if_neg (n 3 c3)]

theorem vp_k0 : vp_in (0 : Int32) 4 := vp_in_nI (n := 0) (by omega) (by omega)
theorem vp_k1 : vp_in (1 : Int32) 4 := vp_in_nI (n := 1) (by omega) (by omega)
theorem vp_k2 : vp_in (2 : Int32) 4 := vp_in_nI (n := 2) (by omega) (by omega)
theorem vp_k3 : vp_in (3 : Int32) 4 := vp_in_nI (n := 3) (by omega) (by omega)
def gm_v (D : ab_D) (w k : Nat) : Int32 := if w = 2 ∧ D 2 k = 1 then 1 else 0

theorem gm_3 (hw : ab_W o f r) (h : ab_V o f r D) {w : Nat} (hw4 : w < 4) (x : Int32) (m : Nat → Int32) : cf_X6_isBroken_s88_3 fu (nI o) (nI f) (nI r) (ma_F D) (ma_R D) (ma_C D) x m (nI w) = cf_X6_isBroken_s88_4 fu (nI o) (nI f) (nI r) (ma_F D) (ma_R D) (ma_C D) x (upd m ((3 : Int32)).toNatClampNeg (vp_nar .boolean (gm_v D w 3))) (nI w) ∧ (vc_X6_isBroken_s88_4 fu (nI o) (nI f) (nI r) (ma_F D) (ma_R D) (ma_C D) x (upd m ((3 : Int32)).toNatClampNeg (vp_nar .boolean (gm_v D w 3))) (nI w) → vc_X6_isBroken_s88_3 fu (nI o) (nI f) (nI r) (ma_F D) (ma_R D) (ma_C D) x m (nI w)) := by
  obtain ⟨w1, w2, w3, w4, w5, w6⟩ := id hw
  have hc := h.2.2.1 3 (by omega)
  unfold cf_X6_isBroken_s88_3 vc_X6_isBroken_s88_3
  have p1 : (nI o ≤ (3 : Int32)) ↔ o ≤ 3 := nl_le (c := 3) (by omega) (by omega)
  have p2 : (nI w = (2 : Int32)) ↔ w = 2 := ms_2 (by omega)
  have p5 : (ma_C D ((3 : Int32)).toNatClampNeg = (1 : Int32)) ↔ D 2 3 = 1 := ms_1 (n := D 2 3) (by omega)
  by_cases a2 : w = 2
  · rw [if_pos (p2.mpr a2)]
    by_cases a1 : o ≤ 3
    · have e : gm_v D w 3 = 0 := by unfold gm_v; rw [if_neg]; have := hc.2.1 a1; omega
      rw [if_pos (p1.mpr a1), e]
      exact ⟨rfl, fun V => ⟨fun _ => ⟨fun _ => ⟨vp_k3, V⟩, fun q => absurd (p1.mpr a1) q⟩, fun q => absurd (p2.mpr a2) q⟩⟩
    · rw [if_neg (fun y => a1 (p1.mp y))]
      by_cases a3 : D 2 3 = 1
      · have e : gm_v D w 3 = 1 := by unfold gm_v; rw [if_pos ⟨a2, a3⟩]
        rw [if_pos (p5.mpr a3), e]
        exact ⟨rfl, fun V => ⟨fun _ => ⟨fun q => absurd (p1.mp q) a1, fun _ => ⟨fun _ => ⟨vp_k3, V⟩, fun q => absurd (p5.mpr a3) q⟩⟩, fun q => absurd (p2.mpr a2) q⟩⟩
      · have e : gm_v D w 3 = 0 := by unfold gm_v; rw [if_neg]; omega
        rw [if_neg (fun y => a3 (p5.mp y)), e]
        exact ⟨rfl, fun V => ⟨fun _ => ⟨fun q => absurd (p1.mp q) a1, fun _ => ⟨fun q => absurd (p5.mp q) a3, fun _ => ⟨vp_k3, V⟩⟩⟩, fun q => absurd (p2.mpr a2) q⟩⟩
  · have e : gm_v D w 3 = 0 := by unfold gm_v; rw [if_neg]; omega
    rw [if_neg (fun y => a2 (p2.mp y)), e]
    exact ⟨rfl, fun V => ⟨fun q => absurd (p2.mp q) a2, fun _ => ⟨vp_k3, V⟩⟩⟩
theorem gm_2 (hw : ab_W o f r) (h : ab_V o f r D) {w : Nat} (hw4 : w < 4) (x : Int32) (m : Nat → Int32) : cf_X6_isBroken_s88_2 fu (nI o) (nI f) (nI r) (ma_F D) (ma_R D) (ma_C D) x m (nI w) = cf_X6_isBroken_s88_3 fu (nI o) (nI f) (nI r) (ma_F D) (ma_R D) (ma_C D) x (upd m ((2 : Int32)).toNatClampNeg (vp_nar .boolean (gm_v D w 2))) (nI w) ∧ (vc_X6_isBroken_s88_3 fu (nI o) (nI f) (nI r) (ma_F D) (ma_R D) (ma_C D) x (upd m ((2 : Int32)).toNatClampNeg (vp_nar .boolean (gm_v D w 2))) (nI w) → vc_X6_isBroken_s88_2 fu (nI o) (nI f) (nI r) (ma_F D) (ma_R D) (ma_C D) x m (nI w)) := by
  obtain ⟨w1, w2, w3, w4, w5, w6⟩ := id hw
  have hc := h.2.2.1 2 (by omega)
  unfold cf_X6_isBroken_s88_2 vc_X6_isBroken_s88_2
  have p1 : (nI o ≤ (2 : Int32)) ↔ o ≤ 2 := nl_le (c := 2) (by omega) (by omega)
  have p2 : (nI w = (2 : Int32)) ↔ w = 2 := ms_2 (by omega)
  have p5 : (ma_C D ((2 : Int32)).toNatClampNeg = (1 : Int32)) ↔ D 2 2 = 1 := ms_1 (n := D 2 2) (by omega)
  by_cases a2 : w = 2
  · rw [if_pos (p2.mpr a2)]
    by_cases a1 : o ≤ 2
    · have e : gm_v D w 2 = 0 := by unfold gm_v; rw [if_neg]; have := hc.2.1 a1; omega
      rw [if_pos (p1.mpr a1), e]
      exact ⟨rfl, fun V => ⟨fun _ => ⟨fun _ => ⟨vp_k2, V⟩, fun q => absurd (p1.mpr a1) q⟩, fun q => absurd (p2.mpr a2) q⟩⟩
    · rw [if_neg (fun y => a1 (p1.mp y))]
      by_cases a3 : D 2 2 = 1
      · have e : gm_v D w 2 = 1 := by unfold gm_v; rw [if_pos ⟨a2, a3⟩]
        rw [if_pos (p5.mpr a3), e]
        exact ⟨rfl, fun V => ⟨fun _ => ⟨fun q => absurd (p1.mp q) a1, fun _ => ⟨fun _ => ⟨vp_k2, V⟩, fun q => absurd (p5.mpr a3) q⟩⟩, fun q => absurd (p2.mpr a2) q⟩⟩
      · have e : gm_v D w 2 = 0 := by unfold gm_v; rw [if_neg]; omega
        rw [if_neg (fun y => a3 (p5.mp y)), e]
        exact ⟨rfl, fun V => ⟨fun _ => ⟨fun q => absurd (p1.mp q) a1, fun _ => ⟨fun q => absurd (p5.mp q) a3, fun _ => ⟨vp_k2, V⟩⟩⟩, fun q => absurd (p2.mpr a2) q⟩⟩
  · have e : gm_v D w 2 = 0 := by unfold gm_v; rw [if_neg]; omega
    rw [if_neg (fun y => a2 (p2.mp y)), e]
    exact ⟨rfl, fun V => ⟨fun q => absurd (p2.mp q) a2, fun _ => ⟨vp_k2, V⟩⟩⟩
theorem gm_1 (hw : ab_W o f r) (h : ab_V o f r D) {w : Nat} (hw4 : w < 4) (x : Int32) (m : Nat → Int32) : cf_X6_isBroken_s88_1 fu (nI o) (nI f) (nI r) (ma_F D) (ma_R D) (ma_C D) x m (nI w) = cf_X6_isBroken_s88_2 fu (nI o) (nI f) (nI r) (ma_F D) (ma_R D) (ma_C D) x (upd m ((1 : Int32)).toNatClampNeg (vp_nar .boolean (gm_v D w 1))) (nI w) ∧ (vc_X6_isBroken_s88_2 fu (nI o) (nI f) (nI r) (ma_F D) (ma_R D) (ma_C D) x (upd m ((1 : Int32)).toNatClampNeg (vp_nar .boolean (gm_v D w 1))) (nI w) → vc_X6_isBroken_s88_1 fu (nI o) (nI f) (nI r) (ma_F D) (ma_R D) (ma_C D) x m (nI w)) := by
  obtain ⟨w1, w2, w3, w4, w5, w6⟩ := id hw
  have hc := h.2.2.1 1 (by omega)
  unfold cf_X6_isBroken_s88_1 vc_X6_isBroken_s88_1
  have p1 : (nI o ≤ (1 : Int32)) ↔ o ≤ 1 := nl_le (c := 1) (by omega) (by omega)
  have p2 : (nI w = (2 : Int32)) ↔ w = 2 := ms_2 (by omega)
  have p5 : (ma_C D ((1 : Int32)).toNatClampNeg = (1 : Int32)) ↔ D 2 1 = 1 := ms_1 (n := D 2 1) (by omega)
  by_cases a2 : w = 2
  · rw [if_pos (p2.mpr a2)]
    by_cases a1 : o ≤ 1
    · have e : gm_v D w 1 = 0 := by unfold gm_v; rw [if_neg]; have := hc.2.1 a1; omega
      rw [if_pos (p1.mpr a1), e]
      exact ⟨rfl, fun V => ⟨fun _ => ⟨fun _ => ⟨vp_k1, V⟩, fun q => absurd (p1.mpr a1) q⟩, fun q => absurd (p2.mpr a2) q⟩⟩
    · rw [if_neg (fun y => a1 (p1.mp y))]
      by_cases a3 : D 2 1 = 1
      · have e : gm_v D w 1 = 1 := by unfold gm_v; rw [if_pos ⟨a2, a3⟩]
        rw [if_pos (p5.mpr a3), e]
        exact ⟨rfl, fun V => ⟨fun _ => ⟨fun q => absurd (p1.mp q) a1, fun _ => ⟨fun _ => ⟨vp_k1, V⟩, fun q => absurd (p5.mpr a3) q⟩⟩, fun q => absurd (p2.mpr a2) q⟩⟩
      · have e : gm_v D w 1 = 0 := by unfold gm_v; rw [if_neg]; omega
        rw [if_neg (fun y => a3 (p5.mp y)), e]
        exact ⟨rfl, fun V => ⟨fun _ => ⟨fun q => absurd (p1.mp q) a1, fun _ => ⟨fun q => absurd (p5.mp q) a3, fun _ => ⟨vp_k1, V⟩⟩⟩, fun q => absurd (p2.mpr a2) q⟩⟩
  · have e : gm_v D w 1 = 0 := by unfold gm_v; rw [if_neg]; omega
    rw [if_neg (fun y => a2 (p2.mp y)), e]
    exact ⟨rfl, fun V => ⟨fun q => absurd (p2.mp q) a2, fun _ => ⟨vp_k1, V⟩⟩⟩
theorem gm_0 (hw : ab_W o f r) (h : ab_V o f r D) {w : Nat} (hw4 : w < 4) (x : Int32) (m : Nat → Int32) : cf_X6_isBroken_s88_0 fu (nI o) (nI f) (nI r) (ma_F D) (ma_R D) (ma_C D) x m (nI w) = cf_X6_isBroken_s88_1 fu (nI o) (nI f) (nI r) (ma_F D) (ma_R D) (ma_C D) x (upd m ((0 : Int32)).toNatClampNeg (vp_nar .boolean (gm_v D w 0))) (nI w) ∧ (vc_X6_isBroken_s88_1 fu (nI o) (nI f) (nI r) (ma_F D) (ma_R D) (ma_C D) x (upd m ((0 : Int32)).toNatClampNeg (vp_nar .boolean (gm_v D w 0))) (nI w) → vc_X6_isBroken_s88_0 fu (nI o) (nI f) (nI r) (ma_F D) (ma_R D) (ma_C D) x m (nI w)) := by
  obtain ⟨w1, w2, w3, w4, w5, w6⟩ := id hw
  have hc := h.2.2.1 0 (by omega)
  unfold cf_X6_isBroken_s88_0 vc_X6_isBroken_s88_0
  have p1 : (nI o ≤ (0 : Int32)) ↔ o ≤ 0 := nl_le (c := 0) (by omega) (by omega)
  have p2 : (nI w = (2 : Int32)) ↔ w = 2 := ms_2 (by omega)
  have p5 : (ma_C D ((0 : Int32)).toNatClampNeg = (1 : Int32)) ↔ D 2 0 = 1 := ms_1 (n := D 2 0) (by omega)
  by_cases a2 : w = 2
  · rw [if_pos (p2.mpr a2)]
    by_cases a1 : o ≤ 0
    · have e : gm_v D w 0 = 0 := by unfold gm_v; rw [if_neg]; have := hc.2.1 a1; omega
      rw [if_pos (p1.mpr a1), e]
      exact ⟨rfl, fun V => ⟨fun _ => ⟨fun _ => ⟨vp_k0, V⟩, fun q => absurd (p1.mpr a1) q⟩, fun q => absurd (p2.mpr a2) q⟩⟩
    · rw [if_neg (fun y => a1 (p1.mp y))]
      by_cases a3 : D 2 0 = 1
      · have e : gm_v D w 0 = 1 := by unfold gm_v; rw [if_pos ⟨a2, a3⟩]
        rw [if_pos (p5.mpr a3), e]
        exact ⟨rfl, fun V => ⟨fun _ => ⟨fun q => absurd (p1.mp q) a1, fun _ => ⟨fun _ => ⟨vp_k0, V⟩, fun q => absurd (p5.mpr a3) q⟩⟩, fun q => absurd (p2.mpr a2) q⟩⟩
      · have e : gm_v D w 0 = 0 := by unfold gm_v; rw [if_neg]; omega
        rw [if_neg (fun y => a3 (p5.mp y)), e]
        exact ⟨rfl, fun V => ⟨fun _ => ⟨fun q => absurd (p1.mp q) a1, fun _ => ⟨fun q => absurd (p5.mp q) a3, fun _ => ⟨vp_k0, V⟩⟩⟩, fun q => absurd (p2.mpr a2) q⟩⟩
  · have e : gm_v D w 0 = 0 := by unfold gm_v; rw [if_neg]; omega
    rw [if_neg (fun y => a2 (p2.mp y)), e]
    exact ⟨rfl, fun V => ⟨fun q => absurd (p2.mp q) a2, fun _ => ⟨vp_k0, V⟩⟩⟩
theorem gm_all (hw : ab_W o f r) (h : ab_V o f r D) {w : Nat} (hw4 : w < 4) (x : Int32) : cf_X6_isBroken_s88_0 fu (nI o) (nI f) (nI r) (ma_F D) (ma_R D) (ma_C D) x g (nI w) = cf_X6_isBroken_s88_4 fu (nI o) (nI f) (nI r) (ma_F D) (ma_R D) (ma_C D) x (mm_M (if w = 2 then nf_g D else 0) g) (nI w) ∧ (vc_X6_isBroken_s88_4 fu (nI o) (nI f) (nI r) (ma_F D) (ma_R D) (ma_C D) x (mm_M (if w = 2 then nf_g D else 0) g) (nI w) → vc_X6_isBroken_s88_0 fu (nI o) (nI f) (nI r) (ma_F D) (ma_R D) (ma_C D) x g (nI w)) := by
  obtain ⟨u0, v0⟩ := gm_0 (fu := fu) hw h hw4 x g
  obtain ⟨u1, v1⟩ := gm_1 (fu := fu) hw h hw4 x (upd g ((0 : Int32)).toNatClampNeg (vp_nar .boolean (gm_v D w 0)))
  obtain ⟨u2, v2⟩ := gm_2 (fu := fu) hw h hw4 x (upd (upd g ((0 : Int32)).toNatClampNeg (vp_nar .boolean (gm_v D w 0))) ((1 : Int32)).toNatClampNeg (vp_nar .boolean (gm_v D w 1)))
  obtain ⟨u3, v3⟩ := gm_3 (fu := fu) hw h hw4 x (upd (upd (upd g ((0 : Int32)).toNatClampNeg (vp_nar .boolean (gm_v D w 0))) ((1 : Int32)).toNatClampNeg (vp_nar .boolean (gm_v D w 1))) ((2 : Int32)).toNatClampNeg (vp_nar .boolean (gm_v D w 2)))
  have key : ∀ k, k < 4 → gm_v D w k = if (if w = 2 then nf_g D else 0).testBit k = true then 1 else 0 := by
    intro k hk
    unfold gm_v
    by_cases a : w = 2
    · rw [if_pos a]
      by_cases b : D 2 k = 1
      · rw [if_pos ⟨a, b⟩, if_pos ((nf_gb hk).mpr b)]
      · rw [if_neg (fun q => b q.2), if_neg (fun q => b ((nf_gb hk).mp q))]
    · rw [if_neg a, if_neg (fun q => a q.1), if_neg (by simp)]
  have e := mm_set g (if w = 2 then nf_g D else 0) _ _ _ _ (key 0 (by omega)) (key 1 (by omega)) (key 2 (by omega)) (key 3 (by omega))
  rw [u0, u1, u2, u3, ← e]
  exact ⟨rfl, fun V => v0 (v1 (v2 (v3 V)))⟩
theorem ms_isBroken (hw : ab_W o f r) (h : ab_V o f r D) (hfu : 18 ≤ fu) {w : Nat} (hw4 : w < 4) : ∃ g', cf_X6_isBroken fu (nI o) (nI f) (nI r) (ma_F D) (ma_R D) (ma_C D) (nI (D 4 2)) g (nI w) = (g', if sp_br D w = true then 1 else 0) ∧ vc_X6_isBroken fu (nI o) (nI f) (nI r) (ma_F D) (ma_R D) (ma_C D) (nI (D 4 2)) g (nI w) := by
  have hB := h.B hw
  obtain ⟨w1, w2, w3, w4, w5, w6⟩ := id hw
  have p0 : nI w = (0 : Int32) ↔ w = 0 := ms_0 (by omega)
  have p3 : nI w = (3 : Int32) ↔ w = 3 := nl_eq (c := 3) (by omega) (by omega)
  have p2 : nI w = (2 : Int32) ↔ w = 2 := ms_2 (by omega)
  have pv : nI (D 4 2) = (0 : Int32) ↔ D 4 2 = 0 := ms_0 (by have := hB.2.2.2.2.2; omega)
  have hov := hB.2.2.2.2.2
  obtain ⟨m1, m2⟩ := mr_all (g := g) hw h hfu
  have lneed : nf_need D < 16 := nf_cl_lt hB (nf_rt_lt hB)
  have s9 : w = 0 ∨ w = 3 → ∃ g', cf_X6_isBroken_s9 fu (nI o) (nI f) (nI r) (ma_F D) (ma_R D) (ma_C D) (nI (D 4 2)) g (nI w) = (g', if sp_br D w = true then 1 else 0) ∧ vc_X6_isBroken_s9 fu (nI o) (nI f) (nI r) (ma_F D) (ma_R D) (ma_C D) (nI (D 4 2)) g (nI w) := by
    intro w03
    unfold cf_X6_isBroken_s9 vc_X6_isBroken_s9
    by_cases z : D 4 2 = 0
    · rw [if_pos (pv.mpr z)]
      refine ⟨g, ?_, fun _ => trivial, fun q => absurd (pv.mpr z) q⟩
      have : sp_br D w = false := by unfold sp_br; rcases w03 with e | e <;> simp [e, z]
      rw [this]; rfl
    · rw [if_neg (fun q => z (pv.mp q)), m1, br_all hw h hw4]
      refine ⟨mm_M (nf_need D) g, ?_, fun q => absurd (pv.mp q) z, fun _ => ⟨m2, trivial⟩⟩
      have ho : D 4 2 = 1 := by omega
      have : (∃ k, k < o ∧ br_e D w (nf_need D) k) ↔ sp_br D w = true := by
        unfold sp_br br_e
        rcases w03 with e | e
        · subst e
          simp only [ho, if_true, decide_true, Bool.true_and, decide_eq_true_eq]
          rw [nz16 (nb_a16 lneed)]
          constructor
          · rintro ⟨k, hk, q | q⟩
            · exact ⟨k, by omega, by rw [Nat.testBit_and, q.2.1, (nf_wb hB (by omega)).mpr q.2.2]; rfl⟩
            · exact absurd rfl q.1
          · rintro ⟨k, hk, q⟩
            rw [Nat.testBit_and, Bool.and_eq_true] at q
            exact ⟨k, nf_need_o hw h hk q.1, Or.inl ⟨trivial, q.1, (nf_wb hB hk).mp q.2⟩⟩
        · subst e
          simp only [ho, decide_true, Bool.true_and, decide_eq_true_eq, show ¬ (3 = 0) by omega, show ¬ (3 = 1) by omega, show ¬ (3 = 2) by omega, if_false]
          rw [nz16 (nb_a16 nf_b_lt)]
          constructor
          · rintro ⟨k, hk, q | q⟩
            · exact q.1.elim
            · exact ⟨k, by omega, by rw [Nat.testBit_and, nf_15 _ lneed k (by omega), q.2.1, (nf_bb (by omega)).mpr q.2.2]; rfl⟩
          · rintro ⟨k, hk, q⟩
            rw [Nat.testBit_and, Bool.and_eq_true, nf_15 _ lneed k hk, nf_bb hk] at q
            refine ⟨k, ?_, Or.inr ⟨by omega, by simpa using q.2, q.1⟩⟩
            apply Classical.byContradiction
            intro z2
            have := (h.2.2.1 k hk).2.1 (by omega)
            omega
      by_cases c : sp_br D w = true
      · rw [if_pos (this.mpr c), if_pos c]
      · rw [if_neg (fun q => c (this.mp q)), if_neg c]
  unfold cf_X6_isBroken vc_X6_isBroken
  by_cases e0 : w = 0
  · obtain ⟨g', a1, a2⟩ := s9 (Or.inl e0)
    rw [if_pos (p0.mpr e0)]
    exact ⟨g', a1, fun _ => a2, fun q => absurd (p0.mpr e0) q⟩
  rw [if_neg (fun q => e0 (p0.mp q))]
  by_cases e3 : w = 3
  · obtain ⟨g', a1, a2⟩ := s9 (Or.inr e3)
    rw [if_pos (p3.mpr e3)]
    exact ⟨g', a1, fun q => absurd (p0.mp q) e0, fun _ => ⟨fun _ => a2, fun q => absurd (p3.mpr e3) q⟩⟩
  rw [if_neg (fun q => e3 (p3.mp q))]
  obtain ⟨q1, q2⟩ := gm_all (fu := fu) (g := g) hw h hw4 (nI (D 4 2))
  rw [q1]
  have ot : ∀ C, (∃ k, k < o ∧ (D 2 k = 2 ∧ (bq_f D C (2 * k) ∨ bq_f D C (2 * k + 1)))) ↔ ∃ t, t < 4 ∧ ((nf_wi D (nf_b D)).testBit t = true ∧ C.testBit t = false) := by
    intro C
    unfold nf_wi
    constructor
    · rintro ⟨k, hk, hb, q⟩
      have key : ∀ j, j < 8 → j / 2 = k → bq_f D C j → ∃ t, t < 4 ∧ ((nf_set D (nf_b D) &&& nf_w D).testBit t = true ∧ C.testBit t = false) := by
        intro j hj hjk hf
        have := hB.1 j hj
        have h0 := hf.1
        refine ⟨D 0 j - 1, by omega, ?_, hf.2.2⟩
        rw [Nat.testBit_and, (nf_setb _ _).mpr ⟨j, hj, (nf_bb (by omega)).mpr (by rw [hjk]; exact hb), by omega⟩, (nf_wb hB (by omega)).mpr hf.2.1]; rfl
      rcases q with q | q
      · exact key (2 * k) (by omega) (by omega) q
      · exact key (2 * k + 1) (by omega) (by omega) q
    · rintro ⟨t, ht, q, c⟩
      rw [Nat.testBit_and, Bool.and_eq_true, nf_setb, nf_wb hB ht] at q
      obtain ⟨⟨j, hj, b1, b2⟩, b3⟩ := q
      rw [nf_bb (by omega)] at b1
      refine ⟨j / 2, ?_, b1, ?_⟩
      · apply Classical.byContradiction
        intro z2
        have := (h.1 j hj).2 (Or.inl (by omega))
        omega
      · have hf : bq_f D C j := ⟨by omega, by rw [b2]; exact b3, by rw [b2]; exact c⟩
        rcases (show j = 2 * (j / 2) ∨ j = 2 * (j / 2) + 1 by omega) with e | e
        · left; rw [← e]; exact hf
        · right; rw [← e]; exact hf
  have lwi : nf_wi D (nf_b D) < 16 := nb_a16 (nf_set_lt hB _)
  have lwg : nf_wg D < 16 := nf_cl_lt hB (nb_a16 (nf_set_lt hB _))
  have bo : ∀ (C : Nat), ((∃ t, t < 4 ∧ ((nf_wi D (nf_b D)).testBit t = true ∧ C.testBit t = false)) ↔ sp_br D w = true) → vc_X6_isBroken_s88_4 fu (nI o) (nI f) (nI r) (ma_F D) (ma_R D) (ma_C D) (nI (D 4 2)) (mm_M (if w = 2 then nf_g D else 0) g) (nI w) → cf_X6_isBroken_s88_4 fu (nI o) (nI f) (nI r) (ma_F D) (ma_R D) (ma_C D) (nI (D 4 2)) (mm_M (if w = 2 then nf_g D else 0) g) (nI w) = (mm_M C g, if (∃ k, k < o ∧ (D 2 k = 2 ∧ (bq_f D C (2 * k) ∨ bq_f D C (2 * k + 1)))) then (1 : Int32) else 0) → ∃ g', cf_X6_isBroken_s88_4 fu (nI o) (nI f) (nI r) (ma_F D) (ma_R D) (ma_C D) (nI (D 4 2)) (mm_M (if w = 2 then nf_g D else 0) g) (nI w) = (g', if sp_br D w = true then 1 else 0) ∧ ((nI w = 0 → vc_X6_isBroken_s9 fu (nI o) (nI f) (nI r) (ma_F D) (ma_R D) (ma_C D) (nI (D 4 2)) g (nI w)) ∧ (¬ nI w = 0 → ((nI w = (3 : Int32) → vc_X6_isBroken_s9 fu (nI o) (nI f) (nI r) (ma_F D) (ma_R D) (ma_C D) (nI (D 4 2)) g (nI w)) ∧ (¬ nI w = (3 : Int32) → vc_X6_isBroken_s88_0 fu (nI o) (nI f) (nI r) (ma_F D) (ma_R D) (ma_C D) (nI (D 4 2)) g (nI w))))) := by
    intro C hC hV he
    refine ⟨mm_M C g, ?_, fun q => absurd (p0.mp q) e0, fun _ => ⟨fun q => absurd (p3.mp q) e3, fun _ => q2 hV⟩⟩
    rw [he]
    have := (ot C).trans hC
    by_cases c : sp_br D w = true
    · rw [if_pos (this.mpr c), if_pos c]
    · rw [if_neg (fun q => c (this.mp q)), if_neg c]
  by_cases e2 : w = 2
  · have sm := mm_s (g := g) (fl := true) (x1 := 1) hw h ⟨fun q => absurd q (by decide +kernel), fun q => by cases q⟩ (nf_tw hB) (nf_g_lt (D := D)) hfu
    have al := bg_all (fu := fu) (g := g) hw h (C := nf_cl D (nf_g D) (nf_w D)) (nI (D 4 2))
    refine bo (nf_cl D (nf_g D) (nf_w D)) ?_ ?_ ?_
    · unfold sp_br
      rw [if_neg e0, if_neg (show w ≠ 1 by omega), if_pos e2, decide_eq_true_eq, nz16 (nb_a16 lwi)]
      have ww : ∀ t, t < 4 → (nf_wi D (nf_b D)).testBit t = true → D 2 t = 0 := by
        intro t ht q
        unfold nf_wi at q
        rw [Nat.testBit_and, Bool.and_eq_true, nf_wb hB ht] at q
        exact q.2
      constructor
      · rintro ⟨t, ht, q, c⟩
        exact ⟨t, ht, by rw [Nat.testBit_and, q, nf_15 _ lwg t ht, ← nf_weak hB ht (ww t ht q), c]; rfl⟩
      · rintro ⟨t, ht, q⟩
        rw [Nat.testBit_and, Bool.and_eq_true, nf_15 _ lwg t ht] at q
        exact ⟨t, ht, q.1, by rw [nf_weak hB ht (ww t ht q.1)]; simpa using q.2⟩
    · unfold vc_X6_isBroken_s88_4
      rw [if_pos e2, sm.1]
      exact ⟨fun _ => ⟨sm.2, al.2⟩, fun q => absurd (p2.mpr e2) q⟩
    · unfold cf_X6_isBroken_s88_4
      rw [if_pos (p2.mpr e2), if_pos e2, sm.1]
      exact al.1
  · have al := bg_all (fu := fu) (g := g) hw h (C := 0) (nI (D 4 2))
    refine bo 0 ?_ ?_ ?_
    · unfold sp_br
      rw [if_neg e0, if_pos (show w = 1 by omega), decide_eq_true_eq, nz16 lwi]
      exact ⟨fun ⟨t, ht, q⟩ => ⟨t, ht, q.1⟩, fun ⟨t, ht, q⟩ => ⟨t, ht, q, by simp⟩⟩
    · unfold vc_X6_isBroken_s88_4
      rw [if_neg e2]
      exact ⟨fun q => absurd (p2.mp q) e2, fun _ => al.2⟩
    · unfold cf_X6_isBroken_s88_4
      rw [if_neg (fun q => e2 (p2.mp q)), if_neg e2]
      exact al.1
end BR
/-! the search, as numbers: how many STATES, which, where each came from and by which act, and how it stands (0 goes on, 1 found, 2 too many) -/
abbrev bf_S : Type := Nat × (Nat → ab_D) × (Nat → Nat) × (Nat → Nat) × Nat
abbrev bf_n (σ : bf_S) : Nat := σ.1
abbrev bf_X (σ : bf_S) : Nat → ab_D := σ.2.1
abbrev bf_o (σ : bf_S) : Nat → Nat := σ.2.2.1
abbrev bf_b (σ : bf_S) : Nat → Nat := σ.2.2.2.1
abbrev bf_c (σ : bf_S) : Nat := σ.2.2.2.2
def bf_mem (n : Nat) (X : Nat → ab_D) (D : ab_D) : Bool := (List.range n).any (fun i => decide (ab_nN (X i) = ab_nN D))
theorem bf_mem_iff {n : Nat} {X : Nat → ab_D} {D : ab_D} : bf_mem n X D = true ↔ ∃ i, i < n ∧ ab_nN (X i) = ab_nN D := by
  simp [bf_mem, List.any_eq_true]
/-- the STATE D, come to from s by k -/
def bf_add (br : ab_D → Bool) (σ : bf_S) (s k : Nat) (D : ab_D) : bf_S :=
  if bf_mem (bf_n σ) (bf_X σ) D = true then σ
  else if bf_n σ = 20000 then (bf_n σ, bf_X σ, bf_o σ, bf_b σ, 2)
  else (bf_n σ + 1, va_up (bf_X σ) (bf_n σ) D, va_up (bf_o σ) (bf_n σ) s, va_up (bf_b σ) (bf_n σ) k, if br D = true then 1 else 0)
def bf_vis (f r b : Nat) (br : ab_D → Bool) (σ : bf_S) (s k : Nat) : bf_S :=
  if bf_c σ = 0 then (if sp_can f r (bf_X σ s) k = true then bf_add br σ s k (sp_act f r b (bf_X σ s) k) else σ) else σ
/-- the first k acts from s -/
def bf_in (f r b : Nat) (br : ab_D → Bool) (σ : bf_S) (s : Nat) : Nat → bf_S
  | 0 => σ
  | k + 1 => bf_vis f r b br (bf_in f r b br σ s k) s k
/-- from the first s STATES -/
def bf_out (f r b : Nat) (br : ab_D → Bool) (σ : bf_S) : Nat → bf_S
  | 0 => σ
  | s + 1 => if bf_c (bf_out f r b br σ s) = 0 ∧ s < bf_n (bf_out f r b br σ s) then bf_in f r b br (bf_out f r b br σ s) s 50 else bf_out f r b br σ s
def bf_0 (D : ab_D) : bf_S := (1, fun _ => D, fun _ => 0, fun _ => 0, 0)
def bf_fin (f r b : Nat) (br : ab_D → Bool) (D : ab_D) : bf_S := bf_out f r b br (bf_0 D) 20000
/-- the ROW to the STATE i -/
def bf_row (og by' : Nat → Nat) : Nat → Nat → List Nat
  | 0, _ => []
  | n + 1, i => if i = 0 then [] else bf_row og by' n (og i) ++ [by' i]
/-- what always holds of it -/
def bf_I (o f r : Nat) (σ : bf_S) : Prop := 1 ≤ bf_n σ ∧ bf_n σ ≤ 20000 ∧ bf_c σ ≤ 2 ∧ (∀ i, i < bf_n σ → ab_V o f r (bf_X σ i)) ∧ (∀ i, 0 < i → i < bf_n σ → bf_o σ i < i ∧ bf_b σ i < 50)
theorem bf_I.add {o f r s k : Nat} {br : ab_D → Bool} {σ : bf_S} {D : ab_D} (h : bf_I o f r σ) (hD : ab_V o f r D) (hs : s < bf_n σ) (hk : k < 50) : bf_I o f r (bf_add br σ s k D) := by
  obtain ⟨h1, h2, h3, h4, h5⟩ := id h
  unfold bf_add
  split
  · exact h
  split
  · exact ⟨h1, h2, Nat.le_refl 2, h4, h5⟩
  · rename_i q
    have e1 : bf_n (bf_n σ + 1, va_up (bf_X σ) (bf_n σ) D, va_up (bf_o σ) (bf_n σ) s, va_up (bf_b σ) (bf_n σ) k, if br D = true then 1 else 0) = bf_n σ + 1 := rfl
    refine ⟨by rw [e1]; omega, by rw [e1]; omega, ?_, fun i hi => ?_, fun i h0 hi => ?_⟩
    · show (if br D = true then 1 else 0) ≤ 2
      split <;> omega
    · rw [e1] at hi
      show ab_V o f r (va_up (bf_X σ) (bf_n σ) D i)
      unfold va_up
      split
      · exact hD
      · exact h4 i (by omega)
    · rw [e1] at hi
      show va_up (bf_o σ) (bf_n σ) s i < i ∧ va_up (bf_b σ) (bf_n σ) k i < 50
      unfold va_up
      split
      · omega
      · exact h5 i h0 (by omega)
theorem bf_I.vis {o f r b s k : Nat} {br : ab_D → Bool} {σ : bf_S} (hw : ab_W o f r) (h : bf_I o f r σ) (hs : s < bf_n σ) (hk : k < 50) : bf_I o f r (bf_vis f r b br σ s k) := by
  unfold bf_vis
  split
  · split
    · rename_i q
      exact h.add (sp_act_V hw (h.2.2.2.1 s hs) hk q) hs hk
    · exact h
  · exact h
theorem bf_add_n {s k : Nat} {br : ab_D → Bool} {σ : bf_S} {D : ab_D} : bf_n σ ≤ bf_n (bf_add br σ s k D) := by
  unfold bf_add
  split
  · exact Nat.le_refl _
  split
  · exact Nat.le_refl _
  · exact Nat.le_succ _
theorem bf_vis_n {f r b s k : Nat} {br : ab_D → Bool} {σ : bf_S} : bf_n σ ≤ bf_n (bf_vis f r b br σ s k) := by
  unfold bf_vis
  split
  · split
    · exact bf_add_n
    · exact Nat.le_refl _
  · exact Nat.le_refl _
theorem bf_I.in {o f r b s : Nat} {br : ab_D → Bool} {σ : bf_S} (hw : ab_W o f r) (h : bf_I o f r σ) (hs : s < bf_n σ) : ∀ k, k ≤ 50 → bf_I o f r (bf_in f r b br σ s k) ∧ bf_n σ ≤ bf_n (bf_in f r b br σ s k)
  | 0, _ => ⟨h, Nat.le_refl _⟩
  | k + 1, hk => by
    obtain ⟨h1, h2⟩ := bf_I.in (b := b) (br := br) hw h hs k (by omega)
    exact ⟨h1.vis hw (by omega) (by omega), Nat.le_trans h2 bf_vis_n⟩
theorem bf_I.out {o f r b : Nat} {br : ab_D → Bool} {σ : bf_S} (hw : ab_W o f r) (h : bf_I o f r σ) : ∀ s, bf_I o f r (bf_out f r b br σ s)
  | 0 => h
  | s + 1 => by
    have h1 := bf_I.out (b := b) (br := br) hw h s
    unfold bf_out
    split
    · rename_i q
      exact (h1.in hw q.2 50 (Nat.le_refl _)).1
    · exact h1
/-- once it has ended nothing changes -/
theorem bf_vis_end {f r b s k : Nat} {br : ab_D → Bool} {σ : bf_S} (h : bf_c σ ≠ 0) : bf_vis f r b br σ s k = σ := by
  unfold bf_vis; rw [if_neg h]
theorem bf_in_end {f r b s : Nat} {br : ab_D → Bool} {σ : bf_S} {k : Nat} (h : bf_c (bf_in f r b br σ s k) ≠ 0) : ∀ j, bf_in f r b br σ s (k + j) = bf_in f r b br σ s k
  | 0 => rfl
  | j + 1 => by
    have h1 := bf_in_end h j
    show bf_vis f r b br (bf_in f r b br σ s (k + j)) s (k + j) = _
    rw [h1, bf_vis_end h]
theorem bf_out_end {f r b : Nat} {br : ab_D → Bool} {σ : bf_S} {s : Nat} (h : bf_c (bf_out f r b br σ s) ≠ 0 ∨ bf_n (bf_out f r b br σ s) ≤ s) : ∀ j, bf_out f r b br σ (s + j) = bf_out f r b br σ s
  | 0 => rfl
  | j + 1 => by
    have h1 := bf_out_end h j
    show (if bf_c (bf_out f r b br σ (s + j)) = 0 ∧ (s + j) < bf_n (bf_out f r b br σ (s + j)) then _ else bf_out f r b br σ (s + j)) = _
    rw [h1, if_neg]
    intro q
    rcases h with h | h
    · exact h q.1
    · omega

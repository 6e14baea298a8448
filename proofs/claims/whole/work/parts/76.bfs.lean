/-! more of the search as numbers -/
def bf_J (f r : Nat) (σ : bf_S) : Prop := (∀ i, i < bf_n σ → ab_N (bf_X σ i)) ∧ (∀ i, 0 < i → i < bf_n σ → rk f r (bf_X σ i) < rk f r (bf_X σ (bf_o σ i)))
section BX
variable {o f r b s k : Nat} {br : ab_D → Bool} {σ : bf_S} {D : ab_D}
theorem bf_addX {i : Nat} (hi : i < bf_n σ) : bf_X (bf_add br σ s k D) i = bf_X σ i := by
  unfold bf_add
  split
  · rfl
  split
  · rfl
  · exact va_up_ne _ _ (by omega)
theorem bf_visX {i : Nat} (hi : i < bf_n σ) : bf_X (bf_vis f r b br σ s k) i = bf_X σ i := by
  unfold bf_vis
  split
  · split
    · exact bf_addX hi
    · rfl
  · rfl
theorem bf_in_n : ∀ k, bf_n σ ≤ bf_n (bf_in f r b br σ s k)
  | 0 => Nat.le_refl _
  | k + 1 => Nat.le_trans (bf_in_n k) bf_vis_n
theorem bf_inX {i : Nat} (hi : i < bf_n σ) : ∀ k, bf_X (bf_in f r b br σ s k) i = bf_X σ i
  | 0 => rfl
  | k + 1 => by
    show bf_X (bf_vis f r b br (bf_in f r b br σ s k) s k) i = _
    rw [bf_visX (Nat.lt_of_lt_of_le hi (bf_in_n k)), bf_inX hi k]
theorem bf_J.add (hI : bf_I o f r σ) (h : bf_J f r σ) (hD : ab_N D) (hs : s < bf_n σ) (hr : rk f r D < rk f r (bf_X σ s)) : bf_J f r (bf_add br σ s k D) := by
  unfold bf_add
  split
  · exact h
  split
  · exact h
  · refine ⟨fun i hi => ?_, fun i h0 hi => ?_⟩
    · have hi' : i < bf_n σ + 1 := hi
      show ab_N (va_up (bf_X σ) (bf_n σ) D i)
      by_cases q : i = bf_n σ
      · rw [q, va_up_self]; exact hD
      · rw [va_up_ne _ _ q]; exact h.1 i (by omega)
    · have hi' : i < bf_n σ + 1 := hi
      show rk f r (va_up (bf_X σ) (bf_n σ) D i) < rk f r (va_up (bf_X σ) (bf_n σ) D (va_up (bf_o σ) (bf_n σ) s i))
      by_cases q : i = bf_n σ
      · rw [q, va_up_self, va_up_self, va_up_ne _ _ (by omega)]; exact hr
      · have := (hI.2.2.2.2 i h0 (by omega)).1
        rw [va_up_ne _ _ q, va_up_ne _ _ q, va_up_ne _ _ (by omega)]; exact h.2 i h0 (by omega)
theorem bf_J.vis (hw : ab_W o f r) (hI : bf_I o f r σ) (h : bf_J f r σ) (hs : s < bf_n σ) (hk : k < 50) : bf_J f r (bf_vis f r b br σ s k) := by
  unfold bf_vis
  split
  · split
    · rename_i q
      exact bf_J.add hI h ((h.1 s hs).act hw (hI.2.2.2.1 s hs) hk q) hs (rk_act hw (hI.2.2.2.1 s hs) hk q)
    · exact h
  · exact h
theorem bf_J.in (hw : ab_W o f r) (hI : bf_I o f r σ) (h : bf_J f r σ) (hs : s < bf_n σ) : ∀ k, k ≤ 50 → bf_J f r (bf_in f r b br σ s k)
  | 0, _ => h
  | k + 1, hk => by
    have hI' := (hI.in (b := b) (br := br) hw hs k (by omega)).1
    exact bf_J.vis hw hI' (bf_J.in hw hI h hs k (by omega)) (Nat.lt_of_lt_of_le hs (bf_in_n k)) (by omega)
theorem bf_J.out (hw : ab_W o f r) (hI : bf_I o f r σ) (h : bf_J f r σ) : ∀ s, bf_J f r (bf_out f r b br σ s)
  | 0 => h
  | s + 1 => by
    have h1 := bf_J.out hw hI h s
    have hI1 := hI.out (b := b) (br := br) hw s
    unfold bf_out
    split
    · rename_i q
      exact bf_J.in hw hI1 h1 q.2 50 (Nat.le_refl _)
    · exact h1
/-- acts that are not tried do nothing -/
theorem bf_in_last (hs : s < bf_n σ) : bf_in f r b br σ s 50 = bf_in f r b br σ s (sp_last (bf_X σ s) + 1) := by
  have hl := sp_last_lt (D := bf_X σ s)
  have key : ∀ j, sp_last (bf_X σ s) + 1 + j ≤ 50 → bf_in f r b br σ s (sp_last (bf_X σ s) + 1 + j) = bf_in f r b br σ s (sp_last (bf_X σ s) + 1) := by
    intro j
    induction j with
    | zero => intro _; rfl
    | succ j ih =>
      intro hj
      have e := ih (by omega)
      show bf_vis f r b br (bf_in f r b br σ s (sp_last (bf_X σ s) + 1 + j)) s (sp_last (bf_X σ s) + 1 + j) = _
      rw [← e]
      generalize hτ : bf_in f r b br σ s (sp_last (bf_X σ s) + 1 + j) = τ
      have hx : bf_X τ s = bf_X σ s := by rw [← hτ]; exact bf_inX hs _
      unfold bf_vis
      split
      · rw [hx, sp_last_no (by omega) (by omega), if_neg (by decide)]
      · rfl
  have := key (49 - sp_last (bf_X σ s)) (by omega)
  rwa [show sp_last (bf_X σ s) + 1 + (49 - sp_last (bf_X σ s)) = 50 by omega] at this
end BX
/-! the ROW -/
def bf_r (og by' : Nat → Nat) (i : Nat) : List Nat := bf_row og by' i i
theorem bf_row_st {og by' : Nat → Nat} : ∀ (n i : Nat), i ≤ n → (∀ j, 0 < j → j ≤ i → og j < j) → bf_row og by' n i = bf_r og by' i
  | 0, i, hi, _ => by
    have : i = 0 := by omega
    subst this; rfl
  | n + 1, i, hi, h => by
    cases i with
    | zero => rfl
    | succ i =>
      have ho := h (i + 1) (by omega) (Nat.le_refl _)
      unfold bf_r
      show (if i + 1 = 0 then [] else bf_row og by' n (og (i + 1)) ++ [by' (i + 1)]) = (if i + 1 = 0 then [] else bf_row og by' i (og (i + 1)) ++ [by' (i + 1)])
      rw [if_neg (by omega), if_neg (by omega), bf_row_st n _ (by omega) (fun j h0 hj => h j h0 (by omega)), bf_row_st i _ (by omega) (fun j h0 hj => h j h0 (by omega))]
theorem bf_r0 {og by' : Nat → Nat} : bf_r og by' 0 = [] := rfl
theorem bf_rs {og by' : Nat → Nat} {i : Nat} (h0 : 0 < i) (h : ∀ j, 0 < j → j ≤ i → og j < j) : bf_r og by' i = bf_r og by' (og i) ++ [by' i] := by
  obtain ⟨m, rfl⟩ : ∃ m, i = m + 1 := ⟨i - 1, by omega⟩
  have ho := h (m + 1) (by omega) (Nat.le_refl _)
  show (if m + 1 = 0 then [] else bf_row og by' m (og (m + 1)) ++ [by' (m + 1)]) = _
  rw [if_neg (by omega), bf_row_st m _ (by omega) (fun j h0 hj => h j h0 (by omega))]
/-- how long it is -/
theorem bf_len {o f r : Nat} {σ : bf_S} (hI : bf_I o f r σ) (h : bf_J f r σ) : ∀ (N i : Nat), i < N → i < bf_n σ → (bf_r (bf_o σ) (bf_b σ) i).length + rk f r (bf_X σ i) ≤ rk f r (bf_X σ 0)
  | 0, _, hi, _ => absurd hi (Nat.not_lt_zero _)
  | N + 1, i, hi, hn => by
    by_cases q : i = 0
    · rw [q, bf_r0]; simp
    · have ho := fun j h0 (hj : j ≤ i) => (hI.2.2.2.2 j h0 (by omega)).1
      have ho' := ho i (by omega) (Nat.le_refl _)
      rw [bf_rs (by omega) ho, List.length_append]
      have := bf_len hI h N (bf_o σ i) (by omega) (by omega)
      have := h.2 i (by omega) hn
      show _ + 1 + _ ≤ _
      omega
theorem bf_len40 {o f r : Nat} {σ : bf_S} (hw : ab_W o f r) (hI : bf_I o f r σ) (h : bf_J f r σ) {i : Nat} (hn : i < bf_n σ) : (bf_r (bf_o σ) (bf_b σ) i).length ≤ 40 := by
  have := bf_len hI h (i + 1) i (by omega) hn
  have := rk_40 (r := r) (f := f) hw (hI.2.2.2.1 0 (by omega))
  omega
/-- the beginning -/
theorem bf_0I {o f r : Nat} {D : ab_D} (h : ab_V o f r D) : bf_I o f r (bf_0 D) := ⟨Nat.le_refl 1, (by decide : (1 : Nat) ≤ 20000), Nat.zero_le 2, fun _ _ => h, fun i h0 hi => absurd (show i < 1 from hi) (by omega)⟩
theorem bf_0J {f r : Nat} {D : ab_D} (h : ab_N D) : bf_J f r (bf_0 D) := ⟨fun _ _ => h, fun i h0 hi => absurd (show i < 1 from hi) (by omega)⟩

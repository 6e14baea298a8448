/-! a table with open slots: sl t is 0 (free) or the number of a key and one; a key is sought from its own place on, round -/
theorem pg_hole : ∀ (n S : Nat) (g : Nat → Nat), (∀ t, t < S → g t < n) → (∀ t u, t < S → u < S → g t = g u → t = u) → S ≤ n
  | 0, S, g, h1, _ => by
    rcases Nat.eq_zero_or_pos S with h | h
    · omega
    · exact absurd (h1 0 h) (by omega)
  | n + 1, S, g, h1, h2 => by
    by_cases hx : ∃ t, t < S ∧ g t = n
    · obtain ⟨t0, ht0, hg0⟩ := hx
      have h3 : S - 1 ≤ n := by
        refine pg_hole n (S - 1) (fun t => if t < t0 then g t else g (t + 1)) (fun t ht => ?_) (fun t u ht hu he => ?_)
        · try dsimp only
          split
          · rename_i q
            have a := h1 t (by omega)
            have b : g t ≠ n := fun e => by have := h2 t t0 (by omega) ht0 (by rw [e, hg0]); omega
            omega
          · rename_i q
            have a := h1 (t + 1) (by omega)
            have b : g (t + 1) ≠ n := fun e => by have := h2 (t + 1) t0 (by omega) ht0 (by rw [e, hg0]); omega
            omega
        · try dsimp only at he
          split at he <;> split at he
          · exact h2 t u (by omega) (by omega) he
          · have := h2 t (u + 1) (by omega) (by omega) he; omega
          · have := h2 (t + 1) u (by omega) (by omega) he; omega
          · have := h2 (t + 1) (u + 1) (by omega) (by omega) he; omega
      omega
    · have h3 : S ≤ n := pg_hole n S g (fun t ht => by
        have a := h1 t ht
        have b : g t ≠ n := fun e => hx ⟨t, ht, e⟩
        omega) h2
      omega
def ht_ok (S : Nat) (h : Int64 → Nat) (sl : Nat → Nat) (key : Nat → Int64) (n : Nat) : Prop :=
  (∀ t, t < S → sl t ≤ n) ∧ (∀ i, i < n → ∃ d, d < S ∧ sl ((h (key i) + d) % S) = i + 1 ∧ ∀ e, e < d → sl ((h (key i) + e) % S) ≠ 0) ∧ (∀ t u, t < S → u < S → sl t = sl u → sl t ≠ 0 → t = u)
theorem ht_0 (S : Nat) (h : Int64 → Nat) (key : Nat → Int64) : ht_ok S h (fun _ => 0) key 0 :=
  ⟨fun _ _ => Nat.le_refl 0, fun i hi => absurd hi (Nat.not_lt_zero i), fun t u _ _ _ q => absurd rfl q⟩
theorem ht_free {S n : Nat} {h : Int64 → Nat} {sl : Nat → Nat} {key : Nat → Int64} (H : ht_ok S h sl key n) (hn : n < S) (p : Nat) : ∃ d, d < S ∧ sl ((p + d) % S) = 0 := by
  obtain ⟨h1, -, h3⟩ := H
  have hx : ∃ t, t < S ∧ sl t = 0 := by
    apply Classical.byContradiction
    intro q
    have q' : ∀ t, t < S → sl t ≠ 0 := fun t ht e => q ⟨t, ht, e⟩
    have := pg_hole n S (fun t => sl t - 1) (fun t ht => by have := h1 t ht; have := q' t ht; omega) (fun t u ht hu e => h3 t u ht hu (by have := q' t ht; have := q' u hu; omega) (q' t ht))
    omega
  obtain ⟨t, ht, e⟩ := hx
  refine ⟨(t + (S - p % S)) % S, Nat.mod_lt _ (by omega), ?_⟩
  have : (p + (t + (S - p % S)) % S) % S = t := by
    have hp := Nat.mod_lt p (show 0 < S by omega)
    rw [Nat.add_mod_mod]
    have h5 : p + (t + (S - p % S)) = t + S * (p / S + 1) := by
      have := Nat.div_add_mod p S
      rw [Nat.mul_add, Nat.mul_one]
      omega
    rw [h5, Nat.add_mul_mod_self_left, Nat.mod_eq_of_lt ht]
  rw [this]; exact e
/-- the seeking stops at d: free, or the key -/
def ht_stop (S : Nat) (h : Int64 → Nat) (sl : Nat → Nat) (key : Nat → Int64) (v : Int64) (d : Nat) : Prop := sl ((h v + d) % S) = 0 ∨ key (sl ((h v + d) % S) - 1) = v
theorem ht_hit {S n d : Nat} {h : Int64 → Nat} {sl : Nat → Nat} {key : Nat → Int64} {v : Int64} (H : ht_ok S h sl key n) (hS : 0 < S) (hs : ht_stop S h sl key v d) (h0 : sl ((h v + d) % S) ≠ 0) : ∃ i, i < n ∧ key i = v := by
  rcases hs with q | q
  · exact absurd q h0
  · have := H.1 _ (Nat.mod_lt (h v + d) hS)
    exact ⟨_, by omega, q⟩
theorem ht_miss {S n d : Nat} {h : Int64 → Nat} {sl : Nat → Nat} {key : Nat → Int64} {v : Int64} (H : ht_ok S h sl key n) (hb : ∀ e, e < d → ¬ ht_stop S h sl key v e) (h0 : sl ((h v + d) % S) = 0) : ∀ i, i < n → key i ≠ v := by
  intro i hi hk
  obtain ⟨d2, e1, e2, e3⟩ := H.2.1 i hi
  rw [hk] at e2 e3
  rcases Nat.lt_or_ge d2 d with q | q
  · exact hb d2 q (Or.inr (by rw [e2]; exact hk))
  · rcases Nat.lt_or_ge d d2 with q2 | q2
    · exact e3 d q2 h0
    · rw [show d2 = d by omega, h0] at e2
      omega
theorem ht_add {S n d : Nat} {h : Int64 → Nat} {sl : Nat → Nat} {key key' : Nat → Int64} {v : Int64} (H : ht_ok S h sl key n) (hd : d < S) (hb : ∀ e, e < d → ¬ ht_stop S h sl key v e) (h0 : sl ((h v + d) % S) = 0)
    (hk : ∀ i, i < n → key' i = key i) (hv : key' n = v) : ht_ok S h (va_up sl ((h v + d) % S) (n + 1)) key' (n + 1) := by
  obtain ⟨h1, h2, h3⟩ := H
  refine ⟨fun t ht => ?_, fun i hi => ?_, fun t u ht hu he hne => ?_⟩
  · unfold va_up
    split
    · omega
    · have := h1 t ht; omega
  · rcases Nat.lt_or_ge i n with q | q
    · obtain ⟨d2, e1, e2, e3⟩ := h2 i q
      rw [hk i q]
      refine ⟨d2, e1, ?_, fun e he => ?_⟩
      · rw [va_up_ne _ _ (fun x => by rw [x, h0] at e2; omega)]; exact e2
      · rw [va_up_ne _ _ (fun x => by have := e3 e he; rw [x] at this; exact this h0)]; exact e3 e he
    · rw [show i = n by omega, hv]
      refine ⟨d, hd, va_up_self _ _ _, fun e he => ?_⟩
      unfold va_up
      split
      · omega
      · intro x
        exact hb e he (Or.inl x)
  · unfold va_up at he hne
    split at he
    · rename_i q1
      split at he
      · rename_i q2; omega
      · have := h1 u hu; omega
    · rename_i q1
      rw [if_neg q1] at hne
      split at he
      · have := h1 t ht; omega
      · exact h3 t u ht hu he hne

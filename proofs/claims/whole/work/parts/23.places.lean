/-! the bits of a long, by places: the digits of a list with powers of two as radices -/
theorem hr_split {l : List (Nat × Nat)} {i : Nat} {x : Nat × Nat} (h : l[i]? = some x) : l = l.take i ++ ([x] ++ l.drop (i + 1)) := by
  obtain ⟨hi, hx⟩ := List.getElem?_eq_some_iff.mp h
  rw [← hx]
  simp
theorem hr_ok.take {l : List (Nat × Nat)} (h : hr_ok l) (i : Nat) : hr_ok (l.take i) := fun q hq => h q (List.mem_of_mem_take hq)
theorem hr_ok.one {l : List (Nat × Nat)} {i : Nat} {x : Nat × Nat} (h : hr_ok l) (hx : l[i]? = some x) : hr_ok [x] := fun q hq => by
  rw [List.mem_singleton.mp hq]; exact h x (List.mem_of_getElem? hx)
theorem hr_at {l : List (Nat × Nat)} {i b d : Nat} (hok : hr_ok l) (h : l[i]? = some (b, d)) : hr_v l / hr_p (l.take i) % b = d := by
  have h1 := hr_get (a := l.take i) (b := [(b, d)]) (c := l.drop (i + 1)) (hok.take i) (hok.one h)
  rw [← hr_split h] at h1
  simpa [hr_v, hr_p] using h1
theorem hr_set {l : List (Nat × Nat)} {i : Nat} {x y : Nat × Nat} (h : l[i]? = some x) : l.set i y = l.take i ++ ([y] ++ l.drop (i + 1)) := by
  obtain ⟨hi, -⟩ := List.getElem?_eq_some_iff.mp h
  rw [List.set_eq_take_append_cons_drop, if_pos hi]
  rfl
theorem hr_ok.set {l : List (Nat × Nat)} {i b d' : Nat} (h : hr_ok l) (hd : d' < b) : hr_ok (l.set i (b, d')) := fun q hq => by
  rcases List.mem_or_eq_of_mem_set hq with h1 | h1
  · exact h q h1
  · rw [h1]; exact hd
theorem jl_u {n k : Nat} (hn : n < 2 ^ 64) (hk : k < 64) : jl_ushr (lN n) (nI k) = lN (n / 2 ^ k) := wb_shr hn hk
theorem jl_s (n : Nat) {k : Nat} (hk : k < 64) : jl_shl (lN n) (nI k) = lN (n * 2 ^ k) := wb_shl n hk
theorem jl_not {x : Nat} (h : x < 2 ^ 64) : lN x ^^^ (-1) = lN (2 ^ 64 - (x + 1)) := by
  apply wb_inj
  rw [Int64.toBitVec_xor, wb_tb, wb_tb, show ((-1 : Int64)).toBitVec = BitVec.allOnes 64 by decide +kernel, BitVec.xor_allOnes]
  apply BitVec.eq_of_toNat_eq
  rw [BitVec.toNat_not, BitVec.toNat_ofNat, BitVec.toNat_ofNat, Nat.mod_eq_of_lt h, Nat.mod_eq_of_lt (by omega)]
  omega
theorem ji_and (n : Nat) {m : Int32} (w : Nat) (hm : m.toBitVec.toNat = 2 ^ w - 1) (hw : w ≤ 32) : nI n &&& m = nI (n % 2 ^ w) := by
  rw [pk_and (nI n) w hm]
  have : (nI n).toBitVec.toNat = n % 2 ^ 32 := by show (BitVec.ofNat 32 n).toNat = _; rw [BitVec.toNat_ofNat]
  rw [this, Nat.mod_mod_of_dvd _ (Nat.pow_dvd_pow 2 hw)]
/-- digit i, at place p -/
theorem jp_get {l : List (Nat × Nat)} {i p w d : Nat} {m : Int32} (hok : hr_ok l) (h : l[i]? = some (2 ^ w, d)) (hp : hr_p (l.take i) = 2 ^ p) (hp4 : p < 64) (hm : m.toBitVec.toNat = 2 ^ w - 1) (hw : w ≤ 32) (ht : hr_v l < 2 ^ 64) :
    (jl_ushr (lN (hr_v l)) (nI p)).toInt32 &&& m = nI d := by
  have h1 := hr_at hok h
  rw [hp] at h1
  rw [jl_u ht hp4, lN_i, ji_and _ w hm hw, h1]
theorem jp_bit {l : List (Nat × Nat)} {i p d : Nat} (hok : hr_ok l) (h : l[i]? = some (2, d)) (hp : hr_p (l.take i) = 2 ^ p) (hp4 : p < 64) (ht : hr_v l < 2 ^ 64) : jl_ushr (lN (hr_v l)) (nI p) &&& 1 = lN d := by
  have h1 := hr_at hok h
  rw [hp] at h1
  rw [jl_u ht hp4, wb_a1 (Nat.lt_of_le_of_lt (Nat.div_le_self _ _) ht), h1]
/-- another digit at place p -/
theorem jp_put {l : List (Nat × Nat)} {i p w d d' : Nat} (hok : hr_ok l) (h : l[i]? = some (2 ^ w, d)) (hd' : d' < 2 ^ w) (hp : hr_p (l.take i) = 2 ^ p) (hpw : p + w ≤ 63) (ht : hr_v l < 2 ^ 63) :
    (lN (hr_v l) &&& (jl_shl (lN (2 ^ w - 1)) (nI p) ^^^ (-1))) ||| jl_shl (lN d') (nI p) = lN (hr_v (l.set i (2 ^ w, d'))) := by
  have h0 : 2 ^ w * 2 ^ p ≤ 2 ^ 63 := by rw [← Nat.pow_add]; exact Nat.pow_le_pow_right (by decide) (by omega)
  have hw0 := Nat.two_pow_pos w
  have hp0 := Nat.two_pow_pos p
  have h1 : (2 ^ w - 1) * 2 ^ p < 2 ^ 63 := Nat.lt_of_lt_of_le (Nat.mul_lt_mul_of_pos_right (by omega) hp0) h0
  have h2 : d' * 2 ^ p < 2 ^ 63 := Nat.lt_of_lt_of_le (Nat.mul_lt_mul_of_pos_right hd' hp0) h0
  have e1 : l.set i (2 ^ w, d') = l.take i ++ ([(2 ^ w, d')] ++ l.drop (i + 1)) := hr_set h
  have e2 := hl_put (a := l.take i) (b := [(2 ^ w, d)]) (b' := [(2 ^ w, d')]) (c := l.drop (i + 1)) (p := p) (w := w) (hok.take i) (hok.one h) (fun q hq => by rw [List.mem_singleton.mp hq]; exact hd') hp (by simp [hr_p]) (by simp [hr_p]) (by omega) (by rw [← hr_split h]; omega)
  rw [← hr_split h, ← e1, show hr_v [(2 ^ w, d')] = d' by simp [hr_v]] at e2
  rw [jl_s _ (by omega), jl_s _ (by omega), jl_not (by omega), wb_and (by omega) (by omega), wb_or (Nat.lt_of_le_of_lt Nat.and_le_left (by omega)) (by omega), e2]
theorem jp_clr {l : List (Nat × Nat)} {i p w d : Nat} (hok : hr_ok l) (h : l[i]? = some (2 ^ w, d)) (hp : hr_p (l.take i) = 2 ^ p) (hpw : p + w ≤ 63) (ht : hr_v l < 2 ^ 63) :
    lN (hr_v l) &&& (jl_shl (lN (2 ^ w - 1)) (nI p) ^^^ (-1)) = lN (hr_v (l.set i (2 ^ w, 0))) := by
  have e := jp_put (d' := 0) hok h (Nat.two_pow_pos w) hp hpw ht
  rw [show jl_shl (lN 0) (nI p) = 0 by rw [jl_s _ (by omega), Nat.zero_mul]; rfl, Int64.or_zero] at e
  exact e
theorem jp_or {l : List (Nat × Nat)} {i p w d' : Nat} (hok : hr_ok l) (h : l[i]? = some (2 ^ w, 0)) (hd' : d' < 2 ^ w) (hp : hr_p (l.take i) = 2 ^ p) (hpw : p + w ≤ 63) (ht : hr_v l < 2 ^ 63) :
    lN (hr_v l) ||| jl_shl (lN d') (nI p) = lN (hr_v (l.set i (2 ^ w, d'))) := by
  have e := jp_clr hok h hp hpw ht
  have e2 := jp_put (d' := d') hok h hd' hp hpw ht
  have e3 : l.set i (2 ^ w, 0) = l := by
    obtain ⟨hi, hx⟩ := List.getElem?_eq_some_iff.mp h
    rw [← hx, List.set_getElem_self]
  rw [e3] at e
  rw [e] at e2
  exact e2

/-! numbers that the reckoner makes -/
def ch : Nat → Nat → Nat
  | _, 0 => 1
  | 0, _ + 1 => 0
  | n + 1, k + 1 => ch n k + ch n (k + 1)
theorem ch_0 (n : Nat) : ch n 0 = 1 := by cases n <;> rfl
theorem ch_s (n k : Nat) : ch (n + 1) (k + 1) = ch n k + ch n (k + 1) := rfl
theorem ch_abs (n : Nat) : ∀ k, (k + 1) * ch (n + 1) (k + 1) = (n + 1) * ch n k := by
  induction n with
  | zero =>
    intro k
    cases k with
    | zero => rfl
    | succ k => simp [ch]
  | succ n ih =>
    intro k
    cases k with
    | zero =>
      have h := ih 0
      rw [ch_s (n + 1) 0, ch_0]
      rw [ch_0] at h
      omega
    | succ k =>
      have h1 := ih k
      have h2 := ih (k + 1)
      rw [ch_s (n + 1) (k + 1)]
      have h3 := ch_s n k
      generalize ch (n + 1) (k + 1) = u at *
      generalize ch (n + 1) (k + 1 + 1) = w at *
      generalize ch n k = a at *
      generalize ch n (k + 1) = b at *
      subst h3
      grind
theorem ch_le (n : Nat) : ∀ k, ch n k ≤ 2 ^ n := by
  induction n with
  | zero => intro k; cases k <;> simp [ch]
  | succ n ih =>
    intro k
    cases k with
    | zero => rw [ch_0]; exact Nat.pow_pos (by decide)
    | succ k => rw [ch_s, Nat.pow_succ]; have := ih k; have := ih (k + 1); omega
theorem ch_gt (n : Nat) : ∀ k, n < k → ch n k = 0 := by
  induction n with
  | zero => intro k h; cases k with
    | zero => omega
    | succ k => rfl
  | succ n ih =>
    intro k h
    cases k with
    | zero => omega
    | succ k => rw [ch_s, ih k (by omega), ih (k + 1) (by omega)]
theorem ch_self (n : Nat) : ch n n = 1 := by
  induction n with
  | zero => rfl
  | succ n ih => rw [ch_s, ih, ch_gt n (n + 1) (by omega)]
theorem ch_sym (n : Nat) : ∀ k, k ≤ n → ch n k = ch n (n - k) := by
  induction n with
  | zero => intro k h; rw [show k = 0 by omega]
  | succ n ih =>
    intro k h
    cases k with
    | zero => rw [ch_0, Nat.sub_zero, ch_self]
    | succ k =>
      rcases Nat.eq_or_lt_of_le (show k ≤ n by omega) with e | e
      · subst e
        rw [ch_self, Nat.sub_self, ch_0]
      · rw [ch_s, show n + 1 - (k + 1) = (n - (k + 1)) + 1 by omega, ch_s, show n - (k + 1) + 1 = n - k by omega, ← ih k (by omega), ← ih (k + 1) (by omega), Nat.add_comm]
theorem ch_up {m i : Nat} (hi : 0 < i) : ch (m + i - 1) (i - 1) * (m + i) / i = ch (m + i) i := by
  obtain ⟨j, rfl⟩ : ∃ j, i = j + 1 := ⟨i - 1, by omega⟩
  have h := ch_abs (m + j) j
  rw [show m + (j + 1) - 1 = m + j by omega, Nat.add_sub_cancel, show m + (j + 1) = m + j + 1 by omega, Nat.mul_comm, ← h, Nat.mul_div_cancel_left _ (by omega)]
theorem ch_next {n i : Nat} (hi : i ≤ n) : ch n i * (n - i) / (i + 1) = ch n (i + 1) := by
  have h := ch_abs n i
  rw [ch_s] at h
  have e : (n - i) * ch n i = (i + 1) * ch n (i + 1) := by
    have e1 : (n + 1) * ch n i = (n - i) * ch n i + (i + 1) * ch n i := by rw [← Nat.add_mul]; congr 1; omega
    rw [e1, Nat.mul_add] at h
    omega
  rw [Nat.mul_comm, e, Nat.mul_div_cancel_left _ (by omega)]
theorem two500 {n : Nat} (h : n ≤ 500) : 2 ^ n < nB ^ 20 := Nat.lt_of_le_of_lt (Nat.pow_le_pow_right (by decide) h) (by decide +kernel)
def chF (n : Nat) (k : Int32) : Nat := if k < 0 ∨ nI n < k then 0 else ch n k.toNatClampNeg
/-! digits behind the point -/
theorem db_step {A B R F : Nat} (h : R = A % B) : R * F % B = A * F % B := by rw [h, Nat.mul_mod, Nat.mod_mod, ← Nat.mul_mod]
theorem db_end {A B R h : Nat} (hB : 0 < B) (hR : R = A % B) (hh : 1 ≤ h) : R * 10 ^ h / B % 10 = A * 10 ^ h / B % 10 := by
  have e1 := Nat.div_add_mod A B
  rw [← hR] at e1
  have e2 : A * 10 ^ h = B * (A / B * 10 ^ h) + R * 10 ^ h := by
    conv => lhs; rw [← e1]
    generalize A / B = Q
    generalize 10 ^ h = z
    grind
  rw [e2, Nat.mul_add_div hB]
  obtain ⟨j, rfl⟩ : ∃ j, h = j + 1 := ⟨h - 1, by omega⟩
  rw [Nat.pow_succ, show A / B * (10 ^ j * 10) = 10 * (A / B * 10 ^ j) by grind, Nat.mul_add_mod]
/-! roots -/
theorem rt_start {T N s : Nat} (hT : N < 10 ^ T) (hs : s * s ≤ N) : s ≤ 10 ^ ((T + 1) / 2) := by
  rcases Nat.lt_or_ge (10 ^ ((T + 1) / 2)) s with h | h
  · exfalso
    have e1 : 10 ^ ((T + 1) / 2) * 10 ^ ((T + 1) / 2) ≤ s * s := Nat.mul_le_mul (Nat.le_of_lt h) (Nat.le_of_lt h)
    rw [← Nat.pow_add] at e1
    have e2 : 10 ^ T ≤ 10 ^ ((T + 1) / 2 + (T + 1) / 2) := Nat.pow_le_pow_right (by decide) (by omega)
    omega
  · exact h
theorem rt_end {t g s C : Nat} (ht : 2460 ≤ t) (h : 2 ^ t * (g - s) ≤ C) (hC : C < 2 ^ 2460) : g ≤ s := by
  rcases Nat.eq_zero_or_pos (g - s) with e | e
  · omega
  · have := pw_end e h hC
    omega
theorem ten369 {e : Nat} (h : e ≤ 368) : 10 ^ e < 2 ^ 2460 := Nat.lt_of_le_of_lt (Nat.pow_le_pow_right (by decide) h) (by decide +kernel)
/-! roundings -/
def upF (how r d : Nat) (s : Bool) : Bool := if how = 0 then s && decide (r ≠ 0) else if how = 1 then decide (if s then d < 2 * r else d ≤ 2 * r) else false
theorem cmpN_lt1 {a b : Nat} : cmpN a b < nI 1 ↔ a ≤ b := by
  rcases Nat.lt_trichotomy a b with q | q | q
  · rw [cmpN_lt q]; exact ⟨fun _ => by omega, fun _ => by decide⟩
  · rw [cmpN_eq q]; exact ⟨fun _ => by omega, fun _ => by decide⟩
  · rw [cmpN_gt q]; exact ⟨fun h => absurd h (by decide), fun h => by omega⟩

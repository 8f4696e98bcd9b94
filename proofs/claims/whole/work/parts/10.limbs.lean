/-! numbers as rows of limbs, the base nB = 10^9 -/
def nB : Nat := 1000000000
theorem nB_eq : nB = 1000000000 := rfl
theorem nB_pos : 0 < nB := by decide
/-- the number that the lowest n limbs of f are, in base b -/
def nvb (b : Nat) (f : Nat → Nat) : Nat → Nat
  | 0 => 0
  | n + 1 => nvb b f n + f n * b ^ n
abbrev nv (f : Nat → Nat) (n : Nat) : Nat := nvb nB f n
theorem nvb_zero (b : Nat) (f : Nat → Nat) : nvb b f 0 = 0 := rfl
theorem nvb_succ (b : Nat) (f : Nat → Nat) (n : Nat) : nvb b f (n + 1) = nvb b f n + f n * b ^ n := rfl
theorem nvb_congr {b : Nat} {f g : Nat → Nat} {n : Nat} (h : ∀ j, j < n → f j = g j) : nvb b f n = nvb b g n := by
  induction n with
  | zero => rfl
  | succ n ih => rw [nvb_succ, nvb_succ, ih (fun j hj => h j (by omega)), h n (by omega)]
theorem nvb_up {b : Nat} {f : Nat → Nat} {n k v : Nat} (h : n ≤ k) : nvb b (va_up f k v) n = nvb b f n := nvb_congr (fun j hj => by simp only [va_up]; rw [if_neg (by omega)])
theorem nvb_upS {b : Nat} {f : Nat → Nat} {n v : Nat} : nvb b (va_up f n v) (n + 1) = nvb b f n + v * b ^ n := by
  rw [nvb_succ, nvb_up (Nat.le_refl n)]; simp only [va_up]; simp
theorem nvb_lt {b : Nat} {f : Nat → Nat} {n : Nat} (h : ∀ j, j < n → f j < b) : nvb b f n < b ^ n := by
  induction n with
  | zero => simp [nvb]
  | succ n ih =>
    have h1 := ih (fun j hj => h j (by omega))
    have h2 : f n + 1 ≤ b := h n (by omega)
    have h3 : (f n + 1) * b ^ n ≤ b * b ^ n := Nat.mul_le_mul_right _ h2
    rw [nvb_succ, Nat.pow_succ, Nat.mul_comm (b ^ n) b]
    rw [Nat.add_mul, Nat.one_mul] at h3
    omega
theorem nvb_zeros {b : Nat} {f : Nat → Nat} {n m : Nat} (hm : n ≤ m) (h : ∀ j, n ≤ j → j < m → f j = 0) : nvb b f m = nvb b f n := by
  induction m with
  | zero => have : n = 0 := by omega
            rw [this]
  | succ m ih =>
    by_cases hn : n = m + 1
    · rw [hn]
    · rw [nvb_succ, h m (by omega) (by omega), ih (by omega) (fun j h1 h2 => h j h1 (by omega)), Nat.zero_mul, Nat.add_zero]
theorem nvb_top {b : Nat} {f : Nat → Nat} {n : Nat} (h : 0 < f n) : b ^ n ≤ nvb b f (n + 1) := by
  rw [nvb_succ]
  have : 1 * b ^ n ≤ f n * b ^ n := Nat.mul_le_mul_right _ h
  omega
theorem nvb_mono {b : Nat} {f : Nat → Nat} {n m : Nat} (h : n ≤ m) : nvb b f n ≤ nvb b f m := by
  induction m with
  | zero => have : n = 0 := by omega
            rw [this]; exact Nat.le_refl _
  | succ m ih =>
    by_cases hn : n = m + 1
    · rw [hn]; exact Nat.le_refl _
    · rw [nvb_succ]; have := ih (by omega); omega
/-- the upper part of a row -/
def nsh (f : Nat → Nat) (k : Nat) : Nat → Nat := fun j => f (k + j)
theorem nvb_split (b : Nat) (f : Nat → Nat) (k n : Nat) : nvb b f (k + n) = nvb b f k + b ^ k * nvb b (nsh f k) n := by
  induction n with
  | zero => simp [nvb]
  | succ n ih =>
    rw [← Nat.add_assoc, nvb_succ, ih, nvb_succ, Nat.mul_add, Nat.pow_add, nsh]
    have : f (k + n) * (b ^ k * b ^ n) = b ^ k * (f (k + n) * b ^ n) := by
      rw [Nat.mul_left_comm]
    omega
theorem nvb_div {b : Nat} {f : Nat → Nat} (k n : Nat) (h : ∀ j, j < k → f j < b) : nvb b f (k + n) / b ^ k = nvb b (nsh f k) n := by
  have h1 := nvb_lt h
  rw [nvb_split, Nat.add_mul_div_left _ _ (by omega), Nat.div_eq_of_lt h1, Nat.zero_add]
theorem nvb_mod {b : Nat} {f : Nat → Nat} (k n : Nat) (h : ∀ j, j < k → f j < b) : nvb b f (k + n) % b ^ k = nvb b f k := by
  have h1 := nvb_lt h
  rw [nvb_split, Nat.add_mul_mod_self_left, Nat.mod_eq_of_lt h1]
/-- limb j of a row is a limb of its number -/
theorem nvb_limb {b : Nat} {f : Nat → Nat} {j n : Nat} (hj : j < n) (h : ∀ j, j < n → f j < b) : nvb b f n / b ^ j % b = f j := by
  obtain ⟨m, rfl⟩ : ∃ m, n = j + (1 + m) := ⟨n - j - 1, by omega⟩
  rw [nvb_div j (1 + m) (fun i hi => h i (by omega))]
  have h2 := nvb_mod (b := b) (f := nsh f j) 1 m (fun i hi => h (j + i) (by omega))
  rw [Nat.pow_one] at h2
  rw [h2, nvb_succ, nvb_zero]
  simp [nsh]
/-- two rows with the same top limbs: the first difference decides -/
theorem nvb_lt_of {b : Nat} {f g : Nat → Nat} {i n : Nat} (hi : i < n) (hf : ∀ j, j < n → f j < b) (h : f i < g i) (he : ∀ j, i < j → j < n → f j = g j) : nvb b f n < nvb b g n := by
  induction n with
  | zero => omega
  | succ n ih =>
    by_cases h1 : i = n
    · subst h1
      have h2 := nvb_lt (b := b) (f := f) (n := i) (fun j hj => hf j (by omega))
      have h3 : (f i + 1) * b ^ i ≤ g i * b ^ i := Nat.mul_le_mul_right _ h
      rw [nvb_succ, nvb_succ]
      rw [Nat.add_mul, Nat.one_mul] at h3
      omega
    · have h2 := ih (by omega) (fun j hj => hf j (by omega)) (fun j h3 h4 => he j h3 (by omega))
      rw [nvb_succ, nvb_succ, he n (by omega) (by omega)]
      omega
/-- the row is in order: limbs below the base, n of them, the highest not 0; x is its number -/
def nOk (b : Nat) (n : Nat) (f : Nat → Nat) (x : Nat) : Prop := (∀ j, f j < b) ∧ (0 < n → 0 < f (n - 1)) ∧ nvb b f n = x
theorem nOk.lt {b n x : Nat} {f : Nat → Nat} (h : nOk b n f x) : x < b ^ n := by rw [← h.2.2]; exact nvb_lt (fun j _ => h.1 j)
theorem nOk.ge {b n x : Nat} {f : Nat → Nat} (h : nOk b n f x) (hn : 0 < n) : b ^ (n - 1) ≤ x := by
  obtain ⟨k, rfl⟩ : ∃ k, n = k + 1 := ⟨n - 1, by omega⟩
  rw [← h.2.2]; exact nvb_top (h.2.1 hn)
theorem nOk.zero {b n x : Nat} {f : Nat → Nat} (hb : 0 < b) (h : nOk b n f x) : n = 0 ↔ x = 0 := by
  constructor
  · intro h0; rw [← h.2.2, h0]; rfl
  · intro h0
    by_cases hn : n = 0
    · exact hn
    · have := h.ge (by omega)
      have h2 : 0 < b ^ (n - 1) := Nat.pow_pos hb
      omega
theorem nOk.size_le {b n x k : Nat} {f : Nat → Nat} (hb : 1 < b) (h : nOk b n f x) : n ≤ k ↔ x < b ^ k := by
  constructor
  · intro hn
    exact Nat.lt_of_lt_of_le h.lt (Nat.pow_le_pow_right (by omega) hn)
  · intro hx
    by_cases hn : n ≤ k
    · exact hn
    · have h1 := h.ge (by omega)
      have h2 : b ^ k ≤ b ^ (n - 1) := Nat.pow_le_pow_right (by omega) (by omega)
      omega
theorem nOk.mk0 {b : Nat} {f : Nat → Nat} (h : ∀ j, f j < b) : nOk b 0 f 0 := ⟨h, fun h => by omega, rfl⟩
/-- equal numbers have equal sizes and limbs -/
theorem nOk.same {b n m x : Nat} {f g : Nat → Nat} (hb : 1 < b) (h : nOk b n f x) (k : nOk b m g x) : n = m ∧ ∀ j, j < n → f j = g j := by
  have h1 : n ≤ m := (h.size_le hb).mpr k.lt
  have h2 : m ≤ n := (k.size_le hb).mpr h.lt
  have e : n = m := by omega
  refine ⟨e, fun j hj => ?_⟩
  rw [← nvb_limb hj (fun j _ => h.1 j), ← nvb_limb (b := b) (f := g) (n := m) (by omega) (fun j _ => k.1 j), h.2.2, k.2.2]

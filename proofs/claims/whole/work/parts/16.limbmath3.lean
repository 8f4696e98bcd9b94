theorem nsh_up {f : Nat → Nat} {a t v : Nat} : nsh (va_up f (a + t) v) a = va_up (nsh f a) t v := by
  funext j
  unfold nsh va_up
  by_cases e : j = t
  · subst e; simp
  · rw [if_neg e, if_neg (by omega)]
theorem prod_lt {b x y c s : Nat} (hx : x < b) (hy : y < b) (hs : s < b) (hc : c < b) : s + x * y + c < b * b := by
  have h1 : x * y ≤ (b - 1) * (b - 1) := Nat.mul_le_mul (by omega) (by omega)
  obtain ⟨z, rfl⟩ : ∃ z, b = z + 1 := ⟨b - 1, by omega⟩
  rw [Nat.add_sub_cancel] at h1
  have : (z + 1) * (z + 1) = z * z + z + z + 1 := by grind
  omega
theorem prod_step {b : Nat} {h h2 y z : Nat → Nat} {a K cr : Nat} (h1 : ∀ q, q < a → h2 q = h q) (hS : nvb b (nsh h2 a) K + cr * b ^ K = nvb b (nsh h a) K + y a * nvb b z K) (hO : nvb b h (a + K) = nvb b y a * nvb b z K) : nvb b (va_up h2 (a + K) cr) (a + 1 + K) = nvb b y (a + 1) * nvb b z K := by
  rw [show a + 1 + K = a + (K + 1) by omega, nvb_split, nsh_up, nvb_upS, hS, nvb_up (by omega), nvb_congr h1, nvb_succ]
  rw [nvb_split] at hO
  rw [Nat.add_mul, ← hO]
  grind
theorem padl_num {n x q : Nat} {h : Nat → Nat} (hk : nOk nB n h x) : padl (n, h) q = x / nB ^ q % nB := by
  unfold padl
  by_cases e : q < n
  · rw [if_pos e, ← hk.2.2, nvb_limb e (fun j _ => hk.1 j)]
  · rw [if_neg e, Nat.div_eq_of_lt (Nat.lt_of_lt_of_le hk.lt (Nat.pow_le_pow_right nB_pos (by omega))), Nat.zero_mod]
theorem nB10 : nB = 10 ^ 9 := by decide
theorem dig_low {y r : Nat} (hr : r < 9) : y % nB / 10 ^ r % 10 = y / 10 ^ r % 10 := by
  obtain ⟨z, w, hy, hw⟩ : ∃ z w, y = nB * z + w ∧ y % nB = w := ⟨y / nB, y % nB, (Nat.div_add_mod y nB).symm, rfl⟩
  have h2 : nB = 10 ^ r * (10 * 10 ^ (8 - r)) := by
    rw [nB10, ← Nat.pow_succ', ← Nat.pow_add]
    congr 1
    omega
  have h4 : nB * z = 10 ^ r * (10 * (10 ^ (8 - r) * z)) := by
    rw [h2]
    grind
  rw [hw, hy, h4, Nat.mul_add_div (Nat.pow_pos (by decide)), Nat.mul_add_mod]
theorem dig_num {x k : Nat} : x / nB ^ (k / 9) % nB / 10 ^ (k % 9) % 10 = x / 10 ^ k % 10 := by
  rw [dig_low (Nat.mod_lt _ (by decide)), Nat.div_div_eq_div_mul, nB10, ← Nat.pow_mul, ← Nat.pow_add, Nat.div_add_mod]
/-- T is how many digits x has -/
def dlen (T x : Nat) : Prop := 1 ≤ T ∧ x < 10 ^ T ∧ (1 < T → 10 ^ (T - 1) ≤ x)
theorem dlen_top {n x T : Nat} {h : Nat → Nat} (hk : nOk nB n h x) (hn : 0 < n) (hT : 1 ≤ T) (h1 : 10 ^ (T - 1) ≤ h (n - 1)) (h2 : h (n - 1) < 10 ^ T) : dlen ((n - 1) * 9 + T) x := by
  obtain ⟨k, rfl⟩ : ∃ k, n = k + 1 := ⟨n - 1, by omega⟩
  rw [Nat.add_sub_cancel] at *
  have e1 := hk.2.2
  rw [nvb_succ] at e1
  have e2 := nvb_lt (b := nB) (f := h) (n := k) (fun j _ => hk.1 j)
  have e3 : (h k + 1) * nB ^ k ≤ 10 ^ T * nB ^ k := Nat.mul_le_mul_right _ h2
  have e4 : 10 ^ (T - 1) * nB ^ k ≤ h k * nB ^ k := Nat.mul_le_mul_right _ h1
  have e5 : ∀ m, 10 ^ (k * 9 + m) = 10 ^ m * nB ^ k := fun m => by rw [nB10, ← Nat.pow_mul, ← Nat.pow_add]; congr 1; omega
  rw [Nat.add_mul, Nat.one_mul] at e3
  refine ⟨by omega, by rw [e5]; omega, fun _ => ?_⟩
  rw [show k * 9 + T - 1 = k * 9 + (T - 1) by omega, e5]
  omega
theorem dlen_eq {S T x : Nat} (h : dlen S x) (k : dlen T x) : S = T := by
  have key : ∀ {S T : Nat}, dlen S x → dlen T x → S ≤ T := by
    intro S T h k
    rcases Nat.lt_or_ge T S with q | q
    · exfalso
      have h1 := h.2.2 (by have := k.1; omega)
      have h2 : 10 ^ T ≤ 10 ^ (S - 1) := Nat.pow_le_pow_right (by decide) (by omega)
      have := k.2.1
      omega
    · exact q
  exact Nat.le_antisymm (key h k) (key k h)
theorem ten_num {e : Nat} : 10 ^ (e % 9) * nB ^ (e / 9) = 10 ^ e := by
  rw [nB10, ← Nat.pow_mul, ← Nat.pow_add]
  congr 1
  omega
theorem ten9 {r : Nat} (h : r < 9) : 10 ^ r < nB ∧ 0 < 10 ^ r := by
  refine ⟨?_, Nat.pow_pos (by decide)⟩
  have : 10 ^ r ≤ 10 ^ 8 := Nat.pow_le_pow_right (by decide) (by omega)
  rw [nB10]
  omega

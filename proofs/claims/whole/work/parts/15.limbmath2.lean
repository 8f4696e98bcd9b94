theorem up_padl {v : Nat → Nat × (Nat → Nat)} {i j q : Nat} {h : Nat → Nat} (e : h q = (v i).2 q) : padl (va_up v i ((v i).1, h) j) q = padl (v j) q := by
  unfold padl
  rw [up_fst, up_snd e]
theorem lN_sub3 {a b c : Nat} (h : b + c ≤ a) : lN a - lN b - lN c = lN (a - b - c) := by rw [lN_sub (by omega), lN_sub (by omega)]
theorem lN_sub3w {a b c w : Nat} (h : b + c ≤ a + w) : lN a - lN b - lN c + lN w = lN (a + w - b - c) := by
  rw [← lN_sub3 h, ← lN_add]
  grind
theorem lN_ti {n : Nat} (h : n < 2 ^ 63) : (lN n).toInt = (n : Int) := pk_lT h
theorem lN_sub3_ge {a b c : Nat} (ha : a < 2 ^ 60) (hb : b < 2 ^ 60) (hc : c < 2 ^ 60) : lN 0 ≤ lN a - lN b - lN c ↔ b + c ≤ a := by
  by_cases h : b + c ≤ a
  · rw [lN_sub3 h, pk_lLE (by decide) (by omega)]
    exact ⟨fun _ => h, fun _ => Nat.zero_le _⟩
  · refine ⟨fun q => absurd q ?_, fun q => absurd q h⟩
    have e1 : lN a - lN b - lN c + lN (b + c - a) = lN 0 := by
      rw [lN_sub3w (by omega), show a + (b + c - a) - b - c = 0 by omega]
    intro q
    have q1 := Int64.le_iff_toInt_le.mp q
    have e2 : lN a - lN b - lN c = lN 0 - lN (b + c - a) := by rw [← e1]; grind
    rw [e2, Int64.toInt_sub, lN_ti (by decide), lN_ti (by omega)] at q1
    have e3 : ((0 : Nat) : Int) - ((b + c - a : Nat) : Int) = -((b + c - a : Nat) : Int) := by omega
    rw [e3, Int.bmod_eq_of_le (by omega) (by omega)] at q1
    omega
theorem nvb_down {b : Nat} {f : Nat → Nat} {k n : Nat} (h : k < n) : nvb b (nsh f k) (n - k) = f k + b * nvb b (nsh f (k + 1)) (n - (k + 1)) := by
  have e1 : n - k = 1 + (n - (k + 1)) := by omega
  have e2 : nsh (nsh f k) 1 = nsh f (k + 1) := by funext j; unfold nsh; rw [show k + (1 + j) = k + 1 + j by omega]
  rw [e1, nvb_split, e2, nvb_succ, nvb_zero, Nat.pow_one, Nat.pow_zero]
  simp [nsh]
theorem nvb_nsh_up {b : Nat} {f : Nat → Nat} {k q v n : Nat} (h : q < k) : nvb b (nsh (va_up f q v) k) n = nvb b (nsh f k) n := nvb_congr (fun j _ => by unfold nsh; rw [hw_up_ne (by omega)])
/-- a step of a short division, from the top down -/
theorem sdiv_step {b : Nat} {f h : Nat → Nat} {k n d rest : Nat} (hk : k < n) (hd : 0 < d) (he : nvb b (nsh f (k + 1)) (n - (k + 1)) = nvb b (nsh h (k + 1)) (n - (k + 1)) * d + rest) :
    nvb b (nsh f k) (n - k) = nvb b (nsh (va_up h k ((rest * b + f k) / d)) k) (n - k) * d + (rest * b + f k) % d := by
  rw [nvb_down hk, nvb_down hk, hw_up_eq, nvb_nsh_up (by omega), he]
  generalize nvb b (nsh h (k + 1)) (n - (k + 1)) = Z
  have e := Nat.div_add_mod (rest * b + f k) d
  generalize (rest * b + f k) / d = q at *
  generalize (rest * b + f k) % d = w at *
  grind
theorem sdiv_lt {b d rest z : Nat} (hr : rest < d) (hz : z < b) : (rest * b + z) / d < b := by
  refine (Nat.div_lt_iff_lt_mul (by omega)).mpr ?_
  have : (rest + 1) * b ≤ d * b := Nat.mul_le_mul_right _ hr
  rw [Nat.add_mul, Nat.one_mul] at this
  rw [Nat.mul_comm b d]
  omega

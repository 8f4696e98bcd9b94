/-- the scaled divisor's top limb is at least half the base -/
theorem sc_norm {t sc : Nat} (ht : 1 ≤ t) (htB : t < nB) (hsc : sc = nB / (t + 1)) : 1 ≤ sc ∧ sc ≤ nB ∧ (t + 1) * sc ≤ nB ∧ nB ≤ 2 * (t * sc) := by
  have hnB : nB = 1000000000 := rfl
  have h1 : 1 ≤ sc := by rw [hsc]; exact (Nat.le_div_iff_mul_le (by omega)).mpr (by omega)
  have h2 : sc ≤ nB := by rw [hsc]; exact Nat.div_le_self _ _
  have h3 : (t + 1) * sc ≤ nB := by rw [hsc, Nat.mul_comm]; exact Nat.div_mul_le_self _ _
  refine ⟨h1, h2, h3, ?_⟩
  have h4 : nB < (t + 1) * (sc + 1) := by
    have e1 := Nat.div_add_mod nB (t + 1)
    have e2 := Nat.mod_lt nB (show 0 < t + 1 by omega)
    rw [← hsc] at e1
    rw [Nat.mul_add, Nat.mul_one]
    omega
  rcases Nat.eq_or_lt_of_le ht with e | e
  · subst e
    omega
  · rcases Nat.eq_or_lt_of_le h1 with e2 | e2
    · subst e2
      omega
    · have h5 : 1 * 1 ≤ (t - 1) * (sc - 1) := Nat.mul_le_mul (by omega) (by omega)
      obtain ⟨a, rfl⟩ : ∃ a, t = a + 1 := ⟨t - 1, by omega⟩
      obtain ⟨b, rfl⟩ : ∃ b, sc = b + 1 := ⟨sc - 1, by omega⟩
      have e3 : (a + 1) * (b + 1) = a * b + a + b + 1 := by grind
      have e4 : (a + 1 + 1) * (b + 1 + 1) = a * b + 2 * a + 2 * b + 4 := by grind
      simp only [Nat.add_sub_cancel] at h5
      omega
/-- a row whose top limb is known, times the scale -/
theorem sc_row {n y sc : Nat} {h w : Nat → Nat} (hk : nOk nB n h y) (hn : 1 ≤ n) (hsc : sc = nB / (h (n - 1) + 1)) (hw : ∀ q, q ≤ n → w q < nB) (he : nvb nB w (n + 1) = nvb nB h n * sc) : w n = 0 ∧ nvb nB w n = y * sc ∧ nB ≤ 2 * w (n - 1) ∧ 1 ≤ sc ∧ sc ≤ nB := by
  obtain ⟨k, rfl⟩ : ∃ k, n = k + 1 := ⟨n - 1, by omega⟩
  have ht := hk.2.1 (by omega)
  rw [Nat.add_sub_cancel] at *
  obtain ⟨h1, h2, h3, h4⟩ := sc_norm ht (hk.1 k) hsc
  rw [hk.2.2] at he
  have hy := hk.2.2
  rw [nvb_succ] at hy
  have hlo := nvb_lt (b := nB) (f := h) (n := k) (fun j _ => hk.1 j)
  have hP : 0 < nB ^ k := Nat.pow_pos nB_pos
  have e1 : y < (h k + 1) * nB ^ k := by rw [Nat.add_mul, Nat.one_mul]; omega
  have e2 : y * sc < nB ^ (k + 1) := by
    have e3 : y * sc < (h k + 1) * nB ^ k * sc := Nat.mul_lt_mul_of_pos_right e1 (by omega)
    have e4 : (h k + 1) * nB ^ k * sc = (h k + 1) * sc * nB ^ k := by grind
    have e5 : (h k + 1) * sc * nB ^ k ≤ nB * nB ^ k := Nat.mul_le_mul_right _ h3
    rw [Nat.pow_succ, Nat.mul_comm (nB ^ k) nB]
    omega
  have e6 : w (k + 1) = 0 := by
    rcases Nat.eq_zero_or_pos (w (k + 1)) with q | q
    · exact q
    · have := nvb_top (b := nB) q
      omega
  have e7 : nvb nB w (k + 1) = y * sc := by
    rw [nvb_succ, e6, Nat.zero_mul, Nat.add_zero] at he
    exact he
  refine ⟨e6, e7, ?_, h1, h2⟩
  have e8 : h k * sc ≤ w k := by
    rw [nvb_succ] at e7
    have e9 := nvb_lt (b := nB) (f := w) (n := k) (fun j hj => hw j (by omega))
    have e10 : h k * sc * nB ^ k ≤ y * sc := by
      have : h k * nB ^ k * sc ≤ y * sc := Nat.mul_le_mul_right _ (by omega)
      have e11 : h k * sc * nB ^ k = h k * nB ^ k * sc := by grind
      omega
    have e12 : h k * sc * nB ^ k < (w k + 1) * nB ^ k := by rw [Nat.add_mul, Nat.one_mul]; omega
    have := Nat.lt_of_mul_lt_mul_right e12
    omega
  have e13 : 2 * (h k * sc) ≤ 2 * w k := Nat.mul_le_mul_left _ e8
  omega
/-- a step of the long division -/
theorem ld_lt {u : Nat → Nat} {p n V : Nat} (h : nvb nB u (p + 1 + n) < V * nB ^ (p + 1)) : nvb nB (nsh u p) (n + 1) < V * nB := by
  rw [show p + 1 + n = p + (n + 1) by omega, nvb_split, Nat.pow_succ] at h
  have e : nB ^ p * nvb nB (nsh u p) (n + 1) < nB ^ p * (V * nB) := by
    have : V * (nB ^ p * nB) = nB ^ p * (V * nB) := by grind
    omega
  exact Nat.lt_of_mul_lt_mul_left e
theorem ld_step {u u' h : Nat → Nat} {p n V m X : Nat} (hp : p < m) (hB : ∀ q, q < p → u q < nB) (hlo : ∀ q, q < p → u' q = u q) (hV : 0 < V) (hr : nvb nB (nsh u' p) n = nvb nB (nsh u p) (n + 1) % V) (hX : X = nvb nB (nsh h (p + 1)) (m - (p + 1)) * V * nB ^ (p + 1) + nvb nB u (p + 1 + n)) :
    nvb nB u' (p + n) < V * nB ^ p ∧ X = nvb nB (nsh (va_up h p (nvb nB (nsh u p) (n + 1) / V)) p) (m - p) * V * nB ^ p + nvb nB u' (p + n) := by
  have e1 : nvb nB u' (p + n) = nvb nB u p + nB ^ p * (nvb nB (nsh u p) (n + 1) % V) := by rw [nvb_split, hr, nvb_congr hlo]
  have e2 := nvb_lt (b := nB) (f := u) (n := p) hB
  have e3 := Nat.mod_lt (nvb nB (nsh u p) (n + 1)) hV
  have e4 := Nat.div_add_mod (nvb nB (nsh u p) (n + 1)) V
  have e5 : nvb nB u (p + 1 + n) = nvb nB u p + nB ^ p * nvb nB (nsh u p) (n + 1) := by rw [show p + 1 + n = p + (n + 1) by omega, nvb_split]
  rw [nvb_down hp, hw_up_eq, nvb_nsh_up (by omega), e1]
  rw [e5, Nat.pow_succ] at hX
  generalize nvb nB (nsh u p) (n + 1) = U at *
  generalize nvb nB (nsh h (p + 1)) (m - (p + 1)) = Z at *
  generalize nvb nB u p = lo at *
  generalize nB ^ p = P at *
  generalize U / V = q at *
  generalize U % V = t at *
  constructor
  · have : P * (t + 1) ≤ P * V := Nat.mul_le_mul_left _ e3
    rw [Nat.mul_add, Nat.mul_one] at this
    rw [Nat.mul_comm V P]
    omega
  · rw [hX, ← e4]
    grind
theorem upO {N : Nat} {x : Nat → Nat} {v : Nat → Nat × (Nat → Nat)} {i n y : Nat} {h : Nat → Nat} (ho : ∀ i, i < N → (v i).1 ≤ 41 ∧ nOk nB (v i).1 (v i).2 (x i)) (hn : n ≤ 41) (hk : nOk nB n h y) : ∀ j, j < N → (va_up v i (n, h) j).1 ≤ 41 ∧ nOk nB (va_up v i (n, h) j).1 (va_up v i (n, h) j).2 (va_up x i y j) := by
  intro j hj
  by_cases e : j = i
  · subst e; rw [hw_up_eq, hw_up_eq]; exact ⟨hn, hk⟩
  · rw [hw_up_ne e, hw_up_ne e]; exact ho j hj
theorem up_comm {α : Type} {f : Nat → α} {a b : Nat} {x y : α} (h : a ≠ b) : va_up (va_up f a x) b y = va_up (va_up f b y) a x := by
  funext q
  unfold va_up
  by_cases e : q = b
  · subst e; rw [if_pos rfl, if_neg (fun e => h e.symm), if_pos rfl]
  · rw [if_neg e]
    by_cases e2 : q = a
    · rw [if_pos e2, if_pos e2]
    · rw [if_neg e2, if_neg e2, if_neg e]
theorem sl_fin {X xj xk sc V Q R : Nat} (hX : X = Q * V + R) (hR : R < V) (hV : V = xk * sc) (hXe : X = xj * sc) (hs : 0 < sc) : Q = xj / xk ∧ R / sc = xj % xk := by
  have h1 : X / V = Q := by rw [hX, Nat.mul_comm, Nat.mul_add_div (by omega), Nat.div_eq_of_lt hR, Nat.add_zero]
  have h2 : X % V = R := by rw [hX, Nat.mul_comm, Nat.mul_add_mod, Nat.mod_eq_of_lt hR]
  rw [hXe, hV, Nat.mul_div_mul_right _ _ hs] at h1
  rw [hXe, hV, Nat.mul_mod_mul_right] at h2
  exact ⟨h1.symm, by rw [← h2, Nat.mul_div_cancel _ hs]⟩
theorem nsh0 (g : Nat → Nat) : nsh g 0 = g := funext (fun q => by unfold nsh; rw [Nat.zero_add])

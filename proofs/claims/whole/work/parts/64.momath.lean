def zI (z : Int) : Int32 := Int32.ofInt z
theorem zI_nI (n : Nat) : nI n = zI (n : Int) := rfl
theorem zI_sub (a b : Int) : zI a - zI b = zI (a - b) := (Int32.ofInt_sub a b).symm
theorem zI_add (a b : Int) : zI a + zI b = zI (a + b) := (Int32.ofInt_add a b).symm
theorem zI_mul (a b : Int) : zI a * zI b = zI (a * b) := (Int32.ofInt_mul a b).symm
theorem zI_ti {z : Int} (h1 : -2 ^ 31 ≤ z) (h2 : z < 2 ^ 31) : (zI z).toInt = z := Int32.toInt_ofInt_of_le h1 h2
theorem zI_div {a b : Int} (h1 : -2 ^ 31 < a) (h2 : a < 2 ^ 31) (h3 : 0 < b) (h4 : b < 2 ^ 31) : (zI a / zI b) = zI (a.tdiv b) := by
  apply Int32.toInt.inj
  rw [Int32.toInt_div, zI_ti (by omega) h2, zI_ti (by omega) h4]
  have hb : (a.tdiv b).natAbs ≤ a.natAbs := by rw [Int.natAbs_tdiv]; exact Nat.div_le_self _ _
  rw [zI_ti (by omega) (by omega)]
  exact Int.bmod_eq_of_le (by omega) (by omega)
theorem zI_ge {z : Int} (h1 : -2 ^ 31 ≤ z) (h2 : z < 2 ^ 31) : 0 ≤ zI z ↔ 0 ≤ z := by
  rw [Int32.le_iff_toInt_le, zI_ti h1 h2]; exact Iff.rfl
theorem tk_step {a s : Nat} (ha : a < 10000) (hs : s ≤ 100010000) : ∃ (ρ : Int32) (dg cr : Nat), (zI ((a : Int) - s) - zI ((a : Int) - s) / nI 10000 * nI 10000 = ρ) ∧ (0 ≤ ρ → ρ = nI dg) ∧ (¬ 0 ≤ ρ → ρ + nI 10000 = nI dg) ∧ (nI dg - zI ((a : Int) - s)) / nI 10000 = nI cr ∧ dg < 10000 ∧ dg + s = a + cr * 10000 := by
  obtain ⟨z, hz⟩ : ∃ z : Int, z = (a : Int) - s := ⟨_, rfl⟩
  have hm : z.tmod 10000 = z - z.tdiv 10000 * 10000 := by have := Int.mul_tdiv_add_tmod z 10000; omega
  rw [← hz]
  rcases Nat.le_total s a with h | h
  · refine ⟨_, a - s, 0, rfl, ?_, ?_, ?_, by omega, by omega⟩
    · intro _
      rw [zI_nI, zI_div (by omega) (by omega) (by decide) (by decide), zI_mul, zI_sub, zI_nI]
      rw [show ((10000 : Nat) : Int) = 10000 from rfl, ← hm, Int.tmod_eq_emod_of_nonneg (by omega)]
      congr 1
      omega
    · intro hc
      refine absurd ?_ hc
      rw [zI_nI, zI_div (by omega) (by omega) (by decide) (by decide), zI_mul, zI_sub]
      rw [show ((10000 : Nat) : Int) = 10000 from rfl, ← hm, Int.tmod_eq_emod_of_nonneg (by omega), zI_ge (by omega) (by omega)]
      omega
    · rw [zI_nI, zI_sub, show ((a - s : Nat) : Int) - z = 0 by omega]
      decide
  · have hr : zI z - zI z / nI 10000 * nI 10000 = zI (-(((s - a) % 10000 : Nat) : Int)) := by
      rw [zI_nI, zI_div (by omega) (by omega) (by decide) (by decide), zI_mul, zI_sub]
      rw [show ((10000 : Nat) : Int) = 10000 from rfl, ← hm]
      have e : z = -((s - a : Nat) : Int) := by omega
      rw [e, Int.neg_tmod, Int.tmod_eq_emod_of_nonneg (by omega)]
      congr 1
    rw [hr]
    refine ⟨_, (10000 - (s - a) % 10000) % 10000, (s - a + 9999) / 10000, rfl, ?_, ?_, ?_, by omega, by omega⟩
    · intro hc
      rw [zI_ge (by omega) (by omega)] at hc
      rw [zI_nI]
      congr 1
      omega
    · intro hc
      rw [zI_ge (by omega) (by omega)] at hc
      rw [zI_nI, zI_nI, zI_add]
      congr 1
      omega
    · rw [zI_nI, zI_nI, zI_sub, zI_div (by omega) (by omega) (by decide) (by decide), zI_nI]
      congr 1
      rw [Int.tdiv_eq_ediv_of_nonneg (by omega)]
      omega
theorem est_hi {A k : Nat} (h : A < 10000 ^ (k + 3)) : (A / 10000 ^ (k + 2) % 10000 * 10000 + A / 10000 ^ (k + 1) % 10000) * 10000 + A / 10000 ^ k % 10000 = A / 10000 ^ k := by
  have h1 : A / 10000 ^ (k + 1) = A / 10000 ^ k / 10000 := by rw [Nat.div_div_eq_div_mul, ← Nat.pow_succ]
  have h2 : A / 10000 ^ (k + 2) = A / 10000 ^ k / 10000 / 10000 := by rw [← h1, Nat.div_div_eq_div_mul, ← Nat.pow_succ]
  have h3 : A / 10000 ^ k < 10000 * 10000 * 10000 := by
    rw [Nat.div_lt_iff_lt_mul (Nat.pow_pos (by decide))]
    rw [show k + 3 = 3 + k by omega, Nat.pow_add] at h
    exact h
  rw [h2, h1]
  clear h h1 h2
  generalize A / 10000 ^ k = X at *
  omega
theorem est_lo {A k : Nat} (h : A < 10000 ^ (k + 2)) : A / 10000 ^ (k + 1) % 10000 * 10000 + A / 10000 ^ k % 10000 = A / 10000 ^ k := by
  have h1 : A / 10000 ^ (k + 1) = A / 10000 ^ k / 10000 := by rw [Nat.div_div_eq_div_mul, ← Nat.pow_succ]
  have h3 : A / 10000 ^ k < 10000 * 10000 := by
    rw [Nat.div_lt_iff_lt_mul (Nat.pow_pos (by decide))]
    rw [show k + 2 = 2 + k by omega, Nat.pow_add] at h
    exact h
  rw [h1]
  clear h h1
  generalize A / 10000 ^ k = X at *
  omega
theorem est {A B t N : Nat} (hN : 1 ≤ N) (hA : A < 10000 ^ (t + N + 1)) (hB : B < 10000 ^ N) : ((A / 10000 ^ (t + N) % 10000 * 10000 + A / 10000 ^ (t + N - 1) % 10000) * 10000 + (if t + N < 2 then 0 else A / 10000 ^ (t + N - 2) % 10000)) / (B / 10000 ^ (N - 1) % 10000 * 10000 + (if N < 2 then 0 else B / 10000 ^ (N - 2) % 10000) + 1) * (B * 10000 ^ t) ≤ A := by
  rcases Nat.lt_or_ge (t + N) 2 with h | h
  · obtain rfl : N = 1 := by omega
    obtain rfl : t = 0 := by omega
    simp only [Nat.zero_add, Nat.sub_self, Nat.pow_zero, Nat.pow_one, Nat.div_one, Nat.mul_one, if_pos (show 1 < 2 by decide), Nat.add_zero] at *
    rw [show (A / 10000 % 10000 * 10000 + A % 10000) = A by omega, Nat.mod_eq_of_lt hB]
    have h1 := Nat.div_mul_le_self (A * 10000) (B * 10000 + 1)
    generalize A * 10000 / (B * 10000 + 1) = E at *
    have h2 : E * (B * 10000 + 1) = E * B * 10000 + E := by rw [Nat.mul_add, Nat.mul_one, Nat.mul_assoc]
    omega
  · obtain ⟨k, hk⟩ : ∃ k, t + N = k + 2 := ⟨t + N - 2, by omega⟩
    rw [hk] at hA ⊢
    rw [if_neg (by omega), show k + 2 - 1 = k + 1 by omega, show k + 2 - 2 = k by omega, est_hi hA]
    rcases Nat.lt_or_ge N 2 with g | g
    · obtain rfl : N = 1 := by omega
      obtain rfl : t = k + 1 := by omega
      rw [if_pos g, Nat.sub_self, Nat.pow_zero, Nat.div_one, Nat.mod_eq_of_lt (by rw [Nat.pow_one] at hB; exact hB), Nat.add_zero]
      have h1 := Nat.div_mul_le_self (A / 10000 ^ k) (B * 10000 + 1)
      have h2 := Nat.div_mul_le_self A (10000 ^ k)
      generalize A / 10000 ^ k / (B * 10000 + 1) = E at *
      calc E * (B * 10000 ^ (k + 1)) = E * (B * 10000) * 10000 ^ k := by rw [Nat.pow_succ]; ac_rfl
        _ ≤ E * (B * 10000 + 1) * 10000 ^ k := Nat.mul_le_mul_right _ (Nat.mul_le_mul_left _ (by omega))
        _ ≤ A / 10000 ^ k * 10000 ^ k := Nat.mul_le_mul_right _ h1
        _ ≤ A := h2
    · obtain ⟨j, rfl⟩ : ∃ j, N = j + 2 := ⟨N - 2, by omega⟩
      rw [if_neg (by omega), show j + 2 - 1 = j + 1 by omega, show j + 2 - 2 = j by omega, est_lo hB]
      obtain rfl : k = t + j := by omega
      have h1 := Nat.div_mul_le_self (A / 10000 ^ (t + j)) (B / 10000 ^ j + 1)
      have h2 := Nat.div_mul_le_self A (10000 ^ (t + j))
      have h3 : B ≤ (B / 10000 ^ j + 1) * 10000 ^ j := Nat.le_of_lt (Nat.lt_mul_of_div_lt (Nat.lt_succ_self _) (Nat.pow_pos (by decide)))
      generalize A / 10000 ^ (t + j) / (B / 10000 ^ j + 1) = E at *
      calc E * (B * 10000 ^ t) ≤ E * ((B / 10000 ^ j + 1) * 10000 ^ j * 10000 ^ t) := Nat.mul_le_mul_left _ (Nat.mul_le_mul_right _ h3)
        _ = E * (B / 10000 ^ j + 1) * 10000 ^ (t + j) := by rw [Nat.pow_add]; ac_rfl
        _ ≤ A / 10000 ^ (t + j) * 10000 ^ (t + j) := Nat.mul_le_mul_right _ h1
        _ ≤ A := h2
theorem est0 {A B : Nat} (hA : A < 10000 ^ 2) : (((A / 10000 ^ 1 % 10000 * 10000 + A / 10000 ^ 0 % 10000) * 10000 + 0) / 10000) / (B + 1) * B ≤ A := by
  rw [Nat.pow_one, Nat.pow_zero, Nat.div_one, Nat.add_zero, Nat.mul_div_cancel _ (by decide), show (A / 10000 % 10000 * 10000 + A % 10000) = A by omega]
  exact Nat.le_trans (Nat.mul_le_mul_left _ (Nat.le_succ B)) (Nat.div_mul_le_self A (B + 1))
theorem mI_ti {t : Nat} (h : t < 2 ^ 31) : (mI t).toInt = (t : Int) - 1 := by
  rcases Nat.eq_zero_or_pos t with e | e
  · subst e; decide
  · rw [mI_p e, nI_toInt (by omega)]; omega
theorem mI_lt {t p : Nat} (h : t < 2 ^ 31) (hp : p < 2 ^ 31) : mI t < nI p ↔ t ≤ p := by
  rw [Int32.lt_iff_toInt_lt, mI_ti h, nI_toInt hp]; omega
theorem i32_sub_le {u w : Nat} (hu : u < 2 ^ 30) (hw : w < 2 ^ 30) : nI u - nI w ≤ 0 ↔ u ≤ w := by
  rw [Int32.le_iff_toInt_le, pk_sub_toInt hu hw]
  show (u : Int) - w ≤ 0 ↔ u ≤ w
  omega
theorem i32_sub_lt {u w : Nat} (hu : u < 2 ^ 30) (hw : w < 2 ^ 30) : nI u - nI w < 0 ↔ u < w := by
  rw [Int32.lt_iff_toInt_lt, pk_sub_toInt hu hw]
  show (u : Int) - w < 0 ↔ u < w
  omega
theorem pcl_num {c n : Nat → Nat} {i k : Nat} (hB : ∀ q, c q < 10000) : pcl c n i k = nvb 10000 (nsh c (128 * i)) (n i) / 10000 ^ k % 10000 := by
  unfold pcl
  split
  · rename_i h
    exact (nvb_limb h (fun q _ => hB _)).symm
  · rename_i h
    rw [Nat.div_eq_of_lt (Nat.lt_of_lt_of_le (nvb_lt (b := 10000) (f := nsh c (128 * i)) (n := n i) (fun q _ => hB _)) (Nat.pow_le_pow_right (by decide) (by omega)))]
theorem ho_iff {a : Nat → Nat} {p N B : Nat} (hB : ∀ q, a q < 10000) : B * 10000 ^ p ≤ nvb 10000 a (p + N) ↔ B ≤ nvb 10000 (nsh a p) N := by
  rw [← nvb_div p N (fun q _ => hB q), Nat.le_div_iff_mul_le (Nat.pow_pos (by decide))]
theorem tk_inv {h a b : Nat → Nat} {p t E cr dg cr9 : Nat} (hS : nvb 10000 h (p + t) + E * nvb 10000 b t * 10000 ^ p = nvb 10000 a (p + t) + cr * 10000 ^ (p + t)) (e : dg + (cr + E * b t) = a (p + t) + cr9 * 10000) : nvb 10000 (va_up h (p + t) dg) (p + (t + 1)) + E * nvb 10000 b (t + 1) * 10000 ^ p = nvb 10000 a (p + (t + 1)) + cr9 * 10000 ^ (p + (t + 1)) := by
  have := nvb_borrow (b := 10000) (h := h) (t := p + t) (bw := cr) (x := a (p + t)) (y := E * b t) (dg := dg) (bw' := cr9) hS (by omega)
  rw [nvb_succ 10000 b t, show E * (nvb 10000 b t + b t * 10000 ^ t) * 10000 ^ p = E * nvb 10000 b t * 10000 ^ p + E * b t * 10000 ^ (p + t) by rw [Nat.pow_add]; grind]
  exact this
theorem nvb_put {b : Nat} {f : Nat → Nat} {n t v : Nat} (ht : t < n) (h0 : f t = 0) : nvb b (va_up f t v) n = nvb b f n + v * b ^ t := by
  induction n with
  | zero => omega
  | succ n ih =>
    rcases Nat.eq_or_lt_of_le (Nat.le_of_lt_succ ht) with e | e
    · subst e
      rw [nvb_upS, nvb_succ, h0, Nat.zero_mul, Nat.add_zero]
    · rw [nvb_succ, nvb_succ, ih e, hw_up_ne (by omega)]
      omega
theorem Mc.up2 {c c1 n y : Nat → Nat} {i q k k2 x x2 : Nat} (h : Mc c n y) (hB : ∀ p, c1 p < 10000) (ho : ∀ p, (p < 128 * i ∨ 128 * i + 128 ≤ p) → (p < 128 * q ∨ 128 * q + 128 ≤ p) → c1 p = c p) (hk : k ≤ 128) (hk2 : k2 ≤ 128) (hn : nOk 10000 k (nsh c1 (128 * i)) x) (hn2 : nOk 10000 k2 (nsh c1 (128 * q)) x2) : Mc c1 (va_up (va_up n i k) q k2) (va_up (va_up y i x) q x2) := by
  refine ⟨hB, fun j hj => ?_⟩
  by_cases e2 : j = q
  · subst e2
    rw [hw_up_eq, hw_up_eq]
    exact ⟨hk2, hn2⟩
  · rw [hw_up_ne e2, hw_up_ne e2]
    by_cases e : j = i
    · subst e
      rw [hw_up_eq, hw_up_eq]
      exact ⟨hk, hn⟩
    · rw [hw_up_ne e, hw_up_ne e]
      obtain ⟨h1, h2, h3, h4⟩ := h.2 j hj
      have key : ∀ q, q < 128 → nsh c1 (128 * j) q = nsh c (128 * j) q := fun q hq => ho _ (by omega) (by omega)
      refine ⟨h1, fun q => hB _, fun hp => ?_, ?_⟩
      · rw [key _ (by omega)]
        exact h3 hp
      · rw [nvb_congr (fun q hq => key q (by omega))]
        exact h4
theorem qr_of {Q R a b : Nat} (h : Q * b + R = a) (hR : R < b) : R = a % b ∧ Q = a / b := by
  have hb : 0 < b := by omega
  subst h
  rw [Nat.mul_comm Q b, Nat.mul_add_mod, Nat.mod_eq_of_lt hR, Nat.mul_add_div hb, Nat.div_eq_of_lt hR]
  exact ⟨rfl, rfl⟩
theorem dlen_top4 {n x T : Nat} {h : Nat → Nat} (hk : nOk 10000 n h x) (hn : 0 < n) (hT : 1 ≤ T) (h1 : 10 ^ (T - 1) ≤ h (n - 1)) (h2 : h (n - 1) < 10 ^ T) : dlen ((n - 1) * 4 + T) x := by
  obtain ⟨k, rfl⟩ : ∃ k, n = k + 1 := ⟨n - 1, by omega⟩
  rw [Nat.add_sub_cancel] at *
  have e1 := hk.2.2
  rw [nvb_succ] at e1
  have e2 := nvb_lt (b := 10000) (f := h) (n := k) (fun j _ => hk.1 j)
  have e3 : (h k + 1) * 10000 ^ k ≤ 10 ^ T * 10000 ^ k := Nat.mul_le_mul_right _ h2
  have e4 : 10 ^ (T - 1) * 10000 ^ k ≤ h k * 10000 ^ k := Nat.mul_le_mul_right _ h1
  have e5 : ∀ m, 10 ^ (k * 4 + m) = 10 ^ m * 10000 ^ k := fun m => by rw [show (10000 : Nat) = 10 ^ 4 from rfl, ← Nat.pow_mul, ← Nat.pow_add]; congr 1; omega
  rw [Nat.add_mul, Nat.one_mul] at e3
  refine ⟨by omega, by rw [e5]; omega, fun _ => ?_⟩
  rw [show k * 4 + T - 1 = k * 4 + (T - 1) by omega, e5]
  omega

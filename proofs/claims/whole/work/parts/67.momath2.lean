theorem sgI_ne {u : Rg} (h : u.1 ≠ 0) : sgI u = if u.2.2 then -1 else nI 1 := if_neg h
theorem sgI_z {u : Rg} (h : u.1 = 0) : sgI u = nI 0 := if_pos h
theorem sgI_eq0 {u : Rg} : sgI u = 0 ↔ u.1 = 0 := by
  by_cases h : u.1 = 0
  · rw [sgI_z h]; exact ⟨fun _ => h, fun _ => rfl⟩
  · rw [sgI_ne h]
    refine ⟨fun k => ?_, fun k => absurd k h⟩
    exfalso
    cases hs : u.2.2 <;> rw [hs] at k <;> revert k <;> decide
theorem sgI_neg {u : Rg} (ho : u.1 = 0 → u.2.2 = false) : sgI u < 0 ↔ u.2.2 = true := by
  by_cases h : u.1 = 0
  · rw [sgI_z h, ho h]; decide
  · rw [sgI_ne h]
    cases hs : u.2.2 <;> decide
theorem sgI_opp {u : Rg} {b : Bool} (h : b = u.2.2) : -sgI u = sgI (u.1, u.2.1, !b) := by
  subst h
  by_cases h : u.1 = 0
  · rw [sgI_z h, sgI_z (u := (u.1, u.2.1, !u.2.2)) h]; decide
  · rw [sgI_ne h, sgI_ne (u := (u.1, u.2.1, !u.2.2)) h]
    show -(if u.2.2 = true then (-1 : Int32) else nI 1) = if (!u.2.2) = true then (-1 : Int32) else nI 1
    cases u.2.2 <;> decide
theorem sgI_mul {u v : Rg} (h : u.1 ≠ 0) (k : v.1 ≠ 0) : sgI u * sgI v = if (u.2.2 != v.2.2) then -1 else nI 1 := by
  rw [sgI_ne h, sgI_ne k]
  cases u.2.2 <;> cases v.2.2 <;> decide
theorem sgI_same {u v : Rg} (h : u.1 ≠ 0) (k : v.1 ≠ 0) : sgI u = sgI v ↔ u.2.2 = v.2.2 := by
  rw [sgI_ne h, sgI_ne k]
  cases u.2.2 <;> cases v.2.2 <;> decide
/-- the three ways of a sum -/
theorem sum_plus {u v : Rg} {nb : Bool} {l r : Nat} (hu : u.1 = 0 → l = 0) (hl : l = 0 → u.1 = 0) (hr : v.1 = 0 ↔ r = 0) (h : sgI u = sgI (v.1, v.2.1, nb) ∨ sgI (v.1, v.2.1, nb) = 0) (ho : u.1 = 0 → u.2.2 = false) : l + r = tot l r u.2.2 nb ∧ (tot l r u.2.2 nb ≠ 0 → sgI u = if tots l r u.2.2 nb then -1 else nI 1) := by
  by_cases hv : v.1 = 0
  · have hr0 := hr.mp hv
    subst hr0
    have e1 : tot l 0 u.2.2 nb = l := by unfold tot; split; rfl; rw [if_pos (Nat.zero_le _)]; rfl
    have e2 : tots l 0 u.2.2 nb = u.2.2 := by unfold tots; split; rfl; rw [if_pos (Nat.zero_le _)]
    rw [e1, e2]
    exact ⟨rfl, fun hne => sgI_ne (fun h0 => hne (hu h0))⟩
  · have h1 : sgI u = sgI (v.1, v.2.1, nb) := h.resolve_right (fun q => hv (sgI_eq0 (u := (v.1, v.2.1, nb)) |>.mp q))
    have hu0 : u.1 ≠ 0 := fun q => by
      rw [sgI_z q] at h1
      exact hv (sgI_eq0 (u := (v.1, v.2.1, nb)) |>.mp h1.symm)
    have hs : u.2.2 = nb := (sgI_same (v := (v.1, v.2.1, nb)) hu0 hv).mp h1
    have e1 : tot l r u.2.2 nb = l + r := if_pos hs
    have e2 : tots l r u.2.2 nb = u.2.2 := if_pos hs
    rw [e1, e2]
    exact ⟨rfl, fun _ => sgI_ne hu0⟩
theorem sum_less {u v : Rg} {nb : Bool} {l r : Nat} (hu : u.1 = 0 ↔ l = 0) (hr : v.1 = 0 ↔ r = 0) (h1 : ¬ sgI u = sgI (v.1, v.2.1, nb)) (h2 : ¬ sgI (v.1, v.2.1, nb) = 0) (hle : r ≤ l) : l - r = tot l r u.2.2 nb ∧ (tot l r u.2.2 nb ≠ 0 → sgI u = if tots l r u.2.2 nb then -1 else nI 1) := by
  have hv : v.1 ≠ 0 := fun q => h2 (sgI_eq0.mpr q)
  have hu0 : u.1 ≠ 0 := fun q => hv (hr.mpr (by have := hu.mp q; omega))
  have hs : ¬ u.2.2 = nb := fun q => h1 ((sgI_same (v := (v.1, v.2.1, nb)) hu0 hv).mpr q)
  have e1 : tot l r u.2.2 nb = l - r := by unfold tot; rw [if_neg hs, if_pos hle]
  have e2 : tots l r u.2.2 nb = u.2.2 := by unfold tots; rw [if_neg hs, if_pos hle]
  rw [e1, e2]
  exact ⟨rfl, fun _ => sgI_ne hu0⟩
theorem sum_more {u v : Rg} {nb : Bool} {l r : Nat} (hu : u.1 = 0 ↔ l = 0) (hr : v.1 = 0 ↔ r = 0) (h1 : ¬ sgI u = sgI (v.1, v.2.1, nb)) (h2 : ¬ sgI (v.1, v.2.1, nb) = 0) (hlt : l < r) (ho : u.1 = 0 → u.2.2 = false) : r - l = tot l r u.2.2 nb ∧ (tot l r u.2.2 nb ≠ 0 → sgI (v.1, v.2.1, nb) = if tots l r u.2.2 nb then -1 else nI 1) := by
  have hv : v.1 ≠ 0 := fun q => h2 (sgI_eq0.mpr q)
  have e9 : sgI (v.1, v.2.1, nb) = if nb then -1 else nI 1 := sgI_ne (u := (v.1, v.2.1, nb)) hv
  by_cases hs : u.2.2 = nb
  · have hu0 : u.1 = 0 := Classical.byContradiction (fun q => h1 ((sgI_same (v := (v.1, v.2.1, nb)) q hv).mpr hs))
    have hl0 := hu.mp hu0
    have e1 : tot l r u.2.2 nb = l + r := if_pos hs
    have e2 : tots l r u.2.2 nb = u.2.2 := if_pos hs
    rw [e1, e2, e9, hs]
    exact ⟨by omega, fun _ => rfl⟩
  · have e1 : tot l r u.2.2 nb = r - l := by unfold tot; rw [if_neg hs, if_neg (by omega)]
    have e2 : tots l r u.2.2 nb = nb := by unfold tots; rw [if_neg hs, if_neg (by omega)]
    rw [e1, e2, e9]
    exact ⟨rfl, fun _ => rfl⟩
theorem rnd_pos {N D : Nat} (hD : 0 < D) : (N * 2 + D) / (D * 2) = N / D + (if D ≤ 2 * (N % D) then 1 else 0) := by
  have h := Nat.div_add_mod N D
  have hR := Nat.mod_lt N hD
  generalize N / D = q at *
  generalize N % D = R at *
  subst h
  rw [show (D * q + R) * 2 + D = D * 2 * q + (2 * R + D) by rw [Nat.add_mul, Nat.mul_right_comm]; omega, Nat.mul_add_div (by omega)]
  congr 1
  split
  · rw [Nat.div_eq_iff (by omega)]; omega
  · exact Nat.div_eq_of_lt (by omega)
theorem rnd_neg {N D : Nat} (hD : 0 < D) (h2 : D < N * 2) : (N * 2 - D) / (D * 2) + (if (N * 2 - D) % (D * 2) ≠ 0 then 1 else 0) = N / D + (if D < 2 * (N % D) then 1 else 0) := by
  have h := Nat.div_add_mod N D
  have hR := Nat.mod_lt N hD
  generalize N / D = q at *
  generalize N % D = R at *
  subst h
  have e0 : (D * q + R) * 2 = D * 2 * q + 2 * R := by rw [Nat.add_mul, Nat.mul_right_comm]; omega
  rw [e0] at h2 ⊢
  by_cases hc : D < 2 * R
  · rw [show D * 2 * q + 2 * R - D = D * 2 * q + (2 * R - D) by omega, Nat.mul_add_div (by omega), Nat.mul_add_mod, Nat.div_eq_of_lt (by omega), Nat.mod_eq_of_lt (by omega), if_pos (by omega), if_pos hc]
  · rw [if_neg hc]
    obtain ⟨k, rfl⟩ : ∃ k, q = k + 1 := ⟨q - 1, by
      rcases Nat.eq_zero_or_pos q with e | e
      · subst e; omega
      · omega⟩
    have e1 : D * 2 * (k + 1) = D * 2 * k + D * 2 := Nat.mul_succ _ _
    rcases Nat.eq_or_lt_of_le (Nat.not_lt.mp hc) with e | e
    · rw [e1, show D * 2 * k + D * 2 + 2 * R - D = D * 2 * (k + 1) by omega, Nat.mul_div_cancel_left _ (by omega), Nat.mul_mod_right]
      rfl
    · rw [e1, show D * 2 * k + D * 2 + 2 * R - D = D * 2 * k + (D + 2 * R) by omega, Nat.mul_add_div (by omega), Nat.mul_add_mod, Nat.div_eq_of_lt (by omega), Nat.mod_eq_of_lt (by omega), if_pos (by omega)]
theorem rnd_low {N D : Nat} (hD : 0 < D) (h2 : N * 2 ≤ D) : (D - N * 2) / (D * 2) = 0 ∧ N / D + (if D < 2 * (N % D) then 1 else 0) = 0 := by
  refine ⟨Nat.div_eq_of_lt (by omega), ?_⟩
  rw [Nat.div_eq_of_lt (by omega), Nat.mod_eq_of_lt (by omega), if_neg (by omega)]
theorem cmp_zero {u v : Rg} (h : u.1 = 0) (k : v.1 = 0) : cmpN (u.1 * v.2.1) (v.1 * u.2.1) = 0 := cmpN_eq (by rw [h, k, Nat.zero_mul, Nat.zero_mul])
theorem neg_cmp {a b : Nat} : (-1 : Int32) * cmpN a b = cmpN b a := by
  rcases Nat.lt_trichotomy a b with h | h | h
  · rw [cmpN_lt h, cmpN_gt h]; decide
  · rw [cmpN_eq h, cmpN_eq h.symm]; decide
  · rw [cmpN_gt h, cmpN_lt h]; decide
/-- the reference's order -/
theorem cmp_same {u v : Rg} (hu : Okr u) (hv : Okr v) (h : sgI u = sgI v) : sgI u * cmpN (u.1 * v.2.1) (v.1 * u.2.1) = ordF u.1 u.2.1 v.1 v.2.1 u.2.2 v.2.2 := by
  by_cases h0 : u.1 = 0
  · have k0 : v.1 = 0 := by rw [sgI_z h0] at h; exact sgI_eq0.mp h.symm
    rw [cmp_zero h0 k0, hu.2.2.2.2 h0, hv.2.2.2.2 k0]
    unfold ordF
    rw [if_pos rfl, if_neg (by decide), cmp_zero h0 k0]
    exact Int32.mul_zero
  · have k0 : v.1 ≠ 0 := fun q => by rw [sgI_z q] at h; exact h0 (sgI_eq0.mp h)
    have hs := (sgI_same h0 k0).mp h
    unfold ordF
    rw [if_pos hs, sgI_ne h0]
    cases e : u.2.2
    · rw [if_neg (by decide), if_neg (by decide)]
      exact Int32.one_mul _
    · rw [if_pos rfl, if_pos rfl]
      exact neg_cmp
theorem cmp_diff {u v : Rg} (hu : Okr u) (hv : Okr v) (h : ¬ sgI u = sgI v) : (if sgI u < sgI v then (-1 : Int32) else nI 1) = ordF u.1 u.2.1 v.1 v.2.1 u.2.2 v.2.2 := by
  by_cases h0 : u.1 = 0
  · have k0 : v.1 ≠ 0 := fun q => h (by rw [sgI_z h0, sgI_z q])
    rw [sgI_z h0, sgI_ne k0, hu.2.2.2.2 h0]
    unfold ordF
    cases e : v.2.2
    · rw [if_pos (by decide), if_pos rfl, if_neg (by decide), cmpN_lt (by rw [h0, Nat.zero_mul]; exact Nat.mul_pos (by omega) hu.2.2.1)]
    · rw [if_neg (by decide), if_neg (by decide), if_neg (by decide)]; rfl
  · by_cases k0 : v.1 = 0
    · rw [sgI_z k0, sgI_ne h0, hv.2.2.2.2 k0]
      unfold ordF
      cases e : u.2.2
      · rw [if_neg (by decide), if_pos rfl, if_neg (by decide), cmpN_gt (by rw [k0, Nat.zero_mul]; exact Nat.mul_pos (by omega) hv.2.2.1)]; rfl
      · rw [if_pos (by decide), if_neg (by decide), if_pos rfl]
    · have hs : ¬ u.2.2 = v.2.2 := fun q => h ((sgI_same h0 k0).mpr q)
      unfold ordF
      rw [if_neg hs, sgI_ne h0, sgI_ne k0]
      revert hs
      cases u.2.2 <;> cases v.2.2 <;> decide
theorem pow_gcd {a b : Nat} (h : Nat.gcd a b = 1) (n : Nat) : Nat.gcd (a ^ n) (b ^ n) = 1 := Nat.Coprime.pow n n h
theorem lows_pow {u : Rg} (hu : Okr u) (n : Nat) : lows (u.1 ^ n) (u.2.1 ^ n) (u.2.2 && decide (n % 2 = 1)) = (u.1 ^ n, u.2.1 ^ n, u.2.2 && decide (n % 2 = 1)) := by
  unfold lows
  rw [pow_gcd hu.2.2.2.1, Nat.div_one, Nat.div_one]
  unfold sgz
  split
  · rename_i h
    have h0 : u.1 = 0 := by
      rcases Nat.eq_zero_or_pos u.1 with e | e
      · exact e
      · have := Nat.pow_pos (n := n) e; omega
    rw [hu.2.2.2.2 h0]; rfl
  · rfl
theorem lows_one {n : Nat} : lows n 1 false = (n, 1, false) := by
  unfold lows sgz
  rw [Nat.gcd_one_right, Nat.div_one, Nat.div_one, ite_self]
theorem fit_pow {u : Rg} (hu : Okr u) {t n : Nat} (htn : t ≤ n) {s : Bool} (h : ¬ (u.1 ^ t < nB ^ 20 ∧ u.2.1 ^ t < nB ^ 20)) : ¬ fitR (u.1 ^ n, u.2.1 ^ n, s) = true := by
  intro hf
  have hf := of_decide_eq_true hf
  apply h
  refine ⟨?_, Nat.lt_of_le_of_lt (Nat.pow_le_pow_right hu.2.2.1 htn) hf.2⟩
  rcases Nat.eq_zero_or_pos u.1 with e | e
  · rw [e]
    rcases Nat.eq_zero_or_pos t with q | q
    · subst q; decide
    · rw [Nat.zero_pow q]; exact Nat.pow_pos (by decide)
  · exact Nat.lt_of_le_of_lt (Nat.pow_le_pow_right e htn) hf.1
theorem shr_sum {N : Nat} {wt : Nat → Nat} {S : Nat} (n : Nat) : sumN (fun j => N * wt j / S) n * S + sumN (fun j => N * wt j % S) n = N * sumN wt n := by
  induction n with
  | zero => simp [sumN]
  | succ n ih =>
    show (sumN (fun j => N * wt j / S) n + N * wt n / S) * S + (sumN (fun j => N * wt j % S) n + N * wt n % S) = N * (sumN wt n + wt n)
    have := Nat.div_add_mod (N * wt n) S
    rw [Nat.mul_add, Nat.add_mul, ← ih, Nat.mul_comm (N * wt n / S) S]
    omega
theorem shr_left {N : Nat} {wt : Nat → Nat} (hS : 0 < sumN wt 10) : sumN (fun j => N * wt j / sumN wt 10) 10 ≤ N ∧ (N - sumN (fun j => N * wt j / sumN wt 10) 10) * sumN wt 10 = sumN (shR N wt) 10 ∧ ∀ k, (k < N - sumN (fun j => N * wt j / sumN wt 10) 10 ↔ (k + 1) * sumN wt 10 ≤ sumN (shR N wt) 10) := by
  have h := shr_sum (N := N) (wt := wt) (S := sumN wt 10) 10
  have e : sumN (shR N wt) 10 = sumN (fun j => N * wt j % sumN wt 10) 10 := rfl
  rw [← e] at h
  generalize sumN (fun j => N * wt j / sumN wt 10) 10 = P at *
  generalize sumN (shR N wt) 10 = R at *
  generalize sumN wt 10 = S at *
  have hP : P ≤ N := Nat.le_of_mul_le_mul_right (c := S) (by omega) hS
  have hL : (N - P) * S = R := by rw [Nat.sub_mul]; omega
  refine ⟨hP, hL, fun k => ?_⟩
  rw [← hL]
  exact ⟨fun q => Nat.mul_le_mul_right _ q, fun q => Nat.le_of_mul_le_mul_right q hS⟩
theorem inR_nat {n : Int32} {lo hi : Nat} (h : inR n lo hi = true) (h1 : lo < 2 ^ 31) (h2 : hi < 2 ^ 31) : ∃ j, lo ≤ j ∧ j ≤ hi ∧ n = nI j := by
  have h9 := (inR_iff h1 h2).mp h
  refine ⟨n.toInt.toNat, by omega, by omega, Int32.toInt_inj.mp ?_⟩
  rw [nI_toInt (by omega)]
  omega
theorem vr_nat {n : Int32} (h : vr n = true) : ∃ j, j < 16 ∧ n = nI j := by
  obtain ⟨j, _, h2, h3⟩ := inR_nat h (by decide) (by decide)
  exact ⟨j, by omega, h3⟩
theorem and3 {a b c : Bool} (h : (a && b && c) = true) : a = true ∧ b = true ∧ c = true := by revert h; cases a <;> cases b <;> cases c <;> decide
theorem Okr.lt4 {u : Rg} (h : Okr u) : u.1 < 10000 ^ 45 ∧ u.2.1 < 10000 ^ 45 := by rw [m45]; exact ⟨h.1, h.2.1⟩
theorem p90 {a b : Nat} (ha : a < 10000 ^ 45) (hb : b < 10000 ^ 45) : a * b < 10000 ^ 90 := by
  rw [show (90 : Nat) = 45 + 45 from rfl, Nat.pow_add]
  exact Nat.mul_lt_mul'' ha hb
theorem p4 {a k : Nat} (n : Nat) (h : a < 10000 ^ k) (hk : k ≤ n) : a < 10000 ^ n := Nat.lt_of_lt_of_le h (Nat.pow_le_pow_right (by decide) hk)
theorem mul0 {a b : Nat} (hb : 0 < b) : a = 0 ↔ a * b = 0 := ⟨fun h => by rw [h, Nat.zero_mul], fun h => (Nat.mul_eq_zero.mp h).resolve_right (by omega)⟩

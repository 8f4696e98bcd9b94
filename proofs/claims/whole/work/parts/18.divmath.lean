theorem lN_z3 (a b c : Nat) : lN a - lN b - lN c = zL ((a : Int) - b - c) := by rw [zL_lN, zL_lN, zL_lN, zL_sub, zL_sub]
theorem fl_step0 {a y bw : Nat} (ha : a < 1000000000) (hy : y ≤ 999999999000000000) (hbw : bw ≤ 1000000000) : ∃ bw2 dg : Nat, dg < 1000000000 ∧ bw2 ≤ 1000000000 ∧ dg + y + bw = a + bw2 * 1000000000 ∧ -(((a : Int) - y - bw) / 1000000000) = (bw2 : Int) := by
  refine ⟨(-(((a : Int) - y - bw) / 1000000000)).toNat, (((a : Int) - y - bw) % 1000000000).toNat, ?_, ?_, ?_, ?_⟩ <;> omega
/-- a step of taking off: digit and borrow -/
theorem fl_step {a y bw : Nat} (ha : a < nB) (hy : y ≤ 999999999000000000) (hbw : bw ≤ nB) : ∃ bw2 dg : Nat, dg < nB ∧ bw2 ≤ nB ∧ dg + y + bw = a + bw2 * nB ∧ -(((a : Int) - y - bw) / (nB : Int)) = (bw2 : Int) := fl_step0 ha hy hbw
theorem zL_dig {d : Int} {bw2 dg : Nat} (h : d + (bw2 : Int) * (nB : Int) = (dg : Int)) : zL d + lN (bw2 * nB) = lN dg := by
  rw [zL_lN, zL_lN, zL_add, ← h]
  congr 1
theorem lN_wrap {a b : Nat} (h : b ≤ a + 2 ^ 64) : lN a - lN b = lN (a + 2 ^ 64 - b) := by
  rw [← lN_sub h, ← lN_add, show lN (2 ^ 64) = 0 from by decide, Int64.add_zero]
theorem lN_neg {d : Nat} (h0 : 0 < d) (h : d ≤ 2 ^ 62) : lN (2 ^ 64 - d) < lN 0 := by
  have e : lN (2 ^ 64 - d) = zL (-(d : Int)) := by
    have := lN_wrap (a := 0) (b := d) (by omega)
    rw [Nat.zero_add] at this
    rw [← this, zL_lN, zL_lN, zL_sub]
    congr 1
    omega
  rw [e, zL_lN]
  exact (zL_lt (by omega) (by omega) (by decide) (by decide)).mpr (by omega)
/-- the true limb was guessed: nothing is borrowed beyond the top -/
theorem tk_good {B Pn U V lo Ulo ut bw t : Nat} (hU : U = Ulo + ut * Pn) (hS : lo + t * V = Ulo + bw * Pn) (hV : V ≤ Pn) (hV0 : 0 < V) (hq : U / V ≤ t) (hc : bw ≤ ut) : t = U / V ∧ ut = bw ∧ lo = U % V := by
  have e1 : U = lo + (ut - bw) * Pn + t * V := by
    have : ut * Pn = (ut - bw) * Pn + bw * Pn := by rw [← Nat.add_mul]; congr 1; omega
    omega
  have e2 : t ≤ U / V := (Nat.le_div_iff_mul_le hV0).mpr (by omega)
  have e3 : t = U / V := Nat.le_antisymm e2 hq
  have e4 := Nat.div_add_mod U V
  have e5 := Nat.mod_lt U hV0
  rw [← e3, Nat.mul_comm] at e4
  have e6 : lo + (ut - bw) * Pn = U % V := by omega
  have e7 : ut - bw = 0 := by
    rcases Nat.eq_zero_or_pos (ut - bw) with h | h
    · exact h
    · have : 1 * Pn ≤ (ut - bw) * Pn := Nat.mul_le_mul_right _ h
      omega
  refine ⟨e3, by omega, ?_⟩
  rw [e7, Nat.zero_mul] at e6
  omega
/-- one too many: the divisor goes back once -/
theorem tk_over {Pn U V lo Ulo ut bw t lo2 cr : Nat} (hU : U = Ulo + ut * Pn) (hS : lo + t * V = Ulo + bw * Pn) (hV : V < Pn) (hV0 : 0 < V) (hlo : lo < Pn) (hlo2 : lo2 < Pn) (hq : t ≤ U / V + 1) (hc : ut < bw) (hcr : cr ≤ 1) (hB : lo2 + cr * Pn = lo + V) : t - 1 = U / V ∧ 1 ≤ t ∧ ut + 1 = bw ∧ cr = 1 ∧ lo2 = U % V := by
  have hd : bw * Pn = ut * Pn + (bw - ut) * Pn := by rw [← Nat.add_mul]; congr 1; omega
  have hd1 : 1 * Pn ≤ (bw - ut) * Pn := Nat.mul_le_mul_right _ (by omega)
  have e0 : U + (bw - ut) * Pn = lo + t * V := by omega
  have e1 : U < t * V := by omega
  have e2 : U / V < t := (Nat.div_lt_iff_lt_mul hV0).mpr e1
  have e3 : t = U / V + 1 := by omega
  have e4 := Nat.div_add_mod U V
  have e5 := Nat.mod_lt U hV0
  have e6 : t * V = V * (U / V) + V := by rw [e3, Nat.add_mul, Nat.one_mul, Nat.mul_comm]
  have e7 : (bw - ut) * Pn + U % V = lo + V := by omega
  generalize U / V = q at *
  generalize U % V = w at *
  have e8 : bw - ut = 1 := by
    rcases Nat.lt_or_ge 1 (bw - ut) with h | h
    · have : 2 * Pn ≤ (bw - ut) * Pn := Nat.mul_le_mul_right _ h
      omega
    · omega
  rw [e8, Nat.one_mul] at e7
  have e9 : cr = 1 := by
    rcases Nat.eq_zero_or_pos cr with h | h
    · rw [h, Nat.zero_mul] at hB; omega
    · omega
  rw [e9, Nat.one_mul] at hB
  exact ⟨by omega, by omega, by omega, e9, by omega⟩
/-- the top of rows, as a guess sees it -/
theorem kd_of {u w : Nat → Nat} {p n : Nat} (hn : 2 ≤ n) (hu : ∀ q, q ≤ n → u (p + q) < nB) (hw : ∀ q, q < n → w q < nB) (ht : nB ≤ 2 * w (n - 1)) (hlt : nvb nB (nsh u p) (n + 1) < nvb nB w n * nB) : ∃ W U0 V0, kd_at nB (w (n - 1)) (w (n - 2)) (u (p + n) * nB + u (p + n - 1)) (u (p + n - 2)) W U0 V0 (nvb nB (nsh u p) (n + 1)) (nvb nB w n) := by
  obtain ⟨k, rfl⟩ : ∃ k, n = k + 2 := ⟨n - 2, by omega⟩
  refine ⟨nB ^ k, nvb nB (nsh u p) k, nvb nB w k, nB1, ht, hw _ (by omega), hw _ (by omega), ?_, nvb_lt (fun j hj => hu j (by omega)), nvb_lt (fun j hj => hw j (by omega)), ?_, ?_, hlt⟩
  · have := hu k (by omega)
    rw [show p + (k + 2) - 2 = p + k by omega]
    exact this
  · rw [show k + 2 - 1 = k + 1 by omega, show k + 2 - 2 = k by omega, nvb_succ, nvb_succ, Nat.pow_succ]
    grind
  · rw [show p + (k + 2) - 2 = p + k by omega, show p + (k + 2) - 1 = p + (k + 1) by omega, nvb_succ, nvb_succ, nvb_succ, Nat.pow_succ, Nat.pow_succ]
    unfold nsh
    grind
theorem arrN.at0 {D : va_G} {L : List Nat} {f : Nat → va_E} {a n : Nat} {u u' : Nat → Nat} (h : arrN D L f a n u) (he : ∀ q, lN (u q) = lN (u' q)) : arrN D L f a n u' := by
  unfold arrN at *
  rw [show (fun q => lN (u' q)) = (fun q => lN (u q)) from funext (fun q => (he q).symm)]
  exact h

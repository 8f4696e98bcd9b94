/-! pure facts: the guessed limb of a division (Knuth), Euclid's steps on leading digits (Lehmer), Newton's root -/
theorem kd_le {U V U1 V1 W U0 V0 q : Nat} (hU : U = U1 * W + U0) (hU0 : U0 < W) (hV : V = V1 * W + V0) (h : q * V ≤ U) : q * V1 ≤ U1 := by
  have hW : 0 < W := by omega
  have h1 : q * V1 * W ≤ q * V := by rw [hV, Nat.mul_add, Nat.mul_assoc]; exact Nat.le_add_right _ _
  have h2 : q * V1 * W < (U1 + 1) * W := by
    rw [Nat.add_mul, Nat.one_mul]; omega
  have h3 := Nat.lt_of_mul_lt_mul_right h2
  omega
theorem kd_ge {U V U1 V1 W U0 V0 t : Nat} (hU : U = U1 * W + U0) (hV : V = V1 * W + V0) (hV0 : V0 < W) (h : t * V1 ≤ U1) (ht : t ≤ V1 + 1) : (t - 1) * V ≤ U := by
  rcases Nat.eq_zero_or_pos t with h0 | h0
  · subst h0; simp
  · obtain ⟨k, rfl⟩ : ∃ k, t = k + 1 := ⟨t - 1, by omega⟩
    have h1 : (k + 1) * V1 * W ≤ U1 * W := Nat.mul_le_mul_right _ h
    have h2 : k * V0 ≤ V1 * W := Nat.mul_le_mul (by omega) (by omega)
    have h3 : (k + 1 - 1) * V = k * V1 * W + k * V0 := by rw [Nat.add_sub_cancel, hV, Nat.mul_add, Nat.mul_assoc]
    have h4 : (k + 1) * V1 * W = k * V1 * W + V1 * W := by rw [Nat.add_mul, Nat.one_mul, Nat.add_mul]
    omega
theorem kd_hat {U V h v Z t : Nat} (hU : h * Z ≤ U) (hV : V ≤ (v + 1) * Z) (ht : t * v ≤ h) (hb : t ≤ 2 * v + 2) : (t - 2) * V ≤ U := by
  by_cases h2 : t ≤ 2
  · have : t - 2 = 0 := by omega
    rw [this]; simp
  · obtain ⟨k, rfl⟩ : ∃ k, t = k + 2 := ⟨t - 2, by omega⟩
    have h3 : (k + 2 - 2) * V ≤ k * ((v + 1) * Z) := by rw [Nat.add_sub_cancel]; exact Nat.mul_le_mul_left _ hV
    have h4 : k * (v + 1) ≤ h := by
      have : (k + 2) * v = k * v + 2 * v := by rw [Nat.add_mul]
      rw [Nat.mul_add, Nat.mul_one]; omega
    have h5 : k * ((v + 1) * Z) ≤ h * Z := by rw [← Nat.mul_assoc]; exact Nat.mul_le_mul_right _ h4
    omega
/-- what the walk of a guess knows: the top limb v and the next v2 of the divisor, high and u2 the top of what is left -/
def kd_at (B v v2 high u2 W U0 V0 U V : Nat) : Prop := 1 < B ∧ B ≤ 2 * v ∧ v < B ∧ v2 < B ∧ u2 < B ∧ U0 < W ∧ V0 < W ∧ V = (v * B + v2) * W + V0 ∧ U = (high * B + u2) * W + U0 ∧ U < V * B
theorem kd_at.Vpos {B v v2 high u2 W U0 V0 U V : Nat} (h : kd_at B v v2 high u2 W U0 V0 U V) : 0 < V := by
  obtain ⟨h1, h2, h3, h4, h5, h6, h7, h8, h9, h10⟩ := h
  rcases Nat.eq_zero_or_pos V with e | e
  · rw [e] at h10; omega
  · exact e
theorem kd_at.q {B v v2 high u2 W U0 V0 U V : Nat} (h : kd_at B v v2 high u2 W U0 V0 U V) : U / V < B := by
  have hV := h.Vpos
  obtain ⟨h1, h2, h3, h4, h5, h6, h7, h8, h9, h10⟩ := h
  exact (Nat.div_lt_iff_lt_mul hV).mpr (by rw [Nat.mul_comm]; exact h10)
theorem kd_at.high {B v v2 high u2 W U0 V0 U V : Nat} (h : kd_at B v v2 high u2 W U0 V0 U V) : high < (v + 1) * B := by
  obtain ⟨h1, h2, h3, h4, h5, h6, h7, h8, h9, h10⟩ := h
  have e1 : high * B * W ≤ U := by rw [h9, Nat.add_mul]; omega
  have e2 : V * B ≤ (v * B + B) * W * B := by
    refine Nat.mul_le_mul_right _ ?_
    have : (v * B + v2) * W + V0 ≤ (v * B + v2 + 1) * W := by rw [Nat.add_mul _ 1]; omega
    rw [h8]
    exact Nat.le_trans this (Nat.mul_le_mul_right _ (by omega))
  have e3 : (v * B + B) * W * B = (v + 1) * B * (B * W) := by
    have : v * B + B = (v + 1) * B := by rw [Nat.add_mul, Nat.one_mul]
    rw [this, Nat.mul_assoc, Nat.mul_comm W B]
  have e4 : high * (B * W) < (v + 1) * B * (B * W) := by rw [← Nat.mul_assoc]; omega
  exact Nat.lt_of_mul_lt_mul_right e4
theorem kd_at.top {B v v2 high u2 W U0 V0 U V : Nat} (h : kd_at B v v2 high u2 W U0 V0 U V) : U / V ≤ high / v := by
  have hV := h.Vpos
  obtain ⟨h1, h2, h3, h4, h5, h6, h7, h8, h9, h10⟩ := h
  have hv : 0 < v := by omega
  refine (Nat.le_div_iff_mul_le hv).mpr ?_
  refine kd_le (U := U) (V := V) (W := B * W) (U0 := u2 * W + U0) (V0 := v2 * W + V0) ?_ ?_ ?_ (Nat.div_mul_le_self U V)
  · rw [h9, Nat.add_mul, Nat.mul_assoc, Nat.add_assoc]
  · have : (u2 + 1) * W ≤ B * W := Nat.mul_le_mul_right _ h5
    rw [Nat.add_mul, Nat.one_mul] at this; omega
  · rw [h8, Nat.add_mul, Nat.mul_assoc, Nat.add_assoc]
theorem kd_at.hat {B v v2 high u2 W U0 V0 U V : Nat} (h : kd_at B v v2 high u2 W U0 V0 U V) : high / v ≤ B + 1 ∧ high / v ≤ U / V + 2 := by
  have hV := h.Vpos
  have hh := h.high
  obtain ⟨h1, h2, h3, h4, h5, h6, h7, h8, h9, h10⟩ := h
  have hv : 0 < v := by omega
  have e1 : high / v < B + 2 := (Nat.div_lt_iff_lt_mul hv).mpr (by
    have : (B + 2) * v = v * B + 2 * v := by rw [Nat.add_mul, Nat.mul_comm B v]
    rw [Nat.add_mul, Nat.one_mul] at hh; omega)
  refine ⟨by omega, ?_⟩
  have e2 : (high / v - 2) * V ≤ U := by
    refine kd_hat (h := high) (v := v) (Z := B * W) ?_ ?_ (Nat.div_mul_le_self high v) (by omega)
    · rw [h9, Nat.add_mul, Nat.mul_assoc]; omega
    · have : (v2 + 1) * W ≤ B * W := Nat.mul_le_mul_right _ h4
      rw [Nat.add_mul, Nat.one_mul] at this
      rw [h8, Nat.add_mul, Nat.mul_assoc, Nat.add_mul v 1, Nat.one_mul]; omega
  have := (Nat.le_div_iff_mul_le hV).mpr e2
  omega
/-- t is too great: one less is not too small -/
theorem kd_at.down {B v v2 high u2 W U0 V0 U V t over : Nat} (h : kd_at B v v2 high u2 W U0 V0 U V) (ho : over + t * v = high) (ht : U / V ≤ t) (hc : ¬ (t < B ∧ t * v2 ≤ over * B + u2)) : 0 < t ∧ U / V ≤ t - 1 := by
  have hV := h.Vpos
  have hq := h.q
  obtain ⟨h1, h2, h3, h4, h5, h6, h7, h8, h9, h10⟩ := h
  by_cases hB : t < B
  · have h11 : over * B + u2 < t * v2 := by
      rcases Nat.lt_or_ge (over * B + u2) (t * v2) with h | h
      · exact h
      · exact absurd ⟨hB, h⟩ hc
    have e1 := kd_le h9 h6 h8 (Nat.div_mul_le_self U V)
    have e2 : t * (v * B + v2) = t * v * B + t * v2 := by rw [Nat.mul_add, Nat.mul_assoc]
    have e3 : high * B = over * B + t * v * B := by rw [← ho, Nat.add_mul]
    have e4 : U / V * (v * B + v2) < t * (v * B + v2) := by omega
    have h12 := Nat.lt_of_mul_lt_mul_right e4
    exact ⟨Nat.lt_of_le_of_lt (Nat.zero_le _) h12, Nat.le_sub_one_of_lt h12⟩
  · exact ⟨by omega, by omega⟩
theorem kd_at.good {B v v2 high u2 W U0 V0 U V t over : Nat} (h : kd_at B v v2 high u2 W U0 V0 U V) (ho : over + t * v = high) (hB : t < B) (hc : t * v2 ≤ over * B + u2) : t ≤ U / V + 1 := by
  have hV := h.Vpos
  obtain ⟨h1, h2, h3, h4, h5, h6, h7, h8, h9, h10⟩ := h
  have e2 : t * (v * B + v2) = t * v * B + t * v2 := by rw [Nat.mul_add, Nat.mul_assoc]
  have e3 : high * B = over * B + t * v * B := by rw [← ho, Nat.add_mul]
  have e5 : 1 * B ≤ v * B := Nat.mul_le_mul_right _ (by omega)
  have e4 := kd_ge h9 h8 h7 (t := t) (by omega) (by omega)
  have := (Nat.le_div_iff_mul_le hV).mpr e4
  omega
theorem kd_at.wide {B v v2 high u2 W U0 V0 U V t over : Nat} (h : kd_at B v v2 high u2 W U0 V0 U V) (ho : over + t * v = high) (hB : B ≤ over) : t < B ∧ t * v2 ≤ over * B + u2 := by
  have hh := h.high
  obtain ⟨h1, h2, h3, h4, h5, h6, h7, h8, h9, h10⟩ := h
  have hv : 0 < v := by omega
  have e1 : t * v < B * v := by
    rw [Nat.add_mul, Nat.one_mul] at hh
    have : v * B = B * v := Nat.mul_comm _ _
    omega
  have e2 := Nat.lt_of_mul_lt_mul_right e1
  refine ⟨e2, ?_⟩
  have : t * v2 ≤ B * B := Nat.mul_le_mul (by omega) (by omega)
  have : B * B ≤ over * B := Nat.mul_le_mul_right _ hB
  omega
/-! Lehmer -/
def le_sg (a b c d : Int) : Prop := (0 ≤ a ∧ b ≤ 0 ∧ c ≤ 0 ∧ 0 ≤ d) ∨ (a ≤ 0 ∧ 0 ≤ b ∧ 0 ≤ c ∧ d ≤ 0)
theorem le_lo {U X0 a : Int} (h0 : 0 ≤ X0) (h1 : X0 ≤ U) (ha : 0 ≤ a) : 0 ≤ a * X0 ∧ a * X0 ≤ a * U := ⟨Int.mul_nonneg ha h0, Int.mul_le_mul_of_nonneg_left h1 ha⟩
theorem le_hi {U X0 a : Int} (h0 : 0 ≤ X0) (h1 : X0 ≤ U) (ha : a ≤ 0) : a * U ≤ a * X0 ∧ a * X0 ≤ 0 := by
  have h := le_lo h0 h1 (a := -a) (by omega)
  have e1 : -a * X0 = -(a * X0) := Int.neg_mul _ _
  have e2 : -a * U = -(a * U) := Int.neg_mul _ _
  rw [e1, e2] at h
  omega
/-- the leading digits x (of a, b times the two long numbers) enclose the long number -/
theorem le_enc {U X Y x0 y0 a b : Int} (hU : 0 ≤ U) (hX : U * x0 ≤ X ∧ X ≤ U * x0 + U) (hY : U * y0 ≤ Y ∧ Y ≤ U * y0 + U) (hs : (0 ≤ a ∧ b ≤ 0) ∨ (a ≤ 0 ∧ 0 ≤ b)) :
    ((0 ≤ a ∧ b ≤ 0) → U * (a * x0 + b * y0 + b) ≤ a * X + b * Y ∧ a * X + b * Y ≤ U * (a * x0 + b * y0 + a)) ∧ ((a ≤ 0 ∧ 0 ≤ b) → U * (a * x0 + b * y0 + a) ≤ a * X + b * Y ∧ a * X + b * Y ≤ U * (a * x0 + b * y0 + b)) := by
  obtain ⟨X0, rfl⟩ : ∃ X0, X = U * x0 + X0 := ⟨X - U * x0, by omega⟩
  obtain ⟨Y0, rfl⟩ : ∃ Y0, Y = U * y0 + Y0 := ⟨Y - U * y0, by omega⟩
  have e : a * (U * x0 + X0) + b * (U * y0 + Y0) = U * (a * x0 + b * y0) + (a * X0 + b * Y0) := by grind
  have e1 : U * (a * x0 + b * y0 + b) = U * (a * x0 + b * y0) + b * U := by grind
  have e2 : U * (a * x0 + b * y0 + a) = U * (a * x0 + b * y0) + a * U := by grind
  rw [e, e1, e2]
  generalize U * (a * x0 + b * y0) = Z
  constructor
  · rintro ⟨h1, h2⟩
    have := le_lo (U := U) (X0 := X0) (by omega) (by omega) h1
    have := le_hi (U := U) (X0 := Y0) (by omega) (by omega) h2
    omega
  · rintro ⟨h1, h2⟩
    have := le_hi (U := U) (X0 := X0) (by omega) (by omega) h1
    have := le_lo (U := U) (X0 := Y0) (by omega) (by omega) h2
    omega
/-- a quotient that both ends of the enclosure agree on is the long numbers' own -/
theorem le_quo {U Xk Yk lo hi yl yh t : Int} (hU : 0 < U) (h1 : U * lo ≤ Xk) (h2 : Xk ≤ U * hi) (h3 : U * yl ≤ Yk) (h4 : Yk ≤ U * yh) (hyl : 0 < yl) (ht : 0 ≤ t) (hq1 : t * yh ≤ lo) (hq2 : hi < (t + 1) * yl) : t * Yk ≤ Xk ∧ Xk < (t + 1) * Yk := by
  constructor
  · have e1 : t * Yk ≤ t * (U * yh) := Int.mul_le_mul_of_nonneg_left h4 ht
    have e2 : U * (t * yh) ≤ U * lo := Int.mul_le_mul_of_nonneg_left hq1 (by omega)
    have e3 : t * (U * yh) = U * (t * yh) := by grind
    omega
  · have e1 : (t + 1) * (U * yl) ≤ (t + 1) * Yk := Int.mul_le_mul_of_nonneg_left h3 (by omega)
    have e2 : U * hi < U * ((t + 1) * yl) := Int.mul_lt_mul_of_pos_left hq2 hU
    have e3 : (t + 1) * (U * yl) = U * ((t + 1) * yl) := by grind
    omega
/-! Newton -/
theorem nw_div {N s g : Nat} (hs : N < (s + 1) * (s + 1)) (hg : s + 1 ≤ g) : N / g ≤ s := by
  have h1 : (s + 1) * (s + 1) ≤ (s + 1) * g := Nat.mul_le_mul_left _ hg
  have : N / g < s + 1 := (Nat.div_lt_iff_lt_mul (by omega)).mpr (by omega)
  omega
theorem nw_ge {N s g : Nat} (hs : s * s ≤ N) (hg : 0 < g) : s ≤ (N / g + g) / 2 := by
  have h1 := Nat.div_add_mod N g
  have h2 := Nat.mod_lt N hg
  generalize hq : N / g = q at *
  rw [Nat.le_div_iff_mul_le (by decide)]
  rcases Nat.lt_or_ge (q + g) (s * 2) with h | h
  · exfalso
    -- (q + g + 1)^2 <= 4 s^2 and 4 g (q + 1) <= (q + g + 1)^2
    have e1 : (q + g + 1) * (q + g + 1) ≤ (2 * s) * (2 * s) := Nat.mul_le_mul (by omega) (by omega)
    have e2 : 4 * (g * (q + 1)) ≤ (q + g + 1) * (q + g + 1) := by
      rcases Nat.le_total g (q + 1) with h3 | h3
      · obtain ⟨z, hz⟩ : ∃ z, q + 1 = g + z := ⟨q + 1 - g, by omega⟩
        have e3 : q + g + 1 = g + z + g := by omega
        rw [e3, hz]
        have : (g + z + g) * (g + z + g) = 4 * (g * (g + z)) + z * z := by grind
        omega
      · obtain ⟨z, hz⟩ : ∃ z, g = q + 1 + z := ⟨g - (q + 1), by omega⟩
        have e3 : q + g + 1 = (q + 1) + (q + 1 + z) := by omega
        rw [e3, hz]
        have : ((q + 1) + (q + 1 + z)) * ((q + 1) + (q + 1 + z)) = 4 * ((q + 1 + z) * (q + 1)) + z * z := by grind
        omega
    have e3 : (2 * s) * (2 * s) = 4 * (s * s) := by grind
    have e4 : g * (q + 1) = g * q + g := by rw [Nat.mul_add, Nat.mul_one]
    omega
  · omega
theorem nw_end {N s g : Nat} (h1 : s * s ≤ N) (h2 : N < (s + 1) * (s + 1)) (hg : s ≤ g) (hg0 : 0 < g) (hf : g ≤ (N / g + g) / 2) : g = s := by
  rcases Nat.lt_or_ge s g with h | h
  · have := nw_div h2 (g := g) h
    omega
  · omega
theorem nw_half {N s g : Nat} (h2 : N < (s + 1) * (s + 1)) (hg : s < g) : 2 * ((N / g + g) / 2 - s) ≤ g - s := by
  have := nw_div h2 (g := g) hg
  omega
theorem nw_sqrt (N : Nat) : ∃ s, s * s ≤ N ∧ N < (s + 1) * (s + 1) := by
  induction N with
  | zero => exact ⟨0, by decide, by decide⟩
  | succ N ih =>
    obtain ⟨s, h1, h2⟩ := ih
    by_cases h : N + 1 < (s + 1) * (s + 1)
    · exact ⟨s, by omega, h⟩
    · refine ⟨s + 1, by omega, ?_⟩
      have : (s + 1) * (s + 1) < (s + 1 + 1) * (s + 1 + 1) := Nat.mul_lt_mul_of_lt_of_lt (by omega) (by omega)
      omega
theorem nw_unique {N s t : Nat} (h1 : s * s ≤ N) (h2 : N < (s + 1) * (s + 1)) (h3 : t * t ≤ N) (h4 : N < (t + 1) * (t + 1)) : s = t := by
  rcases Nat.lt_trichotomy s t with h | h | h
  · have : (s + 1) * (s + 1) ≤ t * t := Nat.mul_le_mul h h
    omega
  · exact h
  · have : (t + 1) * (t + 1) ≤ s * s := Nat.mul_le_mul h h
    omega

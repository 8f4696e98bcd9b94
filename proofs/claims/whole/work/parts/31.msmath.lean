/-! the greatest common measure: facts -/
theorem gcd_step {P Q t : Nat} (h1 : t * Q ≤ P) (h2 : P < (t + 1) * Q) : Nat.gcd Q (P - t * Q) = Nat.gcd P Q := by
  have hQ : 0 < Q := by
    rcases Nat.eq_zero_or_pos Q with h | h
    · rw [h, Nat.mul_zero] at h2; omega
    · exact h
  have e1 : P % Q = P - t * Q := by
    rw [Nat.add_mul, Nat.one_mul] at h2
    have e2 : P = Q * t + (P - t * Q) := by rw [Nat.mul_comm]; omega
    conv => lhs; rw [e2]
    rw [Nat.mul_add_mod, Nat.mod_eq_of_lt (by omega)]
  rw [← e1, Nat.gcd_comm P Q, Nat.gcd_rec Q P, Nat.gcd_comm]
theorem half_step {P Q t : Nat} (h1 : t * Q ≤ P) (h2 : P < (t + 1) * Q) (hQP : Q ≤ P) : 2 * (Q * (P - t * Q)) ≤ P * Q := by
  have hQ : 0 < Q := by
    rcases Nat.eq_zero_or_pos Q with h | h
    · rw [h, Nat.mul_zero] at h2; omega
    · exact h
  have ht : 1 ≤ t := by
    rcases Nat.eq_zero_or_pos t with h | h
    · rw [h, Nat.zero_add, Nat.one_mul] at h2; omega
    · exact h
  have e1 : 1 * Q ≤ t * Q := Nat.mul_le_mul_right _ ht
  rw [Nat.add_mul, Nat.one_mul] at h2
  have e2 : 2 * (P - t * Q) ≤ P := by omega
  have e3 : Q * (2 * (P - t * Q)) ≤ Q * P := Nat.mul_le_mul_left _ e2
  have e4 : 2 * (Q * (P - t * Q)) = Q * (2 * (P - t * Q)) := by grind
  rw [Nat.mul_comm P Q]
  omega
theorem pow_lt_of {i C k : Nat} (h : 2 ^ i ≤ C) (hC : C < 2 ^ k) : i < k := by
  rcases Nat.lt_or_ge i k with q | q
  · exact q
  · have : 2 ^ k ≤ 2 ^ i := Nat.pow_le_pow_right (by decide) q
    omega
/-! leading digits -/
theorem lead_num {x s T l2 l1 l0 : Nat} (hs : 3 ≤ s) (hT : T ≤ 9) (hx : x < nB ^ s) (h2 : l2 = x / nB ^ (s - 1) % nB) (h1 : l1 = x / nB ^ (s - 2) % nB) (h0 : l0 = x / nB ^ (s - 3) % nB) : (l2 * nB + l1) * (nB / 10 ^ T) + l0 / 10 ^ T = x / (10 ^ T * nB ^ (s - 3)) := by
  obtain ⟨k, rfl⟩ : ∃ k, s = k + 3 := ⟨s - 3, by omega⟩
  simp only [show k + 3 - 1 = k + 2 by omega, show k + 3 - 2 = k + 1 by omega, show k + 3 - 3 = k by omega] at *
  have e1 : nB = 10 ^ T * 10 ^ (9 - T) := by rw [nB10, ← Nat.pow_add]; congr 1; omega
  have e2 : nB / 10 ^ T = 10 ^ (9 - T) := by
    conv => lhs; rw [e1]
    rw [Nat.mul_div_cancel_left _ (Nat.pow_pos (by decide))]
  obtain ⟨z, hz⟩ : ∃ z, z = x / nB ^ k := ⟨_, rfl⟩
  have e3 : x / nB ^ (k + 1) = z / nB := by rw [hz, Nat.div_div_eq_div_mul, Nat.pow_succ]
  have e4 : x / nB ^ (k + 2) = z / nB / nB := by rw [hz, Nat.div_div_eq_div_mul, Nat.div_div_eq_div_mul, Nat.pow_succ, Nat.pow_succ, Nat.mul_assoc]
  have e5 : z / nB / nB < nB := by
    rw [← e4]
    refine (Nat.div_lt_iff_lt_mul (Nat.pow_pos nB_pos)).mpr ?_
    rw [show nB * nB ^ (k + 2) = nB ^ (k + 3) by rw [Nat.pow_succ nB (k + 2), Nat.mul_comm]]
    exact hx
  rw [e4, Nat.mod_eq_of_lt e5] at h2
  rw [e3] at h1
  rw [← hz] at h0
  have e6 : l2 * nB + l1 = z / nB := by
    rw [h2, h1, Nat.mul_comm]
    exact Nat.div_add_mod _ _
  have e7 : z = (l2 * nB + l1) * nB + l0 := by rw [e6, h0, Nat.mul_comm]; exact (Nat.div_add_mod _ _).symm
  have e8 : x / (10 ^ T * nB ^ k) = z / 10 ^ T := by rw [hz, Nat.div_div_eq_div_mul, Nat.mul_comm]
  rw [e8, e2, e7]
  have e9 : (l2 * nB + l1) * nB = 10 ^ T * ((l2 * nB + l1) * 10 ^ (9 - T)) := by
    conv => lhs; rw [show (l2 * nB + l1) * nB = (l2 * nB + l1) * (10 ^ T * 10 ^ (9 - T)) by rw [← e1]]
    generalize l2 * nB + l1 = y
    grind
  rw [e9, Nat.mul_add_div (Nat.pow_pos (by decide))]
/-! Lehmer's steps -/
def Lm (X Y : Nat) (a b c d : Int) : Prop := ∃ P Q : Nat, (P : Int) = a * X + b * Y ∧ (Q : Int) = c * X + d * Y ∧ Q < P ∧ Nat.gcd P Q = Nat.gcd X Y ∧ 2 * (P * Q) ≤ X * Y ∧ P ≤ X
def le_b (a b c d : Int) : Prop := -(nB : Int) ≤ a ∧ a ≤ nB ∧ -(nB : Int) ≤ b ∧ b ≤ nB ∧ -(nB : Int) ≤ c ∧ c ≤ nB ∧ -(nB : Int) ≤ d ∧ d ≤ nB
/-- where the steps stand -/
def le_at (X Y U : Nat) (a b c d x y : Int) : Prop := le_sg a b c d ∧ le_b a b c d ∧ x = a * ((X / U : Nat) : Int) + b * ((Y / U : Nat) : Int) ∧ y = c * ((X / U : Nat) : Int) + d * ((Y / U : Nat) : Int) ∧ 0 ≤ x + a ∧ 0 ≤ x + b ∧ ∃ P Q : Nat, (P : Int) = a * X + b * Y ∧ (Q : Int) = c * X + d * Y ∧ Q ≤ P ∧ P ≤ X ∧ Nat.gcd P Q = Nat.gcd X Y ∧ (b = 0 ∧ P * Q ≤ X * Y ∨ Q < P ∧ 2 * (P * Q) ≤ X * Y)
theorem le_start {X Y U : Nat} (hYX : Y ≤ X) : le_at X Y U 1 0 0 1 ((X / U : Nat) : Int) ((Y / U : Nat) : Int) := by
  have hnB : nB = 1000000000 := rfl
  have e1 : (0 : Int) ≤ ((X / U : Nat) : Int) := Int.natCast_nonneg _
  refine ⟨Or.inl ⟨by omega, by omega, by omega, by omega⟩, ⟨by omega, by omega, by omega, by omega, by omega, by omega, by omega, by omega⟩, ?_, ?_, ?_, ?_, X, Y, by omega, by omega, hYX, Nat.le_refl _, rfl, Or.inl ⟨rfl, Nat.le_refl _⟩⟩
  all_goals generalize ((X / U : Nat) : Int) = p at *
  all_goals generalize ((Y / U : Nat) : Int) = q at *
  all_goals omega
theorem le_at.enc {X Y U : Nat} {a b c d x y : Int} (hU : 0 < U) (h : le_at X Y U a b c d x y) : ∃ P Q : Nat, (P : Int) = a * X + b * Y ∧ (Q : Int) = c * X + d * Y ∧
    (((0 ≤ a ∧ b ≤ 0 ∧ c ≤ 0 ∧ 0 ≤ d) ∧ (U : Int) * (x + b) ≤ P ∧ (P : Int) ≤ U * (x + a) ∧ (U : Int) * (y + c) ≤ Q ∧ (Q : Int) ≤ U * (y + d)) ∨ ((a ≤ 0 ∧ 0 ≤ b ∧ 0 ≤ c ∧ d ≤ 0) ∧ (U : Int) * (x + a) ≤ P ∧ (P : Int) ≤ U * (x + b) ∧ (U : Int) * (y + d) ≤ Q ∧ (Q : Int) ≤ U * (y + c))) := by
  obtain ⟨hs, -, hx, hy, -, -, P, Q, hP, hQ, -⟩ := h
  have key : ∀ Z : Nat, (U : Int) * ((Z / U : Nat) : Int) ≤ (Z : Int) ∧ (Z : Int) ≤ (U : Int) * ((Z / U : Nat) : Int) + U := by
    intro Z
    have h1 := Nat.div_add_mod Z U
    have h2 := Nat.mod_lt Z hU
    have h3 : (U : Int) * ((Z / U : Nat) : Int) = ((U * (Z / U) : Nat) : Int) := by push_cast; rfl
    rw [h3]
    omega
  refine ⟨P, Q, hP, hQ, ?_⟩
  rw [hP, hQ, hx, hy]
  rcases hs with h | h
  · have e1 := (le_enc (U := (U : Int)) (by omega) (key X) (key Y) (a := a) (b := b) (Or.inl ⟨h.1, h.2.1⟩)).1 ⟨h.1, h.2.1⟩
    have e2 := (le_enc (U := (U : Int)) (by omega) (key X) (key Y) (a := c) (b := d) (Or.inr ⟨h.2.2.1, h.2.2.2⟩)).2 ⟨h.2.2.1, h.2.2.2⟩
    exact Or.inl ⟨h, e1.1, e1.2, e2.1, e2.2⟩
  · have e1 := (le_enc (U := (U : Int)) (by omega) (key X) (key Y) (a := a) (b := b) (Or.inr ⟨h.1, h.2.1⟩)).2 ⟨h.1, h.2.1⟩
    have e2 := (le_enc (U := (U : Int)) (by omega) (key X) (key Y) (a := c) (b := d) (Or.inl ⟨h.2.2.1, h.2.2.2⟩)).1 ⟨h.2.2.1, h.2.2.2⟩
    exact Or.inr ⟨h, e1.1, e1.2, e2.1, e2.2⟩
theorem le_at.rng {X Y U : Nat} {a b c d x y : Int} (hU : 0 < U) (hX : X / U < 1000000000000000000) (h : le_at X Y U a b c d x y) : -1000000000 ≤ x ∧ x ≤ 1000000001000000000 ∧ -1000000000 ≤ y ∧ y ≤ 1000000001000000000 := by
  obtain ⟨P, Q, hP, hQ, he⟩ := h.enc hU
  obtain ⟨-, hb, -, -, h1, h2, P2, Q2, hP2, hQ2, hQP, hPX, -⟩ := h
  have hnB : nB = 1000000000 := rfl
  obtain ⟨b1, b2, b3, b4, b5, b6, b7, b8⟩ := hb
  rw [hnB] at b1 b2 b3 b4 b5 b6 b7 b8
  have eP : P = P2 := by omega
  have eQ : Q = Q2 := by omega
  subst eP; subst eQ
  have key : ∀ z : Int, (U : Int) * z ≤ (X : Int) → z ≤ 999999999999999999 := by
    intro z hz
    rcases Int.lt_or_le z 0 with q | q
    · omega
    · obtain ⟨n, rfl⟩ := Int.eq_ofNat_of_zero_le q
      have e1 : U * n ≤ X := by
        have : ((U * n : Nat) : Int) ≤ (X : Int) := by push_cast; exact hz
        omega
      have e2 : n ≤ X / U := (Nat.le_div_iff_mul_le hU).mpr (by rw [Nat.mul_comm]; exact e1)
      omega
  have key2 : ∀ (z : Int) (K : Nat), (K : Int) ≤ (U : Int) * z → 0 ≤ z := by
    intro z K hz
    rcases Int.lt_or_le z 0 with q | q
    · have e1 : (U : Int) * z ≤ (U : Int) * (-1) := Int.mul_le_mul_of_nonneg_left (by omega) (by omega)
      omega
    · exact q
  rcases he with ⟨hs, e1, e2, e3, e4⟩ | ⟨hs, e1, e2, e3, e4⟩
  · have k1 := key _ (Int.le_trans e1 (by omega))
    have k2 := key _ (Int.le_trans e3 (by omega))
    have k3 := key2 _ _ e4
    omega
  · have k1 := key _ (Int.le_trans e1 (by omega))
    have k2 := key _ (Int.le_trans e3 (by omega))
    have k3 := key2 _ _ e4
    omega
theorem le_at.fin {X Y U : Nat} {a b c d x y : Int} (h : le_at X Y U a b c d x y) : le_b a b c d ∧ (b = 0 ∨ Lm X Y a b c d) := by
  obtain ⟨-, hb, -, -, -, -, P, Q, hP, hQ, hQP, hPX, hg, hd⟩ := h
  refine ⟨hb, ?_⟩
  rcases hd with ⟨e, -⟩ | ⟨e1, e2⟩
  · exact Or.inl e
  · exact Or.inr ⟨P, Q, hP, hQ, e1, hg, e2, hPX⟩
theorem ediv_fact {p q t : Int} (hp : 0 ≤ p) (hq : 0 < q) (ht : t = p / q) : 0 ≤ t ∧ t ≤ p ∧ t * q ≤ p ∧ p < (t + 1) * q := by
  have e1 := Int.mul_ediv_add_emod p q
  have e2 := Int.emod_nonneg p (show q ≠ 0 by omega)
  have e3 := Int.emod_lt_of_pos p hq
  have e0 : 0 ≤ t := by rw [ht]; exact Int.ediv_nonneg hp (by omega)
  have e5 : t ≤ p := by rw [ht]; exact Int.ediv_le_self _ hp
  rw [← ht, Int.mul_comm] at e1
  refine ⟨e0, e5, by omega, ?_⟩
  rw [Int.add_mul, Int.one_mul]
  omega
theorem le_at.step {X Y U : Nat} {a b c d x y t : Int} (hU : 0 < U) (h : le_at X Y U a b c d x y) (h1 : 0 < y + c) (h2 : 0 < y + d) (ht1 : t = (x + a) / (y + c)) (ht2 : t = (x + b) / (y + d)) (hb1 : -(nB : Int) ≤ a - t * c) (hb2 : a - t * c ≤ nB) (hb3 : -(nB : Int) ≤ b - t * d) (hb4 : b - t * d ≤ nB) : le_at X Y U c d (a - t * c) (b - t * d) y (x - t * y) := by
  obtain ⟨P, Q, hP, hQ, he⟩ := h.enc hU
  obtain ⟨hs, hb, hx, hy, g1, g2, P2, Q2, hP2, hQ2, hQP, hPX, hg, hd⟩ := h
  have eP : P = P2 := by omega
  have eQ : Q = Q2 := by omega
  subst eP; subst eQ
  obtain ⟨f1, f2, f3, f4⟩ := ediv_fact g1 h1 ht1
  obtain ⟨-, f6, f7, f8⟩ := ediv_fact g2 h2 ht2
  have hq : t * (Q : Int) ≤ P ∧ (P : Int) < (t + 1) * Q := by
    rcases he with ⟨-, e1, e2, e3, e4⟩ | ⟨-, e1, e2, e3, e4⟩
    · exact le_quo (by omega) e1 e2 e3 e4 h1 f1 f7 f4
    · exact le_quo (by omega) e1 e2 e3 e4 h2 f1 f3 f8
  obtain ⟨n, rfl⟩ := Int.eq_ofNat_of_zero_le f1
  have q1 : n * Q ≤ P := by
    have : ((n * Q : Nat) : Int) ≤ (P : Int) := by push_cast; exact hq.1
    omega
  have q2 : P < (n + 1) * Q := by
    have : (P : Int) < (((n + 1) * Q : Nat) : Int) := by push_cast; exact hq.2
    omega
  have q3 : ((P - n * Q : Nat) : Int) = (P : Int) - n * Q := by rw [Int.ofNat_sub q1]; push_cast; rfl
  have hPQ : P * Q ≤ X * Y := by
    rcases hd with ⟨-, e⟩ | ⟨-, e⟩
    · exact e
    · omega
  have hlt : P - n * Q < Q := by rw [Nat.add_mul, Nat.one_mul] at q2; omega
  obtain ⟨b1, b2, b3, b4, b5, b6, b7, b8⟩ := hb
  refine ⟨?_, ⟨b5, b6, b7, b8, hb1, hb2, hb3, hb4⟩, hy, ?_, by omega, by omega, Q, P - n * Q, hQ, ?_, by omega, by omega, ?_, Or.inr ⟨hlt, Nat.le_trans (half_step q1 q2 hQP) hPQ⟩⟩
  · rcases hs with ⟨s1, s2, s3, s4⟩ | ⟨s1, s2, s3, s4⟩
    · have m1 : (n : Int) * c ≤ 0 := Int.mul_nonpos_of_nonneg_of_nonpos f1 s3
      have m2 : 0 ≤ (n : Int) * d := Int.mul_nonneg f1 s4
      exact Or.inr ⟨s3, s4, by omega, by omega⟩
    · have m1 : 0 ≤ (n : Int) * c := Int.mul_nonneg f1 s3
      have m2 : (n : Int) * d ≤ 0 := Int.mul_nonpos_of_nonneg_of_nonpos f1 s4
      exact Or.inl ⟨s3, s4, by omega, by omega⟩
  · rw [hx, hy]
    grind
  · rw [q3, hP, hQ]
    grind
  · rw [gcd_step q1 q2, hg]
/-! the long numbers catch up -/
theorem cu_step {b : Nat} {h xa ya : Nat → Nat} {t dg : Nat} {p q cr cr' : Int} (hS : (nvb b h t : Int) + cr * (b : Int) ^ t = p * (nvb b xa t : Int) + q * (nvb b ya t : Int)) (e : (dg : Int) + cr' * b = p * xa t + q * ya t + cr) : (nvb b (va_up h t dg) (t + 1) : Int) + cr' * (b : Int) ^ (t + 1) = p * (nvb b xa (t + 1) : Int) + q * (nvb b ya (t + 1) : Int) := by
  rw [nvb_upS, nvb_succ, nvb_succ]
  push_cast
  have e2 : ((dg : Int) + cr' * b) * (b : Int) ^ t = (p * xa t + q * ya t + cr) * (b : Int) ^ t := by rw [e]
  rw [Int.pow_succ]
  grind
theorem cu_rng {p q cr : Int} {x y : Nat} (hp : -(1000000000 : Int) ≤ p ∧ p ≤ 1000000000) (hq : -(1000000000 : Int) ≤ q ∧ q ≤ 1000000000) (hx : x < 1000000000) (hy : y < 1000000000) (hc : -(2000000000 : Int) ≤ cr ∧ cr ≤ 2000000000) :
    -(2000000000000000000 : Int) ≤ p * x + q * y + cr ∧ p * x + q * y + cr ≤ 2000000000000000000 ∧ -(2000000000 : Int) ≤ (p * x + q * y + cr) / 1000000000 ∧ (p * x + q * y + cr) / 1000000000 ≤ 2000000000 := by
  have key : ∀ (p : Int) (x : Nat), -(1000000000 : Int) ≤ p ∧ p ≤ 1000000000 → x < 1000000000 → -(999999999000000000 : Int) ≤ p * x ∧ p * x ≤ 999999999000000000 := by
    intro p x hp hx
    have e1 : p * (x : Int) ≤ 1000000000 * (x : Int) := Int.mul_le_mul_of_nonneg_right hp.2 (by omega)
    have e2 : -1000000000 * (x : Int) ≤ p * (x : Int) := Int.mul_le_mul_of_nonneg_right hp.1 (by omega)
    omega
  have k1 := key p x hp hx
  have k2 := key q y hq hy
  generalize p * (x : Int) = u at *
  generalize q * (y : Int) = w at *
  omega
theorem cu_end {n s P : Nat} {h : Nat → Nat} {cr : Int} (hh : ∀ q, h q < nB) (hS : (nvb nB h s : Int) + cr * (nB : Int) ^ s = (P : Int)) (hP : P < nB ^ s) : nvb nB h s = P := by
  have e1 : nvb nB h s < nB ^ s := nvb_lt (fun q _ => hh q)
  have e2 : ((nB ^ s : Nat) : Int) = (nB : Int) ^ s := by push_cast; rfl
  rw [← e2] at hS
  have e3 : cr = 0 := by
    rcases Int.lt_trichotomy cr 0 with q | q | q
    · have : cr * ((nB ^ s : Nat) : Int) ≤ (-1) * ((nB ^ s : Nat) : Int) := Int.mul_le_mul_of_nonneg_right (by omega) (by omega)
      omega
    · exact q
    · have : 1 * ((nB ^ s : Nat) : Int) ≤ cr * ((nB ^ s : Nat) : Int) := Int.mul_le_mul_of_nonneg_right (by omega) (by omega)
      omega
  rw [e3] at hS
  omega
theorem lead_rng {s T x : Nat} (hs : 3 ≤ s) (h : x < 10 ^ ((s - 1) * 9 + T)) : x / (10 ^ T * nB ^ (s - 3)) < 1000000000000000000 := by
  have e1 : 10 ^ ((s - 1) * 9 + T) = 1000000000000000000 * (10 ^ T * nB ^ (s - 3)) := by
    rw [nB10, ← Nat.pow_mul, show (s - 1) * 9 + T = 18 + (T + 9 * (s - 3)) by omega, Nat.pow_add, Nat.pow_add]
  exact (Nat.div_lt_iff_lt_mul (Nat.mul_pos (Nat.pow_pos (by decide)) (Nat.pow_pos nB_pos))).mpr (by rw [← e1]; exact h)
/-! Euclid's way on longs -/
def sh_at (C t p q : Nat) : Prop := t = 0 ∨ (q < p ∧ 2 ^ (t - 1) * (p * q) < C)
theorem sh_step {C t p q : Nat} (hq : 0 < q) (hC : p * q < C ∨ 0 < t) (h : sh_at C t p q) : sh_at C (t + 1) q (p % q) := by
  have h1 := Nat.mod_lt p hq
  have hd := Nat.div_add_mod p q
  refine Or.inr ⟨h1, ?_⟩
  rw [Nat.add_sub_cancel]
  rcases h with h | ⟨h2, h3⟩
  · subst h
    rw [Nat.pow_zero, Nat.one_mul]
    have e1 : q * (p % q) ≤ q * p := Nat.mul_le_mul_left _ (Nat.mod_le _ _)
    rw [Nat.mul_comm q p] at e1
    rcases hC with e | e <;> omega
  · rcases Nat.eq_zero_or_pos t with e0 | e0
    · subst e0
      rw [Nat.pow_zero, Nat.one_mul]
      have e1 : q * (p % q) ≤ q * p := Nat.mul_le_mul_left _ (Nat.mod_le _ _)
      rw [Nat.mul_comm q p] at e1
      simp only [Nat.zero_sub, Nat.pow_zero, Nat.one_mul] at h3
      omega
    · have e2 := half_step (P := p) (Q := q) (t := p / q) (by rw [Nat.mul_comm]; omega) (by rw [Nat.add_mul, Nat.one_mul, Nat.mul_comm]; omega) (by omega)
      have e3 : p - p / q * q = p % q := by rw [Nat.mul_comm]; omega
      rw [e3] at e2
      have e4 : 2 ^ t = 2 ^ (t - 1) * 2 := by rw [← Nat.pow_succ]; congr 1; omega
      rw [e4, Nat.mul_assoc]
      exact Nat.lt_of_le_of_lt (Nat.mul_le_mul_left _ e2) h3
theorem sh_end {k t p q : Nat} (hk : k < t) (h : sh_at (2 ^ k) t p q) : q = 0 := by
  rcases h with h | ⟨h1, h2⟩
  · omega
  · rcases Nat.eq_zero_or_pos q with e | e
    · exact e
    · exfalso
      have e1 : 2 ^ k ≤ 2 ^ (t - 1) := Nat.pow_le_pow_right (by decide) (by omega)
      have e2 : 2 ^ (t - 1) * 1 ≤ 2 ^ (t - 1) * (p * q) := Nat.mul_le_mul_left _ (Nat.mul_pos (by omega) e)
      omega
theorem cu_dig (S : Int) : ∃ d : Nat, d < nB ∧ (d : Int) = S - S / (nB : Int) * (nB : Int) := by
  have hnB : nB = 1000000000 := rfl
  have e1 := Int.mul_ediv_add_emod S (nB : Int)
  have e2 := Int.emod_nonneg S (show (nB : Int) ≠ 0 by omega)
  have e3 := Int.emod_lt_of_pos S (show (0 : Int) < nB by omega)
  rw [Int.mul_comm] at e1
  exact ⟨(S % (nB : Int)).toNat, by omega, by omega⟩

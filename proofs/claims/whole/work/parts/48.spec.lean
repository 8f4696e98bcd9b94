/-! what the calls do, as functions of sixteen fractions and ten weights -/
abbrev Rg : Type := Nat × Nat × Bool
abbrev Sg : Type := Nat → Rg
def lows (n d : Nat) (s : Bool) : Rg := (n / Nat.gcd n d, d / Nat.gcd n d, sgz n s)
def inR (n : Int32) (lo hi : Nat) : Bool := decide (nI lo ≤ n ∧ n ≤ nI hi)
def vr (r : Int32) : Bool := inR r 0 15
def ix (r : Int32) : Nat := r.toNatClampNeg
def putR (c : Nat) (σ : Sg) (r : Int32) (t : Rg) : Nat × Sg := if t.1 < nB ^ 20 ∧ t.2.1 < nB ^ 20 then (0, va_up σ (ix r) t) else (c, σ)
def addV (u v : Rg) (nb : Bool) : Rg := lows (tot (u.1 * v.2.1) (v.1 * u.2.1) u.2.2 nb) (u.2.1 * v.2.1) (tots (u.1 * v.2.1) (v.1 * u.2.1) u.2.2 nb)
def opSet (σ : Sg) (r : Int32) (p q : Int) : Nat × Sg := if vr r && decide (-9223372036854775807 ≤ p) && decide (-9223372036854775807 ≤ q) then (if q = 0 then (2, σ) else putR 9 σ r (lows p.natAbs q.natAbs (decide (p < 0) != decide (q < 0)))) else (1, σ)
def opMore (σ : Sg) (r d : Int32) : Nat × Sg := if vr r && inR d 0 999999999 then (if (σ (ix r)).2.1 = 1 then putR 2 σ r (lows ((σ (ix r)).1 * nB + d.toNatClampNeg) 1 (σ (ix r)).2.2) else (2, σ)) else (1, σ)
def opAdd (σ : Sg) (r a b : Int32) : Nat × Sg := if vr r && vr a && vr b then putR 2 σ r (addV (σ (ix a)) (σ (ix b)) (σ (ix b)).2.2) else (1, σ)
def opSub (σ : Sg) (r a b : Int32) : Nat × Sg := if vr r && vr a && vr b then putR 2 σ r (addV (σ (ix a)) (σ (ix b)) (!(σ (ix b)).2.2)) else (1, σ)
def opMul (σ : Sg) (r a b : Int32) : Nat × Sg := if vr r && vr a && vr b then putR 2 σ r (lows ((σ (ix a)).1 * (σ (ix b)).1) ((σ (ix a)).2.1 * (σ (ix b)).2.1) ((σ (ix a)).2.2 != (σ (ix b)).2.2)) else (1, σ)
def opDiv (σ : Sg) (r a b : Int32) : Nat × Sg := if vr r && vr a && vr b then (if (σ (ix b)).1 = 0 then (2, σ) else putR 3 σ r (lows ((σ (ix a)).1 * (σ (ix b)).2.1) ((σ (ix a)).2.1 * (σ (ix b)).1) ((σ (ix a)).2.2 != (σ (ix b)).2.2))) else (1, σ)
def opPow (σ : Sg) (r a n : Int32) : Nat × Sg := if vr r && vr a && inR n 0 200 then putR 2 σ r ((σ (ix a)).1 ^ n.toNatClampNeg, (σ (ix a)).2.1 ^ n.toNatClampNeg, (σ (ix a)).2.2 && decide (n.toNatClampNeg % 2 = 1)) else (1, σ)
def opBin (σ : Sg) (r n k : Int32) : Nat × Sg := if vr r && inR n 0 500 then putR 2 σ r (chF n.toNatClampNeg k, 1, false) else (1, σ)
def rndQ (u : Rg) (d h : Nat) : Nat := u.1 * 10 ^ d / u.2.1 + (if upF h (u.1 * 10 ^ d % u.2.1) u.2.1 u.2.2 then 1 else 0)
def opRnd (σ : Sg) (r a d h : Int32) : Nat × Sg := if vr r && vr a && inR d 0 40 && inR h 0 2 then putR 2 σ r (lows (rndQ (σ (ix a)) d.toNatClampNeg h.toNatClampNeg) (10 ^ d.toNatClampNeg) (σ (ix a)).2.2) else (1, σ)
noncomputable def opRoot (σ : Sg) (r a d : Int32) : Nat × Sg := if vr r && vr a && inR d 0 40 then (if (σ (ix a)).2.2 then (2, σ) else putR 3 σ r (lows (isq ((σ (ix a)).1 * 10 ^ (2 * d.toNatClampNeg) / (σ (ix a)).2.1)) (10 ^ d.toNatClampNeg) false)) else (1, σ)
def opShr (σ : Sg) (wt : Nat → Nat) (r a k : Int32) : Nat × Sg := if vr r && vr a && inR k 0 9 then (if sumN wt 10 = 0 then (2, σ) else if (σ (ix a)).2.1 = 1 ∧ (σ (ix a)).2.2 = false then putR 3 σ r (shF (σ (ix a)).1 wt k.toNatClampNeg, 1, false) else (3, σ)) else (1, σ)
def prt (u : Rg) (p : Int32) : Nat := if p = 0 then u.1 else u.2.1
def aCmp (σ : Sg) (a b : Int32) : Option Int32 := if vr a && vr b then some (ordF (σ (ix a)).1 (σ (ix a)).2.1 (σ (ix b)).1 (σ (ix b)).2.1 (σ (ix a)).2.2 (σ (ix b)).2.2) else none
def aSgn (σ : Sg) (a : Int32) : Option Int32 := if vr a then some (if (σ (ix a)).1 = 0 then 0 else if (σ (ix a)).2.2 then -1 else 1) else none
noncomputable def dl (n : Nat) : Nat := Classical.epsilon (fun T => dlen T n)
noncomputable def aDgs (σ : Sg) (a p : Int32) : Option Int32 := if vr a && inR p 0 1 then some (nI (dl (prt (σ (ix a)) p))) else none
/-- 1: no such register; 2: no such digit -/
noncomputable def aDgt (σ : Sg) (a p k : Int32) : Nat × Int32 := if vr a && inR p 0 1 then (if k < 0 ∨ nI (dl (prt (σ (ix a)) p)) ≤ k then (2, 0) else (0, nI (prt (σ (ix a)) p / 10 ^ k.toNatClampNeg % 10))) else (1, 0)
def aBeh (σ : Sg) (a k : Int32) : Option Int32 := if vr a && inR k 1 300 then some (nI ((σ (ix a)).1 * 10 ^ k.toNatClampNeg / (σ (ix a)).2.1 % 10)) else none
def aMod (σ : Sg) (a p m : Int32) : Option Int32 := if vr a && inR p 0 1 && inR m 1 1000000000 then some (nI (prt (σ (ix a)) p % m.toNatClampNeg)) else none
def aWgt (wt : Nat → Nat) (k w : Int32) : Option Int32 := if inR k 0 9 && inR w 0 1000000000 then some (nI (wt k.toNatClampNeg)) else none
def nWgt (wt : Nat → Nat) (k w : Int32) : Nat → Nat := if inR k 0 9 && inR w 0 1000000000 then va_up wt k.toNatClampNeg w.toNatClampNeg else wt
/-! facts -/
theorem dl_eq {T n : Nat} (h : dlen T n) : dl n = T := by
  exact dlen_eq (Classical.epsilon_spec (p := fun T => dlen T n) ⟨T, h⟩) h
theorem inR_nI {j lo hi : Nat} (h1 : lo ≤ j) (h2 : j ≤ hi) (hh : hi < 2 ^ 31) : inR (nI j) lo hi = true := decide_eq_true ⟨nI_le h1 (by omega), nI_le h2 hh⟩
theorem inR_or (n : Int32) {lo hi : Nat} (hlo : lo ≤ hi) (hh : hi < 2 ^ 31 - 1) : (inR n lo hi = false ∧ (n < nI lo ∨ nI (hi + 1) ≤ n)) ∨ ∃ j, lo ≤ j ∧ j ≤ hi ∧ n = nI j := by
  rcases pk_ix n (show hi + 1 < 2 ^ 31 by omega) with h | h | ⟨j, hj, rfl⟩
  · have h9 : n < nI lo := Int32.lt_of_lt_of_le h (nI_pos' (by omega))
    exact Or.inl ⟨decide_eq_false (fun q => Int32.not_le.mpr h9 q.1), Or.inl h9⟩
  · refine Or.inl ⟨decide_eq_false (fun q => ?_), Or.inr h⟩
    have := Int32.le_trans h q.2
    exact absurd ((nI_leI (by omega) (by omega)).mp this) (by omega)
  · rcases Nat.lt_or_ge j lo with q | q
    · have h9 : nI j < nI lo := nI_lt q (by omega)
      exact Or.inl ⟨decide_eq_false (fun q => Int32.not_le.mpr h9 q.1), Or.inl h9⟩
    · exact Or.inr ⟨j, q, by omega, rfl⟩
theorem i64_lt {n : Int32} {lo : Nat} (hlo : lo < 2 ^ 31) (h : n < nI lo) : n.toInt64 < lN lo := by
  rw [Int64.lt_iff_toInt_lt, Int32.toInt_toInt64, pk_lT (by omega)]
  rw [Int32.lt_iff_toInt_lt, nI_toInt hlo] at h
  exact h
theorem i64_ge {n : Int32} {hi : Nat} (hhi : hi < 2 ^ 31 - 1) (h : nI (hi + 1) ≤ n) : lN hi < n.toInt64 := by
  rw [Int64.lt_iff_toInt_lt, Int32.toInt_toInt64, pk_lT (by omega)]
  rw [Int32.le_iff_toInt_le, nI_toInt (by omega)] at h
  omega
theorem i64_bad {n : Int32} {lo hi : Nat} (hlo : lo < 2 ^ 31) (hhi : hi < 2 ^ 31 - 1) (h : n < nI lo ∨ nI (hi + 1) ≤ n) : n.toInt64 < lN lo ∨ lN hi < n.toInt64 := h.imp (i64_lt hlo) (i64_ge hhi)
theorem ix_nI {j : Nat} (h : j < 2 ^ 31) : ix (nI j) = j := nI_clamp h
/-- what stands in the registers -/
def Okr (u : Rg) : Prop := u.1 < nB ^ 20 ∧ u.2.1 < nB ^ 20 ∧ 0 < u.2.1 ∧ Nat.gcd u.1 u.2.1 = 1 ∧ (u.1 = 0 → u.2.2 = false)
def Ok (σ : Sg) (wt : Nat → Nat) : Prop := (∀ k, k < 16 → Okr (σ k)) ∧ ∀ q, q < 10 → wt q ≤ 1000000000
theorem lows_ok {n d : Nat} {s : Bool} (hd : 0 < d) : 0 < (lows n d s).2.1 ∧ Nat.gcd (lows n d s).1 (lows n d s).2.1 = 1 ∧ ((lows n d s).1 = 0 → (lows n d s).2.2 = false) := by
  have hg : 0 < Nat.gcd n d := gpos (Or.inr hd)
  refine ⟨Nat.div_pos (Nat.gcd_le_right _ hd) hg, Nat.gcd_div_gcd_div_gcd_of_pos_right hd, fun h => ?_⟩
  have h1 : n = 0 := (gdiv0 hg).mp h
  show sgz n s = false
  unfold sgz
  rw [if_pos h1]
theorem putR_ok {c : Nat} {σ : Sg} {wt : Nat → Nat} {r : Int32} {t : Rg} (h : Ok σ wt) (ht : 0 < t.2.1 ∧ Nat.gcd t.1 t.2.1 = 1 ∧ (t.1 = 0 → t.2.2 = false)) : Ok (putR c σ r t).2 wt := by
  refine ⟨fun k hk => ?_, h.2⟩
  unfold putR
  split
  · show Okr (va_up σ (ix r) t k)
    by_cases e : k = ix r
    · subst e
      rw [hw_up_eq]
      rename_i hf
      exact ⟨hf.1, hf.2, ht.1, ht.2.1, ht.2.2⟩
    · rw [hw_up_ne e]
      exact h.1 k hk
  · exact h.1 k hk

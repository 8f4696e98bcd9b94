/-! rows of ints -/
def arrR (D : va_G) (L : List Nat) (f : Nat → va_E) (a n : Nat) (h : Nat → Int32) : Prop := hw_c L f a (.inl (D.1 101, n, .inl h))
def arrI (D : va_G) (L : List Nat) (f : Nat → va_E) (a n : Nat) (u : Nat → Nat) : Prop := hw_c L f a (.inl (D.1 101, n, .inl (fun q => nI (u q))))
section HIa
variable {p : Program} {l : Launch} {e : Env} {R : Room} {s : State} {m : MethodId} {args : Array Value} {below : List Frame} {meth : Method} {c : Code} {H : Heap} {locs : List Loc} {cells slots : Nat} {Q : State → Prop}
variable {cc : ByteArray} {pc nL : Nat} {ls : Array Slot} {rest : List Value} {D : va_G} {t0 : Nat} {A : Nat → Prop} {L : List Nat} {f : Nat → va_E} {own : String} {index a n : Nat} {u : Nat → Nat} {h : Nat → Int32}
theorem ia_ld (S : CallFix p m c cc nL s args TT own) (hI : hw_I D t0 A s L f H locs) (hU : arrI D L f a n u) (hn : n < 2 ^ 31) {k : Nat} (hk : k < n) (hdg : decode cc pc = .ok (.iaload, 1))
    (kk : W p l e R s m args below meth c H locs cells slots Q (F0 m (pc + 1) ls (.int (nI (u k)) :: rest))) : W p l e R s m args below meth c H locs cells slots Q (F0 m pc ls (.int (nI k) :: .ref a :: rest)) :=
  hw_iald S.1 S.2.1 hI 1 hU rfl (vp_in_nI hk hn) hdg (by rw [nI_clamp (by omega)]; exact kk)
theorem ia_ldR (S : CallFix p m c cc nL s args TT own) (hI : hw_I D t0 A s L f H locs) (hU : arrR D L f a n h) (hn : n < 2 ^ 31) {k : Nat} (hk : k < n) (hdg : decode cc pc = .ok (.iaload, 1))
    (kk : W p l e R s m args below meth c H locs cells slots Q (F0 m (pc + 1) ls (.int (h k) :: rest))) : W p l e R s m args below meth c H locs cells slots Q (F0 m pc ls (.int (nI k) :: .ref a :: rest)) :=
  hw_iald S.1 S.2.1 hI 1 hU rfl (vp_in_nI hk hn) hdg (by rw [nI_clamp (by omega)]; exact kk)
theorem ia_stR (S : CallFix p m c cc nL s args TT own) (hI : hw_I D t0 A s L f H locs) (hU : arrR D L f a n h) (hn : n < 2 ^ 31) {k : Nat} {x : Int32} (hk : k < n) (hdg : decode cc pc = .ok (.iastore, 1))
    (kk : ∀ (f' : Nat → va_E) (H' : Heap) (locs' : List Loc), hw_I D t0 A s L f' H' locs' → arrR D L f' a n (va_up h k x) → (∀ q, q ≠ a → f' q = f q) → W p l e R s m args below meth c H' locs' cells slots Q (F0 m (pc + 1) ls rest)) : W p l e R s m args below meth c H locs cells slots Q (F0 m pc ls (.int x :: .int (nI k) :: .ref a :: rest)) :=
  hw_iast S.1 S.2.1 hI 1 hU rfl (vp_in_nI hk hn) hdg (fun H1 locs1 h9 => by
    rw [nI_clamp (by omega)] at h9
    refine kk _ H1 locs1 h9 ?_ (fun q hq => hw_up_ne hq)
    have e2 : upd h k x = va_up h k x := by
      funext q
      by_cases e : q = k
      · subst e; rw [pk_us, hw_up_eq]
      · rw [pk_un e, hw_up_ne e]
    have h2 := hU.self (e' := (.inl (D.1 101, n, .inl (upd h k x))))
    unfold arrR
    rw [e2] at h2
    rw [e2]
    exact h2)
theorem ia_st (S : CallFix p m c cc nL s args TT own) (hI : hw_I D t0 A s L f H locs) (hU : arrI D L f a n u) (hn : n < 2 ^ 31) {k x : Nat} (hk : k < n) (hdg : decode cc pc = .ok (.iastore, 1))
    (kk : ∀ (f' : Nat → va_E) (H' : Heap) (locs' : List Loc), hw_I D t0 A s L f' H' locs' → arrI D L f' a n (va_up u k x) → (∀ q, q ≠ a → f' q = f q) → W p l e R s m args below meth c H' locs' cells slots Q (F0 m (pc + 1) ls rest)) : W p l e R s m args below meth c H locs cells slots Q (F0 m pc ls (.int (nI x) :: .int (nI k) :: .ref a :: rest)) :=
  ia_stR S hI hU hn hk hdg (fun f' H' locs' h1 h2 h3 => kk f' H' locs' h1 (by
    have e2 : va_up (fun q => nI (u q)) k (nI x) = (fun q => nI (va_up u k x q)) := by
      funext q
      simp only [va_up]
      split <;> rfl
    unfold arrR at h2
    rw [e2] at h2
    exact h2) h3)
end HIa
/-! sums, ranks -/
def sumN (g : Nat → Nat) : Nat → Nat
  | 0 => 0
  | n + 1 => sumN g n + g n
theorem sumN_le {g : Nat → Nat} {n M : Nat} (h : ∀ q, q < n → g q ≤ M) : sumN g n ≤ n * M := by
  induction n with
  | zero => exact Nat.zero_le _
  | succ n ih =>
    have h1 := ih (fun q hq => h q (by omega))
    have h2 := h n (by omega)
    show sumN g n + g n ≤ (n + 1) * M
    rw [Nat.add_mul, Nat.one_mul]
    omega
theorem sumN_congr {g k : Nat → Nat} {n : Nat} (h : ∀ q, q < n → g q = k q) : sumN g n = sumN k n := by
  induction n with
  | zero => rfl
  | succ n ih =>
    show sumN g n + g n = sumN k n + k n
    rw [ih (fun q hq => h q (by omega)), h n (by omega)]
def rankN (g : Nat → Nat) (k : Nat) : Nat → Nat
  | 0 => 0
  | n + 1 => rankN g k n + (if g k < g n ∨ (g n = g k ∧ n < k) then 1 else 0)
theorem rankN_le {g : Nat → Nat} {k n : Nat} : rankN g k n ≤ n := by
  induction n with
  | zero => exact Nat.le_refl _
  | succ n ih =>
    show rankN g k n + _ ≤ n + 1
    split <;> omega
theorem rankN_congr {g h : Nat → Nat} {k n : Nat} (hk : g k = h k) (he : ∀ q, q < n → g q = h q) : rankN g k n = rankN h k n := by
  induction n with
  | zero => rfl
  | succ n ih =>
    show rankN g k n + _ = rankN h k n + _
    rw [ih (fun q hq => he q (by omega)), he n (by omega), hk]
def shR (N : Nat) (wt : Nat → Nat) (i : Nat) : Nat := N * wt i % sumN wt 10
def shF (N : Nat) (wt : Nat → Nat) (k : Nat) : Nat := N * wt k / sumN wt 10 + (if (rankN (shR N wt) k 10 + 1) * sumN wt 10 ≤ sumN (shR N wt) 10 then 1 else 0)

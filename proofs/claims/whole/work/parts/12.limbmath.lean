/-! steps of loops over limbs -/
theorem nvb_digit {b : Nat} {h : Nat → Nat} {t cr w dg cr' S : Nat} (hS : nvb b h t + cr * b ^ t = S) (e : dg + cr' * b = w + cr) : nvb b (va_up h t dg) (t + 1) + cr' * b ^ (t + 1) = S + w * b ^ t := by
  rw [nvb_upS, Nat.pow_succ]
  have e1 : (dg + cr' * b) * b ^ t = (w + cr) * b ^ t := by rw [e]
  rw [Nat.add_mul, Nat.add_mul, Nat.mul_assoc, Nat.mul_comm b (b ^ t)] at e1
  omega
theorem nvb_borrow {b : Nat} {h : Nat → Nat} {t bw x y dg bw' X Y : Nat} (hS : nvb b h t + Y = X + bw * b ^ t) (e : dg + y + bw = x + bw' * b) : nvb b (va_up h t dg) (t + 1) + (Y + y * b ^ t) = (X + x * b ^ t) + bw' * b ^ (t + 1) := by
  rw [nvb_upS, Nat.pow_succ]
  have e1 : (dg + y + bw) * b ^ t = (x + bw' * b) * b ^ t := by rw [e]
  rw [Nat.add_mul, Nat.add_mul, Nat.add_mul, Nat.mul_assoc, Nat.mul_comm b (b ^ t)] at e1
  omega
/-- the limb that limbAt tells -/
def padl (u : Nat × (Nat → Nat)) (q : Nat) : Nat := if q < u.1 then u.2 q else 0
theorem padl_lt {b : Nat} {u : Nat × (Nat → Nat)} (hb : 0 < b) (h : ∀ j, u.2 j < b) (q : Nat) : padl u q < b := by
  unfold padl; split
  · exact h q
  · exact hb
theorem nvb_padl {b : Nat} {u : Nat × (Nat → Nat)} {n : Nat} (h : u.1 ≤ n) : nvb b (padl u) n = nvb b u.2 u.1 := by
  have h1 : nvb b (padl u) n = nvb b (padl u) u.1 := nvb_zeros h (fun j h1 h2 => by unfold padl; rw [if_neg (by omega)])
  rw [h1]
  exact nvb_congr (fun j hj => by unfold padl; rw [if_pos hj])
/-- what settle leaves -/
theorem nOk_settle {b n n' : Nat} {h : Nat → Nat} (hb : ∀ j, h j < b) (hn : n' ≤ n) (ht : 0 < n' → 0 < h (n' - 1)) (hz : ∀ j, n' ≤ j → j < n → h j = 0) : nOk b n' h (nvb b h n) := ⟨hb, ht, (nvb_zeros hn hz).symm⟩
/-- all wholes hold numbers -/
def AllN (D : va_G) (L : List Nat) (f : Nat → va_E) (o r : Nat → Nat) (N : Nat) (x : Nat → Nat) : Prop := ∃ v, AllW D L f o r N v ∧ ∀ i, i < N → (v i).1 ≤ 41 ∧ nOk nB (v i).1 (v i).2 (x i)
theorem AllN.mk {D : va_G} {L : List Nat} {f : Nat → va_E} {o r : Nat → Nat} {N : Nat} {x : Nat → Nat} {v : Nat → Nat × (Nat → Nat)} {i n y : Nat} {h : Nat → Nat} (ho : ∀ i, i < N → (v i).1 ≤ 41 ∧ nOk nB (v i).1 (v i).2 (x i)) (hV : AllW D L f o r N (va_up v i (n, h))) (hn : n ≤ 41) (hk : nOk nB n h y) : AllN D L f o r N (va_up x i y) := by
  refine ⟨_, hV, fun j hj => ?_⟩
  by_cases e : j = i
  · subst e; rw [hw_up_eq, hw_up_eq]; exact ⟨hn, hk⟩
  · rw [hw_up_ne e, hw_up_ne e]; exact ho j hj
theorem AllN.frame {D : va_G} {L : List Nat} {f f' : Nat → va_E} {o r : Nat → Nat} {N : Nat} {x : Nat → Nat} (h : AllN D L f o r N x) (hf : ∀ i, i < N → f' (o i) = f (o i) ∧ f' (r i) = f (r i)) : AllN D L f' o r N x := by
  obtain ⟨v, hV, ho⟩ := h
  exact ⟨v, fun i hi => ⟨⟨(hV i hi).1.1, (hf i hi).1.trans (hV i hi).1.2⟩, ⟨(hV i hi).2.1, (hf i hi).2.trans (hV i hi).2.2⟩⟩, ho⟩
theorem lN0 {a : Nat} (h : a < 2 ^ 63) : lN a = lN 0 ↔ a = 0 := pk_lEQ h (by decide)
theorem nB63 {a : Nat} (h : a < nB) : a < 2 ^ 63 := Nat.lt_trans h (by decide)
section HS
variable {p : Program} {l : Launch} {e : Env} {R : Room} {s : State} {m : MethodId} {args : Array Value} {below : List Frame} {meth : Method} {c : Code} {H : Heap} {locs : List Loc} {cells slots : Nat} {Q : State → Prop} {pc : Nat} {ls : Array Slot}
theorem hw_stk {st st' : List Value} (h : st = st') (k : W p l e R s m args below meth c H locs cells slots Q (F0 m pc ls st')) : W p l e R s m args below meth c H locs cells slots Q (F0 m pc ls st) := h ▸ k
end HS

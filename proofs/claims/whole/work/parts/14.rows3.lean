theorem AllW.arr {D : va_G} {L : List Nat} {f : Nat → va_E} {o r : Nat → Nat} {N : Nat} {v : Nat → Nat × (Nat → Nat)} (h : AllW D L f o r N v) (hY : Lay o r N) {i : Nat} (hi : i < N) (g : Nat → Nat) : AllW D L (va_up f (r i) (.inl (D.1 100, 41, .inr (.inl (fun q => lN (g q)))))) o r N (va_up v i ((v i).1, g)) := by
  intro j hj
  by_cases e : j = i
  · subst e
    rw [hw_up_eq]
    exact ⟨(h j hj).1.up (h.or hj hj), (h j hj).2.self⟩
  · rw [hw_up_ne e]
    exact ⟨(h j hj).1.up (h.or hj hi), (h j hj).2.up (fun q => e (hY.2 j i hj hi q))⟩
section HCp
variable {p : Program} {l : Launch} {e : Env} {R : Room} {s : State} {m : MethodId} {args : Array Value} {below : List Frame} {meth : Method} {c : Code} {H : Heap} {locs : List Loc} {cells slots : Nat} {Q : State → Prop}
variable {cc : ByteArray} {pc nL : Nat} {ls : Array Slot} {rest : List Value} {D : va_G} {t0 : Nat} {A : Nat → Prop} {L : List Nat} {f : Nat → va_E} {o r : Nat → Nat} {N : Nat} {v : Nat → Nat × (Nat → Nat)} {i : Nat} {own : String} {index : Nat}
theorem wh_copy (S : CallFix p m c cc nL s args TT own) (hI : hw_I D t0 A s L f H locs) (hV : AllW D L f o r N v) (hY : Lay o r N) (hi : i < N) {a0 n0 : Nat} {h0 : Nat → Nat} (ha0 : hw_c L f a0 (.inl (D.1 100, n0, .inr (.inl (fun q => lN (h0 q)))))) (hls : ls.size = nL) (hl : Cond.methodLink own index arraycopyName ∈ TT) {n : Nat} (hn : n ≤ 41) (hn0 : n ≤ n0)
    (hframes : 1 ≤ R.frames) (hlocals : (rest.map fun v => v.category).sum + (nativeFrameWords "java/lang/System" "arraycopy" 5 + 11) ≤ R.locals) (hdg : decode cc pc = .ok (.invokestatic index, 3))
    (kk : ∀ (f' : Nat → va_E) (H' : Heap) (locs' : List Loc), hw_I D t0 A s L f' H' locs' → AllW D L f' o r N (va_up v i ((v i).1, fun q => if q < n then h0 q else (v i).2 q)) → (∀ q, q ≠ r i → f' q = f q) → W p l e R s m args below meth c H' locs' cells slots Q (F0 m (pc + 3) ls rest)) : W p l e R s m args below meth c H locs cells slots Q (F0 m pc ls (.int (nI n) :: .int (nI 0) :: .ref (r i) :: .int (nI 0) :: .ref a0 :: rest)) := by
  have e0 : (nI 0).toNatClampNeg = 0 := nI_clamp (by decide)
  have en : (nI n).toNatClampNeg = n := nI_clamp (by omega)
  refine hw_copyl S.1 S.2.1 (S.2.2.1.trans hls.symm) S.2.2.2.1 (S.2.2.2.2 _ hl) (S.2.2.2.2 _ w_355) (S.2.2.2.2 _ w_354) (S.2.2.2.2 _ w_16) hI 0 0 ha0 (hV i hi).2 rfl rfl (nI_pos (by decide)) (nI_pos (by decide)) (nI_pos (by omega)) (by rw [e0, en]; omega) (by rw [e0, en]; omega) hframes hlocals hdg (fun H1 locs1 h => ?_)
  rw [e0, en] at h
  have e2 : va_cpy (fun q => lN (h0 q)) (fun q => lN ((v i).2 q)) 0 0 n = fun q => lN (if q < n then h0 q else (v i).2 q) := by
    funext q
    unfold va_cpy
    by_cases hq : q < n
    · rw [if_pos ⟨Nat.zero_le _, by omega⟩, if_pos hq, Nat.zero_add, Nat.sub_zero]
    · rw [if_neg (by omega), if_neg hq]
  rw [e2] at h
  exact kk _ H1 locs1 h (hV.arr hY hi _) (fun q hq => hw_up_ne hq)
end HCp
/-! numbers and their limbs -/
theorem nB1 : 1 < nB := by decide
theorem nOk_one {n x : Nat} {h : Nat → Nat} (hk : nOk nB n h x) : (n = 1 ∧ h 0 = 1) ↔ x = 1 := by
  constructor
  · rintro ⟨h1, h2⟩
    rw [← hk.2.2, h1, nvb_succ, nvb_zero, h2]
    rfl
  · intro e
    have h1 : n ≤ 1 := (hk.size_le nB1).mpr (by rw [e]; decide)
    have h2 : n ≠ 0 := fun h => by have := (hk.zero nB_pos).mp h; omega
    have h3 : n = 1 := by omega
    refine ⟨h3, ?_⟩
    have h4 := hk.2.2
    rw [h3, nvb_succ, nvb_zero, Nat.pow_zero, Nat.mul_one, Nat.zero_add] at h4
    omega
theorem nOk_low {x : Nat} {u : Nat × (Nat → Nat)} (hk : nOk nB u.1 u.2 x) (hx : x < nB ^ 2) : padl u 1 * nB + padl u 0 = x := by
  have h1 : u.1 ≤ 2 := (hk.size_le nB1).mpr hx
  have h2 := nvb_padl (b := nB) h1
  rw [hk.2.2, nvb_succ, nvb_succ, nvb_zero, Nat.pow_zero, Nat.pow_one] at h2
  omega
def cmpN (a b : Nat) : Int32 := if a < b then -1 else if a = b then 0 else 1
theorem cmpN_lt {a b : Nat} (h : a < b) : cmpN a b = -1 := if_pos h
theorem cmpN_eq {a b : Nat} (h : a = b) : cmpN a b = 0 := by unfold cmpN; rw [if_neg (by omega), if_pos h]
theorem cmpN_gt {a b : Nat} (h : b < a) : cmpN a b = 1 := by unfold cmpN; rw [if_neg (by omega), if_neg (by omega)]
theorem nOk_size_lt {n m x y : Nat} {f g : Nat → Nat} (h : nOk nB n f x) (k : nOk nB m g y) (hl : n < m) : x < y := by
  have h1 := h.lt
  have h2 := k.ge (by omega)
  have h3 : nB ^ n ≤ nB ^ (m - 1) := Nat.pow_le_pow_right nB_pos (by omega)
  omega
theorem up_fst {v : Nat → Nat × (Nat → Nat)} {i j : Nat} {g : Nat → Nat} : (va_up v i ((v i).1, g) j).1 = (v j).1 := by
  by_cases e : j = i
  · subst e; rw [hw_up_eq]
  · rw [hw_up_ne e]
theorem up_snd {v : Nat → Nat × (Nat → Nat)} {i j q n : Nat} {g : Nat → Nat} (h : g q = (v i).2 q) : (va_up v i (n, g) j).2 q = (v j).2 q := by
  by_cases e : j = i
  · subst e; rw [hw_up_eq]; exact h
  · rw [hw_up_ne e]

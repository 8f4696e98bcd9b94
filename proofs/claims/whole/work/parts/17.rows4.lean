/-! rows of longs that stand alone; fields of nest mates -/
def arrN (D : va_G) (L : List Nat) (f : Nat → va_E) (a n : Nat) (u : Nat → Nat) : Prop := hw_c L f a (.inl (D.1 100, n, .inr (.inl (fun q => lN (u q)))))
theorem hw_c.fr {L : List Nat} {f f' : Nat → va_E} {a : Nat} {e : va_E} (h : hw_c L f a e) (hf : f' a = f a) : hw_c L f' a e := ⟨h.1, hf.trans h.2⟩
theorem AllW.fr {D : va_G} {L : List Nat} {f f' : Nat → va_E} {o r : Nat → Nat} {N : Nat} {v : Nat → Nat × (Nat → Nat)} (h : AllW D L f o r N v) (hf : ∀ i, i < N → f' (o i) = f (o i) ∧ f' (r i) = f (r i)) : AllW D L f' o r N v := fun i hi => ⟨(h i hi).1.fr (hf i hi).1, (h i hi).2.fr (hf i hi).2⟩
theorem AllW.ne {D : va_G} {L : List Nat} {f : Nat → va_E} {o r : Nat → Nat} {N : Nat} {v : Nat → Nat × (Nat → Nat)} (h : AllW D L f o r N v) {a i : Nat} {x : ClassId × vp_A} (ha : hw_c L f a (.inl x)) (hi : i < N) : o i ≠ a := fun e => hw_ne ha (h i hi).1 e.symm
section HAr
variable {p : Program} {l : Launch} {e : Env} {R : Room} {s : State} {m : MethodId} {args : Array Value} {below : List Frame} {meth : Method} {c : Code} {H : Heap} {locs : List Loc} {cells slots : Nat} {Q : State → Prop}
variable {cc : ByteArray} {pc nL : Nat} {ls : Array Slot} {rest : List Value} {D : va_G} {t0 : Nat} {A : Nat → Prop} {L : List Nat} {f : Nat → va_E} {o r : Nat → Nat} {N : Nat} {v : Nat → Nat × (Nat → Nat)} {i : Nat} {own : String} {index a n : Nat} {u : Nat → Nat}
theorem ar_ld (S : CallFix p m c cc nL s args TT own) (hI : hw_I D t0 A s L f H locs) (hU : arrN D L f a n u) (hn : n < 2 ^ 31) {k : Nat} (hk : k < n) (hdg : decode cc pc = .ok (.laload, 1))
    (kk : W p l e R s m args below meth c H locs cells slots Q (F0 m (pc + 1) ls (.long (lN (u k)) :: rest))) : W p l e R s m args below meth c H locs cells slots Q (F0 m pc ls (.int (nI k) :: .ref a :: rest)) :=
  hw_lald S.1 S.2.1 hI 0 hU rfl (vp_in_nI hk hn) hdg (by rw [nI_clamp (by omega)]; exact kk)
theorem ar_st (S : CallFix p m c cc nL s args TT own) (hI : hw_I D t0 A s L f H locs) (hU : arrN D L f a n u) (hn : n < 2 ^ 31) {k x : Nat} (hk : k < n) (hdg : decode cc pc = .ok (.lastore, 1))
    (kk : ∀ (f' : Nat → va_E) (H' : Heap) (locs' : List Loc), hw_I D t0 A s L f' H' locs' → arrN D L f' a n (va_up u k x) → (∀ q, q ≠ a → f' q = f q) → W p l e R s m args below meth c H' locs' cells slots Q (F0 m (pc + 1) ls rest)) : W p l e R s m args below meth c H locs cells slots Q (F0 m pc ls (.long (lN x) :: .int (nI k) :: .ref a :: rest)) :=
  hw_last S.1 S.2.1 hI 0 hU rfl (vp_in_nI hk hn) hdg (fun H1 locs1 h => by
    rw [nI_clamp (by omega)] at h
    refine kk _ H1 locs1 h ?_ (fun q hq => hw_up_ne hq)
    have e2 : (vp_updL (fun q => lN (u q)) k (lN x)) = (fun q => lN (va_up u k x q)) := by
      funext q
      simp only [vp_updL, va_up]
      split <;> rfl
    have h2 := hU.self (e' := (.inl (D.1 100, n, .inr (.inl (vp_updL (fun q => lN (u q)) k (lN x))))))
    unfold arrN
    rw [e2] at h2
    rw [e2]
    exact h2)
theorem wh_limbsN (S : CallFix p m c cc nL s args TT own) (hI : hw_I D t0 A s L f H locs) (hV : AllW D L f o r N v) (hi : i < N) (hl : (own, index, "WallFractions$Whole", "limbs", "[J") ∈ NF) (hdg : decode cc pc = .ok (.getfield index, 3))
    (kk : W p l e R s m args below meth c H locs cells slots Q (F0 m (pc + 3) ls (.ref (r i) :: rest))) : W p l e R s m args below meth c H locs cells slots Q (F0 m pc ls (.ref (o i) :: rest)) :=
  hw_getN S.1 S.2.1 (C := R_Wh) (T := F_Wh) (N := 2) (ref := "WallFractions$Whole") (host := "WallFractions") S.2.2.2.2 i_Wh S.2.2.2.1 hI (hV i hi).1 rfl 0 (by decide) (va_Nw.use rfl (hI.2.2.2.2.2.1 _ hl)) (fun _ h => h) rfl hdg kk
theorem wh_sizeN (S : CallFix p m c cc nL s args TT own) (hI : hw_I D t0 A s L f H locs) (hV : AllW D L f o r N v) (hi : i < N) (hl : (own, index, "WallFractions$Whole", "size", "I") ∈ NF) (hdg : decode cc pc = .ok (.getfield index, 3))
    (kk : W p l e R s m args below meth c H locs cells slots Q (F0 m (pc + 3) ls (.int (nI (v i).1) :: rest))) : W p l e R s m args below meth c H locs cells slots Q (F0 m pc ls (.ref (o i) :: rest)) :=
  hw_getN S.1 S.2.1 (C := R_Wh) (T := F_Wh) (N := 2) (ref := "WallFractions$Whole") (host := "WallFractions") S.2.2.2.2 i_Wh S.2.2.2.1 hI (hV i hi).1 rfl 1 (by decide) (va_Nw.use rfl (hI.2.2.2.2.2.1 _ hl)) (fun _ h => h) rfl hdg kk
variable {ad al ab : Nat}
theorem dv_left (S : CallFix p m c cc nL s args TT "WallFractions$Divider") (hI : hw_I D t0 A s L f H locs) (hA : hw_c L f ad (.inr (0, [.ref al, .ref ab]))) (hdg : decode cc pc = .ok (.getfield 9, 3))
    (kk : W p l e R s m args below meth c H locs cells slots Q (F0 m (pc + 3) ls (.ref al :: rest))) : W p l e R s m args below meth c H locs cells slots Q (F0 m pc ls (.ref ad :: rest)) :=
  hw_get S.1 S.2.1 (C := R_Dv) (T := F_Dv) (N := 2) (ref := "WallFractions$Divider") S.2.2.2.2 i_Dv S.2.2.2.1 hI hA rfl 0 (by decide) (S.2.2.2.2 _ w_79) (fun _ h => h) rfl hdg kk
theorem dv_by (S : CallFix p m c cc nL s args TT "WallFractions$Divider") (hI : hw_I D t0 A s L f H locs) (hA : hw_c L f ad (.inr (0, [.ref al, .ref ab]))) (hdg : decode cc pc = .ok (.getfield 15, 3))
    (kk : W p l e R s m args below meth c H locs cells slots Q (F0 m (pc + 3) ls (.ref ab :: rest))) : W p l e R s m args below meth c H locs cells slots Q (F0 m pc ls (.ref ad :: rest)) :=
  hw_get S.1 S.2.1 (C := R_Dv) (T := F_Dv) (N := 2) (ref := "WallFractions$Divider") S.2.2.2.2 i_Dv S.2.2.2.1 hI hA rfl 1 (by decide) (S.2.2.2.2 _ w_80) (fun _ h => h) rfl hdg kk
end HAr
/-! whole longs and their sign -/
def zL (z : Int) : Int64 := Int64.ofInt z
theorem zL_lN (n : Nat) : lN n = zL (n : Int) := rfl
theorem zL_sub (a b : Int) : zL a - zL b = zL (a - b) := (Int64.ofInt_sub a b).symm
theorem zL_add (a b : Int) : zL a + zL b = zL (a + b) := (Int64.ofInt_add a b).symm
theorem zL_mul (a b : Int) : zL a * zL b = zL (a * b) := (Int64.ofInt_mul a b).symm
theorem zL_neg (a : Int) : -zL a = zL (-a) := (Int64.ofInt_neg a).symm
theorem zL_ti {z : Int} (h1 : -2 ^ 63 ≤ z) (h2 : z < 2 ^ 63) : (zL z).toInt = z := Int64.toInt_ofInt_of_le h1 h2
theorem zL_le {a b : Int} (h1 : -2 ^ 63 ≤ a) (h2 : a < 2 ^ 63) (h3 : -2 ^ 63 ≤ b) (h4 : b < 2 ^ 63) : zL a ≤ zL b ↔ a ≤ b := by rw [Int64.le_iff_toInt_le, zL_ti h1 h2, zL_ti h3 h4]
theorem zL_lt {a b : Int} (h1 : -2 ^ 63 ≤ a) (h2 : a < 2 ^ 63) (h3 : -2 ^ 63 ≤ b) (h4 : b < 2 ^ 63) : zL a < zL b ↔ a < b := by rw [Int64.lt_iff_toInt_lt, zL_ti h1 h2, zL_ti h3 h4]
theorem zL_eq {a b : Int} (h1 : -2 ^ 63 ≤ a) (h2 : a < 2 ^ 63) (h3 : -2 ^ 63 ≤ b) (h4 : b < 2 ^ 63) : zL a = zL b ↔ a = b := ⟨fun h => by have := congrArg Int64.toInt h; rwa [zL_ti h1 h2, zL_ti h3 h4] at this, fun h => by rw [h]⟩
theorem zL_div {a b : Int} (h1 : -2 ^ 63 < a) (h2 : a < 2 ^ 63) (h3 : 0 < b) (h4 : b < 2 ^ 63) : (zL a / zL b) = zL (a.tdiv b) := by
  refine Int64.toInt_inj.mp ?_
  have hb : (zL b).toInt = b := zL_ti (by omega) h4
  have ha : (zL a).toInt = a := zL_ti (by omega) h2
  have hq : -2 ^ 63 ≤ a.tdiv b ∧ a.tdiv b < 2 ^ 63 := by
    have h5 := Int.natAbs_tdiv_le_natAbs a b
    omega
  rw [zL_ti hq.1 hq.2, Int64.toInt_div, ha, hb, Int.bmod_eq_of_le (by omega) (by omega)]
theorem zL_xor_ge {a b : Int} (h1 : -2 ^ 63 ≤ a) (h2 : a < 2 ^ 63) (h3 : 0 < b) (h4 : b < 2 ^ 63) : zL 0 ≤ zL a ^^^ zL b ↔ 0 ≤ a := by
  have ha : (zL a).toInt = a := zL_ti h1 h2
  have hb : (zL b).toInt = b := zL_ti (by omega) h4
  have k : ∀ z : Int64, zL 0 ≤ z ↔ z.toBitVec.msb = false := by
    intro z
    rw [Int64.le_iff_toInt_le, zL_ti (by decide) (by decide), BitVec.msb_eq_toInt]
    show 0 ≤ z.toBitVec.toInt ↔ _
    rw [decide_eq_false_iff_not]
    omega
  rw [k, Int64.toBitVec_xor, BitVec.msb_xor, BitVec.msb_eq_toInt, BitVec.msb_eq_toInt]
  have ha2 : (zL a).toBitVec.toInt = a := ha
  have hb2 : (zL b).toBitVec.toInt = b := hb
  rw [ha2, hb2, decide_eq_false (show ¬ b < 0 by omega), Bool.xor_false, decide_eq_false_iff_not]
  omega
theorem fdiv_pos {a b : Int} (ha : 0 ≤ a) (hb : 0 < b) : a.tdiv b = a / b := Int.tdiv_eq_ediv_of_nonneg ha
theorem fdiv_neg {a b : Int} (ha : a < 0) (hb : 0 < b) : (a.tdiv b * b = a → a / b = a.tdiv b) ∧ (a.tdiv b * b ≠ a → a / b = a.tdiv b - 1) := by
  have h1 := Int.mul_tdiv_add_tmod a b
  have h2 : a.tmod b ≤ 0 := by
    have := Int.tmod_nonneg (a := -a) b (by omega)
    rw [Int.neg_tmod] at this
    omega
  have h3 : -b < a.tmod b := Int.lt_tmod_of_pos a hb
  generalize a.tdiv b = q at *
  generalize a.tmod b = t at *
  constructor
  · intro h
    rw [← h, Int.mul_ediv_cancel _ (by omega)]
  · intro h
    have h4 : t ≠ 0 := fun h0 => h (by rw [h0] at h1; rw [Int.mul_comm]; omega)
    have h5 : a = (t + b) + b * (q - 1) := by rw [Int.mul_sub, Int.mul_one]; omega
    rw [h5, Int.add_mul_ediv_left _ _ (by omega), Int.ediv_eq_zero_of_lt (by omega) (by omega)]
    omega

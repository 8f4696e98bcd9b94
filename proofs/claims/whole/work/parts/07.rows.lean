/-! rows on small naturals -/
section HR
variable {p : Program} {l : Launch} {e : Env} {R : Room} {s : State} {m : MethodId} {args : Array Value} {below : List Frame} {meth : Method} {c : Code} {H : Heap} {locs : List Loc} {cells slots : Nat} {Q : State → Prop}
variable {cc : ByteArray} {pc : Nat} {ls : Array Slot} {rest : List Value}
theorem hw_ti {x y : Int32} (h : x = y) (k : W p l e R s m args below meth c H locs cells slots Q (F0 m pc ls (.int y :: rest))) : W p l e R s m args below meth c H locs cells slots Q (F0 m pc ls (.int x :: rest)) := h ▸ k
theorem hw_tl {x y : Int64} (h : x = y) (k : W p l e R s m args below meth c H locs cells slots Q (F0 m pc ls (.long y :: rest))) : W p l e R s m args below meth c H locs cells slots Q (F0 m pc ls (.long x :: rest)) := h ▸ k
theorem hw_pc {q : Nat} {st : List Value} (h : pc = q) (k : W p l e R s m args below meth c H locs cells slots Q (F0 m q ls st)) : W p l e R s m args below meth c H locs cells slots Q (F0 m pc ls st) := h ▸ k
variable {a b tgt : Nat} {off : Int}
theorem hw_icmp_ge (hx : p.tables.exec = Jvm.exec) (hb : c.code = cc) (hdg : decode cc pc = .ok (.if_icmp .ge off, 3)) (ht : (pc : Int) + off = (tgt : Int)) (h1 : a < 2 ^ 31) (h2 : b < 2 ^ 31) (k1 : b ≤ a → W p l e R s m args below meth c H locs cells slots Q (F0 m tgt ls rest)) (k2 : a < b → W p l e R s m args below meth c H locs cells slots Q (F0 m (pc + 3) ls rest)) : W p l e R s m args below meth c H locs cells slots Q (F0 m pc ls (.int (nI b) :: .int (nI a) :: rest)) :=
  lv_icmp_ge hx hb hdg ht (fun h => k1 ((nI_leI h2 h1).mp h)) (fun h => k2 (Nat.not_le.mp fun q => h ((nI_leI h2 h1).mpr q)))
theorem hw_icmp_lt (hx : p.tables.exec = Jvm.exec) (hb : c.code = cc) (hdg : decode cc pc = .ok (.if_icmp .lt off, 3)) (ht : (pc : Int) + off = (tgt : Int)) (h1 : a < 2 ^ 31) (h2 : b < 2 ^ 31) (k1 : a < b → W p l e R s m args below meth c H locs cells slots Q (F0 m tgt ls rest)) (k2 : b ≤ a → W p l e R s m args below meth c H locs cells slots Q (F0 m (pc + 3) ls rest)) : W p l e R s m args below meth c H locs cells slots Q (F0 m pc ls (.int (nI b) :: .int (nI a) :: rest)) :=
  lv_icmp_lt hx hb hdg ht (fun h => k1 ((nI_ltI h1 h2).mp h)) (fun h => k2 (Nat.not_lt.mp fun q => h ((nI_ltI h1 h2).mpr q)))
theorem hw_icmp_gt (hx : p.tables.exec = Jvm.exec) (hb : c.code = cc) (hdg : decode cc pc = .ok (.if_icmp .gt off, 3)) (ht : (pc : Int) + off = (tgt : Int)) (h1 : a < 2 ^ 31) (h2 : b < 2 ^ 31) (k1 : b < a → W p l e R s m args below meth c H locs cells slots Q (F0 m tgt ls rest)) (k2 : a ≤ b → W p l e R s m args below meth c H locs cells slots Q (F0 m (pc + 3) ls rest)) : W p l e R s m args below meth c H locs cells slots Q (F0 m pc ls (.int (nI b) :: .int (nI a) :: rest)) :=
  lv_icmp_gt hx hb hdg ht (fun h => k1 ((nI_ltI h2 h1).mp h)) (fun h => k2 (Nat.not_lt.mp fun q => h ((nI_ltI h2 h1).mpr q)))
theorem hw_icmp_le (hx : p.tables.exec = Jvm.exec) (hb : c.code = cc) (hdg : decode cc pc = .ok (.if_icmp .le off, 3)) (ht : (pc : Int) + off = (tgt : Int)) (h1 : a < 2 ^ 31) (h2 : b < 2 ^ 31) (k1 : a ≤ b → W p l e R s m args below meth c H locs cells slots Q (F0 m tgt ls rest)) (k2 : b < a → W p l e R s m args below meth c H locs cells slots Q (F0 m (pc + 3) ls rest)) : W p l e R s m args below meth c H locs cells slots Q (F0 m pc ls (.int (nI b) :: .int (nI a) :: rest)) :=
  lv_icmp_le hx hb hdg ht (fun h => k1 ((nI_leI h1 h2).mp h)) (fun h => k2 (Nat.not_le.mp fun q => h ((nI_leI h1 h2).mpr q)))
theorem hw_icmp_eq (hx : p.tables.exec = Jvm.exec) (hb : c.code = cc) (hdg : decode cc pc = .ok (.if_icmp .eq off, 3)) (ht : (pc : Int) + off = (tgt : Int)) (h1 : a < 2 ^ 31) (h2 : b < 2 ^ 31) (k1 : a = b → W p l e R s m args below meth c H locs cells slots Q (F0 m tgt ls rest)) (k2 : a ≠ b → W p l e R s m args below meth c H locs cells slots Q (F0 m (pc + 3) ls rest)) : W p l e R s m args below meth c H locs cells slots Q (F0 m pc ls (.int (nI b) :: .int (nI a) :: rest)) :=
  lv_icmp_eq hx hb hdg ht (fun h => k1 ((nI_eq h1 h2).mp h)) (fun h => k2 (fun q => h ((nI_eq h1 h2).mpr q)))
theorem hw_icmp_ne (hx : p.tables.exec = Jvm.exec) (hb : c.code = cc) (hdg : decode cc pc = .ok (.if_icmp .ne off, 3)) (ht : (pc : Int) + off = (tgt : Int)) (h1 : a < 2 ^ 31) (h2 : b < 2 ^ 31) (k1 : a ≠ b → W p l e R s m args below meth c H locs cells slots Q (F0 m tgt ls rest)) (k2 : a = b → W p l e R s m args below meth c H locs cells slots Q (F0 m (pc + 3) ls rest)) : W p l e R s m args below meth c H locs cells slots Q (F0 m pc ls (.int (nI b) :: .int (nI a) :: rest)) :=
  lv_icmp_ne hx hb hdg ht (fun h => k1 (fun q => h ((nI_eq h1 h2).mpr q))) (fun h => k2 ((nI_eq h1 h2).mp h))
theorem hw_if_eq (hx : p.tables.exec = Jvm.exec) (hb : c.code = cc) (hdg : decode cc pc = .ok (.ifCond .eq off, 3)) (ht : (pc : Int) + off = (tgt : Int)) (h1 : a < 2 ^ 31) (k1 : a = 0 → W p l e R s m args below meth c H locs cells slots Q (F0 m tgt ls rest)) (k2 : a ≠ 0 → W p l e R s m args below meth c H locs cells slots Q (F0 m (pc + 3) ls rest)) : W p l e R s m args below meth c H locs cells slots Q (F0 m pc ls (.int (nI a) :: rest)) :=
  lv_if_eq hx hb hdg ht (fun h => k1 ((nI_eq h1 (b := 0) (by decide)).mp h)) (fun h => k2 (fun q => h ((nI_eq h1 (b := 0) (by decide)).mpr q)))
theorem hw_if_ne (hx : p.tables.exec = Jvm.exec) (hb : c.code = cc) (hdg : decode cc pc = .ok (.ifCond .ne off, 3)) (ht : (pc : Int) + off = (tgt : Int)) (h1 : a < 2 ^ 31) (k1 : a ≠ 0 → W p l e R s m args below meth c H locs cells slots Q (F0 m tgt ls rest)) (k2 : a = 0 → W p l e R s m args below meth c H locs cells slots Q (F0 m (pc + 3) ls rest)) : W p l e R s m args below meth c H locs cells slots Q (F0 m pc ls (.int (nI a) :: rest)) :=
  lv_if_ne hx hb hdg ht (fun h => k1 (fun q => h ((nI_eq h1 (b := 0) (by decide)).mpr q))) (fun h => k2 ((nI_eq h1 (b := 0) (by decide)).mp h))
theorem hw_if_le (hx : p.tables.exec = Jvm.exec) (hb : c.code = cc) (hdg : decode cc pc = .ok (.ifCond .le off, 3)) (ht : (pc : Int) + off = (tgt : Int)) (h1 : a < 2 ^ 31) (k1 : a = 0 → W p l e R s m args below meth c H locs cells slots Q (F0 m tgt ls rest)) (k2 : 0 < a → W p l e R s m args below meth c H locs cells slots Q (F0 m (pc + 3) ls rest)) : W p l e R s m args below meth c H locs cells slots Q (F0 m pc ls (.int (nI a) :: rest)) :=
  lv_if_le hx hb hdg ht (fun h => k1 (Nat.le_zero.mp ((nI_leI h1 (b := 0) (by decide)).mp h))) (fun h => k2 (Nat.pos_of_ne_zero fun q => h ((nI_leI h1 (b := 0) (by decide)).mpr (Nat.le_of_eq q))))
theorem hw_if_gt (hx : p.tables.exec = Jvm.exec) (hb : c.code = cc) (hdg : decode cc pc = .ok (.ifCond .gt off, 3)) (ht : (pc : Int) + off = (tgt : Int)) (h1 : a < 2 ^ 31) (k1 : 0 < a → W p l e R s m args below meth c H locs cells slots Q (F0 m tgt ls rest)) (k2 : a = 0 → W p l e R s m args below meth c H locs cells slots Q (F0 m (pc + 3) ls rest)) : W p l e R s m args below meth c H locs cells slots Q (F0 m pc ls (.int (nI a) :: rest)) :=
  lv_if_gt hx hb hdg ht (fun h => k1 ((nI_ltI (a := 0) (by decide) h1).mp h)) (fun h => k2 (Nat.le_zero.mp (Nat.not_lt.mp fun q => h ((nI_ltI (a := 0) (by decide) h1).mpr q))))
theorem hw_if_lt (hx : p.tables.exec = Jvm.exec) (hb : c.code = cc) (hdg : decode cc pc = .ok (.ifCond .lt off, 3)) (ht : (pc : Int) + off = (tgt : Int)) (h1 : a < 2 ^ 31) (k2 : W p l e R s m args below meth c H locs cells slots Q (F0 m (pc + 3) ls rest)) : W p l e R s m args below meth c H locs cells slots Q (F0 m pc ls (.int (nI a) :: rest)) :=
  lv_if_lt hx hb hdg ht (fun h => absurd h (nI_pos h1)) (fun _ => k2)
theorem hw_if_ge (hx : p.tables.exec = Jvm.exec) (hb : c.code = cc) (hdg : decode cc pc = .ok (.ifCond .ge off, 3)) (ht : (pc : Int) + off = (tgt : Int)) (h1 : a < 2 ^ 31) (k1 : W p l e R s m args below meth c H locs cells slots Q (F0 m tgt ls rest)) : W p l e R s m args below meth c H locs cells slots Q (F0 m pc ls (.int (nI a) :: rest)) :=
  lv_if_ge hx hb hdg ht (fun _ => k1) (fun h => absurd (nI_pos' h1) h)
/-! two longs compared, and the branch behind it -/
variable {x y : Int64}
theorem hw_l_eq (hx : p.tables.exec = Jvm.exec) (hb : c.code = cc) (hd0 : decode cc pc = .ok (.lcmp, 1)) (hdg : decode cc (pc + 1) = .ok (.ifCond .eq off, 3)) (ht : ((pc + 1 : Nat) : Int) + off = (tgt : Int)) (k1 : x = y → W p l e R s m args below meth c H locs cells slots Q (F0 m tgt ls rest)) (k2 : x ≠ y → W p l e R s m args below meth c H locs cells slots Q (F0 m (pc + 4) ls rest)) : W p l e R s m args below meth c H locs cells slots Q (F0 m pc ls (.long y :: .long x :: rest)) :=
  W.lcmp hx hb hd0 (lv_if_eq hx hb hdg ht (fun h => k1 ((lg_cmp_eq x y).mp h)) (fun h => k2 (fun q => h ((lg_cmp_eq x y).mpr q))))
theorem hw_l_ne (hx : p.tables.exec = Jvm.exec) (hb : c.code = cc) (hd0 : decode cc pc = .ok (.lcmp, 1)) (hdg : decode cc (pc + 1) = .ok (.ifCond .ne off, 3)) (ht : ((pc + 1 : Nat) : Int) + off = (tgt : Int)) (k1 : x ≠ y → W p l e R s m args below meth c H locs cells slots Q (F0 m tgt ls rest)) (k2 : x = y → W p l e R s m args below meth c H locs cells slots Q (F0 m (pc + 4) ls rest)) : W p l e R s m args below meth c H locs cells slots Q (F0 m pc ls (.long y :: .long x :: rest)) :=
  W.lcmp hx hb hd0 (lv_if_ne hx hb hdg ht (fun h => k1 (fun q => h ((lg_cmp_eq x y).mpr q))) (fun h => k2 ((lg_cmp_eq x y).mp h)))
theorem hw_l_ge (hx : p.tables.exec = Jvm.exec) (hb : c.code = cc) (hd0 : decode cc pc = .ok (.lcmp, 1)) (hdg : decode cc (pc + 1) = .ok (.ifCond .ge off, 3)) (ht : ((pc + 1 : Nat) : Int) + off = (tgt : Int)) (k1 : y ≤ x → W p l e R s m args below meth c H locs cells slots Q (F0 m tgt ls rest)) (k2 : x < y → W p l e R s m args below meth c H locs cells slots Q (F0 m (pc + 4) ls rest)) : W p l e R s m args below meth c H locs cells slots Q (F0 m pc ls (.long y :: .long x :: rest)) :=
  W.lcmp hx hb hd0 (lv_if_ge hx hb hdg ht (fun h => k1 ((lg_cmp_ge x y).mp h)) (fun h => k2 (Int64.not_le.mp (fun q => h ((lg_cmp_ge x y).mpr q)))))
theorem hw_l_lt (hx : p.tables.exec = Jvm.exec) (hb : c.code = cc) (hd0 : decode cc pc = .ok (.lcmp, 1)) (hdg : decode cc (pc + 1) = .ok (.ifCond .lt off, 3)) (ht : ((pc + 1 : Nat) : Int) + off = (tgt : Int)) (k1 : x < y → W p l e R s m args below meth c H locs cells slots Q (F0 m tgt ls rest)) (k2 : y ≤ x → W p l e R s m args below meth c H locs cells slots Q (F0 m (pc + 4) ls rest)) : W p l e R s m args below meth c H locs cells slots Q (F0 m pc ls (.long y :: .long x :: rest)) :=
  W.lcmp hx hb hd0 (lv_if_lt hx hb hdg ht (fun h => k1 ((lg_cmp_lt x y).mp h)) (fun h => k2 (Int64.not_lt.mp (fun q => h ((lg_cmp_lt x y).mpr q)))))
theorem hw_l_le (hx : p.tables.exec = Jvm.exec) (hb : c.code = cc) (hd0 : decode cc pc = .ok (.lcmp, 1)) (hdg : decode cc (pc + 1) = .ok (.ifCond .le off, 3)) (ht : ((pc + 1 : Nat) : Int) + off = (tgt : Int)) (k1 : x ≤ y → W p l e R s m args below meth c H locs cells slots Q (F0 m tgt ls rest)) (k2 : y < x → W p l e R s m args below meth c H locs cells slots Q (F0 m (pc + 4) ls rest)) : W p l e R s m args below meth c H locs cells slots Q (F0 m pc ls (.long y :: .long x :: rest)) :=
  W.lcmp hx hb hd0 (lv_if_le hx hb hdg ht (fun h => k1 ((lg_cmp_le x y).mp h)) (fun h => k2 (Int64.not_le.mp (fun q => h ((lg_cmp_le x y).mpr q)))))
theorem hw_l_gt (hx : p.tables.exec = Jvm.exec) (hb : c.code = cc) (hd0 : decode cc pc = .ok (.lcmp, 1)) (hdg : decode cc (pc + 1) = .ok (.ifCond .gt off, 3)) (ht : ((pc + 1 : Nat) : Int) + off = (tgt : Int)) (k1 : y < x → W p l e R s m args below meth c H locs cells slots Q (F0 m tgt ls rest)) (k2 : x ≤ y → W p l e R s m args below meth c H locs cells slots Q (F0 m (pc + 4) ls rest)) : W p l e R s m args below meth c H locs cells slots Q (F0 m pc ls (.long y :: .long x :: rest)) :=
  W.lcmp hx hb hd0 (lv_if_gt hx hb hdg ht (fun h => k1 ((lg_cmp_gt x y).mp h)) (fun h => k2 (Int64.not_lt.mp (fun q => h ((lg_cmp_gt x y).mpr q)))))
end HR
/-! the wholes: objects o i with rows r i; v i: how many limbs, and the limbs -/
def AllW (D : va_G) (L : List Nat) (f : Nat → va_E) (o r : Nat → Nat) (N : Nat) (v : Nat → Nat × (Nat → Nat)) : Prop := ∀ i, i < N → hw_c L f (o i) (.inr (5, [.ref (r i), .int (nI (v i).1)])) ∧ hw_c L f (r i) (.inl (D.1 100, 41, .inr (.inl (fun q => lN ((v i).2 q)))))
def Lay (o r : Nat → Nat) (N : Nat) : Prop := (∀ i j, i < N → j < N → o i = o j → i = j) ∧ (∀ i j, i < N → j < N → r i = r j → i = j)
theorem hw_ne {L : List Nat} {f : Nat → va_E} {a b : Nat} {x : ClassId × vp_A} {y : Nat × List Value} (h1 : hw_c L f a (.inl x)) (h2 : hw_c L f b (.inr y)) : a ≠ b := fun h => by
  subst h
  have := h1.2.symm.trans h2.2
  cases this
theorem AllW.or {D : va_G} {L : List Nat} {f : Nat → va_E} {o r : Nat → Nat} {N : Nat} {v : Nat → Nat × (Nat → Nat)} (h : AllW D L f o r N v) {i j : Nat} (hi : i < N) (hj : j < N) : o i ≠ r j := fun e => hw_ne (h j hj).2 (h i hi).1 e.symm
theorem AllW.st {D : va_G} {L : List Nat} {f : Nat → va_E} {o r : Nat → Nat} {N : Nat} {v : Nat → Nat × (Nat → Nat)} (h : AllW D L f o r N v) (hY : Lay o r N) {i : Nat} (hi : i < N) (k x : Nat) : AllW D L (va_up f (r i) (.inl (D.1 100, 41, .inr (.inl (vp_updL (fun q => lN ((v i).2 q)) k (lN x)))))) o r N (va_up v i ((v i).1, va_up (v i).2 k x)) := by
  intro j hj
  by_cases e : j = i
  · subst e
    rw [hw_up_eq]
    refine ⟨(h j hj).1.up (h.or hj hj), ?_⟩
    have h2 := (h j hj).2.self (e' := (.inl (D.1 100, 41, .inr (.inl (vp_updL (fun q => lN ((v j).2 q)) k (lN x))))))
    have e2 : (vp_updL (fun q => lN ((v j).2 q)) k (lN x)) = (fun q => lN (va_up (v j).2 k x q)) := by
      funext q
      simp only [vp_updL, va_up]
      split <;> rfl
    rw [e2] at h2
    rw [e2]
    exact h2
  · rw [hw_up_ne e]
    exact ⟨(h j hj).1.up (h.or hj hi), (h j hj).2.up (fun q => e (hY.2 j i hj hi q))⟩
theorem AllW.ps {D : va_G} {L : List Nat} {f : Nat → va_E} {o r : Nat → Nat} {N : Nat} {v : Nat → Nat × (Nat → Nat)} (h : AllW D L f o r N v) (hY : Lay o r N) {i : Nat} (hi : i < N) (n : Nat) : AllW D L (va_up f (o i) (.inr (5, [.ref (r i), .int (nI n)]))) o r N (va_up v i (n, (v i).2)) := by
  intro j hj
  by_cases e : j = i
  · subst e
    rw [hw_up_eq]
    exact ⟨(h j hj).1.self, (h j hj).2.up (fun q => h.or hj hj q.symm)⟩
  · rw [hw_up_ne e]
    exact ⟨(h j hj).1.up (fun q => e (hY.1 j i hj hi q)), (h j hj).2.up (fun q => h.or hi hj q.symm)⟩
section HWh
variable {p : Program} {l : Launch} {e : Env} {R : Room} {s : State} {m : MethodId} {args : Array Value} {below : List Frame} {meth : Method} {c : Code} {H : Heap} {locs : List Loc} {cells slots : Nat} {Q : State → Prop}
variable {cc : ByteArray} {pc nL : Nat} {ls : Array Slot} {rest : List Value} {D : va_G} {t0 : Nat} {A : Nat → Prop} {L : List Nat} {f : Nat → va_E} {o r : Nat → Nat} {N : Nat} {v : Nat → Nat × (Nat → Nat)} {i : Nat} {own : String} {index : Nat}
theorem wh_limbs (S : CallFix p m c cc nL s args TT "WallFractions$Whole") (hI : hw_I D t0 A s L f H locs) (hV : AllW D L f o r N v) (hi : i < N) (hdg : decode cc pc = .ok (.getfield 9, 3))
    (kk : W p l e R s m args below meth c H locs cells slots Q (F0 m (pc + 3) ls (.ref (r i) :: rest))) : W p l e R s m args below meth c H locs cells slots Q (F0 m pc ls (.ref (o i) :: rest)) :=
  hw_get S.1 S.2.1 (C := R_Wh) (T := F_Wh) (N := 2) (ref := "WallFractions$Whole") S.2.2.2.2 i_Wh S.2.2.2.1 hI (hV i hi).1 rfl 0 (by decide) (S.2.2.2.2 _ w_39) (fun _ h => h) rfl hdg kk
theorem wh_size (S : CallFix p m c cc nL s args TT "WallFractions$Whole") (hI : hw_I D t0 A s L f H locs) (hV : AllW D L f o r N v) (hi : i < N) (hdg : decode cc pc = .ok (.getfield 15, 3))
    (kk : W p l e R s m args below meth c H locs cells slots Q (F0 m (pc + 3) ls (.int (nI (v i).1) :: rest))) : W p l e R s m args below meth c H locs cells slots Q (F0 m pc ls (.ref (o i) :: rest)) :=
  hw_get S.1 S.2.1 (C := R_Wh) (T := F_Wh) (N := 2) (ref := "WallFractions$Whole") S.2.2.2.2 i_Wh S.2.2.2.1 hI (hV i hi).1 rfl 1 (by decide) (S.2.2.2.2 _ w_42) (fun _ h => h) rfl hdg kk
theorem wh_psize (S : CallFix p m c cc nL s args TT "WallFractions$Whole") (hI : hw_I D t0 A s L f H locs) (hV : AllW D L f o r N v) (hY : Lay o r N) (hi : i < N) {n : Nat} (hdg : decode cc pc = .ok (.putfield 15, 3))
    (kk : ∀ (f' : Nat → va_E) (H' : Heap) (locs' : List Loc), hw_I D t0 A s L f' H' locs' → AllW D L f' o r N (va_up v i (n, (v i).2)) → (∀ q, q ≠ o i → f' q = f q) → W p l e R s m args below meth c H' locs' cells slots Q (F0 m (pc + 3) ls rest)) : W p l e R s m args below meth c H locs cells slots Q (F0 m pc ls (.int (nI n) :: .ref (o i) :: rest)) :=
  hw_put S.1 S.2.1 (C := R_Wh) (T := F_Wh) (N := 2) (ref := "WallFractions$Whole") (ty := .int) S.2.2.2.2 i_Wh t_Wh t_Wh_ok n_Wh S.2.2.2.1 hI (hV i hi).1 rfl 1 (by decide) (S.2.2.2.2 _ w_42) (fun _ h => h) rfl (by decide +kernel) rfl rfl (by show 1 < 2; decide) hdg (fun H1 locs1 h => kk _ H1 locs1 h (hV.ps hY hi n) (fun q hq => hw_up_ne hq))
theorem wh_ld (S : CallFix p m c cc nL s args TT own) (hI : hw_I D t0 A s L f H locs) (hV : AllW D L f o r N v) (hi : i < N) {k : Nat} (hk : k < 41) (hdg : decode cc pc = .ok (.laload, 1))
    (kk : W p l e R s m args below meth c H locs cells slots Q (F0 m (pc + 1) ls (.long (lN ((v i).2 k)) :: rest))) : W p l e R s m args below meth c H locs cells slots Q (F0 m pc ls (.int (nI k) :: .ref (r i) :: rest)) :=
  hw_lald S.1 S.2.1 hI 0 (hV i hi).2 rfl (vp_in_nI hk (by decide)) hdg (by rw [nI_clamp (by omega)]; exact kk)
theorem wh_st (S : CallFix p m c cc nL s args TT own) (hI : hw_I D t0 A s L f H locs) (hV : AllW D L f o r N v) (hY : Lay o r N) (hi : i < N) {k x : Nat} (hk : k < 41) (hdg : decode cc pc = .ok (.lastore, 1))
    (kk : ∀ (f' : Nat → va_E) (H' : Heap) (locs' : List Loc), hw_I D t0 A s L f' H' locs' → AllW D L f' o r N (va_up v i ((v i).1, va_up (v i).2 k x)) → (∀ q, q ≠ r i → f' q = f q) → W p l e R s m args below meth c H' locs' cells slots Q (F0 m (pc + 1) ls rest)) : W p l e R s m args below meth c H locs cells slots Q (F0 m pc ls (.long (lN x) :: .int (nI k) :: .ref (r i) :: rest)) :=
  hw_last S.1 S.2.1 hI 0 (hV i hi).2 rfl (vp_in_nI hk (by decide)) hdg (fun H1 locs1 h => by
    rw [nI_clamp (by omega)] at h
    exact kk _ H1 locs1 h (hV.st hY hi k x) (fun q hq => hw_up_ne hq))
end HWh
section HL
variable {p : Program} {l : Launch} {e : Env} {R : Room} {s : State} {m : MethodId} {args : Array Value} {below : List Frame} {meth : Method} {c : Code} {H : Heap} {locs : List Loc} {cells slots : Nat} {Q : State → Prop}
variable {cc : ByteArray} {pc : Nat} {ls : Array Slot} {rest : List Value}
theorem hw_ldc2 (hx : p.tables.exec = Jvm.exec) (hb : c.code = cc) {own : String} {index : Nat} {v : Int64} (hown : s.vm.findClass own = some m.cls) (hconst : (Jvm.Cond.constantLong own index v).before args s = true) (hdg : decode cc pc = .ok (.ldc2_w index, 3)) (k : W p l e R s m args below meth c H locs cells slots Q (F0 m (pc + 3) ls (.long v :: rest))) : W p l e R s m args below meth c H locs cells slots Q (F0 m pc ls rest) := W.ldc2 hx hb hown hconst rfl hdg k
theorem hw_ldc (hx : p.tables.exec = Jvm.exec) (hb : c.code = cc) {own : String} {index : Nat} {v : Int32} (hown : s.vm.findClass own = some m.cls) (hconst : (Jvm.Cond.constant own index v).before args s = true) (hdg : decode cc pc = .ok (.ldc index, 2)) (k : W p l e R s m args below meth c H locs cells slots Q (F0 m (pc + 2) ls (.int v :: rest))) : W p l e R s m args below meth c H locs cells slots Q (F0 m pc ls rest) := W.ldc hx hb hown hconst rfl hdg k
end HL

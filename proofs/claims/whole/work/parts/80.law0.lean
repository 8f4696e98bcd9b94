/-! what the law needs: the two objects side by side -/
theorem hw_I.fw {D : va_G} {t0 : Nat} {A : Nat → Prop} {s : State} {L : List Nat} {f : Nat → va_E} {H : Heap} {locs : List Loc} {args : Array Value} (hI : hw_I D t0 A s L f H locs) : ∀ w ∈ FW, w.before args s = true := FW_any hI.2.2.2.2.2.2.2.2.2.2.2.2.1
theorem hw_I.nc {D : va_G} {t0 : Nat} {A : Nat → Prop} {s : State} {L : List Nat} {f : Nat → va_E} {H : Heap} {locs : List Loc} (hI : hw_I D t0 A s L f H locs) : ∀ q ∈ NC, va_Nc q.1 q.2 s := hI.2.2.2.2.2.2.2.2.2.2.2.2.2.1
theorem hw_c.mv {L L' : List Nat} {f f' : Nat → va_E} {a : Nat} {e : va_E} (h : hw_c L f a e) (k : a ∈ L' ∧ f' a = f a) : hw_c L' f' a e := ⟨k.1, k.2.trans h.2⟩
def Al (o r fr : Nat → Nat) (ad al ab am ak ah aw ar rg wf : Nat) (q : Nat) : Prop := Own o r fr ad al ab am ak ah aw ar rg wf q ∨ q = ad ∨ q = ak ∨ q = ah ∨ q = rg ∨ q = wf
section Sdk
variable {D : va_G} {L L' : List Nat} {f f' : Nat → va_E} {o r fr : Nat → Nat} {ad al ab am ak ah aw ar rg wf : Nat} {σ : Sg} {wt : Nat → Nat}
theorem Sd.keep (h : Sd D L f o r fr ad al ab am ak ah aw ar rg wf σ wt) (k : ∀ q, Al o r fr ad al ab am ak ah aw ar rg wf q → q ∈ L' ∧ f' q = f q) : Sd D L' f' o r fr ad al ab am ak ah aw ar rg wf σ wt := by
  obtain ⟨x, sg, rs, ⟨⟨v, h1, h1'⟩, ⟨u, w, h2, h3, h4⟩, ⟨G, Ls, Rs, ea, eb, ec, ed, h5, h6⟩, h7, h8, h9, h10, h11, h12, h13⟩, hR⟩ := h
  have kO : ∀ q, Own o r fr ad al ab am ak ah aw ar rg wf q → q ∈ L' ∧ f' q = f q := fun q hq => k q (Or.inl hq)
  refine ⟨x, sg, rs, ⟨⟨v, fun i hi => ⟨(h1 i hi).1.mv (kO _ (Or.inl ⟨i, hi, Or.inl rfl⟩)), (h1 i hi).2.mv (kO _ (Or.inl ⟨i, hi, Or.inr rfl⟩))⟩, h1'⟩, ⟨u, w, h2.mv (k _ (Or.inr (Or.inl rfl))), hw_c.mv h3 (kO _ (Or.inr (Or.inr (Or.inl rfl)))), hw_c.mv h4 (kO _ (Or.inr (Or.inr (Or.inr (Or.inl rfl)))))⟩, ⟨G, Ls, Rs, ea, eb, ec, ed, h5, h6.mv (kO _ (Or.inr (Or.inr (Or.inr (Or.inr (Or.inl rfl))))))⟩, h7.mv (k _ (Or.inr (Or.inr (Or.inl rfl)))), fun j hj => (h8 j hj).mv (kO _ (Or.inr (Or.inl ⟨j, hj, rfl⟩))), h9.mv (k _ (Or.inr (Or.inr (Or.inr (Or.inl rfl))))), h10.mv (kO _ (Or.inr (Or.inr (Or.inr (Or.inr (Or.inr (Or.inl rfl))))))), hw_c.mv h11 (kO _ (Or.inr (Or.inr (Or.inr (Or.inr (Or.inr (Or.inr rfl))))))), h12.mv (k _ (Or.inr (Or.inr (Or.inr (Or.inr (Or.inl rfl)))))), h13.mv (k _ (Or.inr (Or.inr (Or.inr (Or.inr (Or.inr rfl))))))⟩, hR⟩
theorem Sd.mem (h : Sd D L f o r fr ad al ab am ak ah aw ar rg wf σ wt) : ∀ q, Al o r fr ad al ab am ak ah aw ar rg wf q → q ∈ L := by
  obtain ⟨x, sg, rs, ⟨⟨v, h1, h1'⟩, ⟨u, w, h2, h3, h4⟩, ⟨G, Ls, Rs, ea, eb, ec, ed, h5, h6⟩, h7, h8, h9, h10, h11, h12, h13⟩, hR⟩ := h
  rintro q ((⟨i, hi, rfl | rfl⟩ | ⟨j, hj, rfl⟩ | rfl | rfl | rfl | rfl | rfl) | rfl | rfl | rfl | rfl | rfl)
  · exact (h1 i hi).1.1
  · exact (h1 i hi).2.1
  · exact (h8 j hj).1
  · exact h3.1
  · exact h4.1
  · exact h6.1
  · exact h10.1
  · exact h11.1
  · exact h2.1
  · exact h7.1
  · exact h9.1
  · exact h12.1
  · exact h13.1
theorem Sd.wfc (h : Sd D L f o r fr ad al ab am ak ah aw ar rg wf σ wt) : hw_c L f wf (.inr (6, [.ref rg, .ref ak, .ref ah])) := by
  obtain ⟨x, sg, rs, hW, hR⟩ := h
  exact hW.2.2.2.2.2.2.2.2.2
end Sdk
section Mgk
variable {D : va_G} {L L' : List Nat} {f f' : Nat → va_E} {mm mc ml mg mw mr : Nat} {th : Int32} {σ : Sg} {wt : Nat → Nat}
theorem Mg.keep (h : Mg D L f mm mc ml mg mw mr th σ wt) (k : ∀ q, OwM mm mc ml mg mw mr q → q ∈ L' ∧ f' q = f q) : Mg D L' f' mm mc ml mg mw mr th σ wt := by
  obtain ⟨y, sn, rr, ⟨c, n, ⟨h1, h2, h3, h4, h5, h6⟩, hc⟩, hR⟩ := h
  exact ⟨y, sn, rr, ⟨c, n, ⟨h1.mv (k _ (Or.inl rfl)), hw_c.mv h2 (k _ (Or.inr (Or.inl rfl))), hw_c.mv h3 (k _ (Or.inr (Or.inr (Or.inl rfl)))), hw_c.mv h4 (k _ (Or.inr (Or.inr (Or.inr (Or.inl rfl))))), hw_c.mv h5 (k _ (Or.inr (Or.inr (Or.inr (Or.inr (Or.inl rfl)))))), hw_c.mv h6 (k _ (Or.inr (Or.inr (Or.inr (Or.inr (Or.inr rfl))))))⟩, hc⟩, hR⟩
theorem Mg.mem (h : Mg D L f mm mc ml mg mw mr th σ wt) : ∀ q, OwM mm mc ml mg mw mr q → q ∈ L := by
  obtain ⟨y, sn, rr, ⟨c, n, ⟨h1, h2, h3, h4, h5, h6⟩, hc⟩, hR⟩ := h
  rintro q (rfl | rfl | rfl | rfl | rfl | rfl)
  · exact h1.1
  · exact h2.1
  · exact h3.1
  · exact h4.1
  · exact h5.1
  · exact h6.1
theorem Mg.mmc (h : Mg D L f mm mc ml mg mw mr th σ wt) : hw_c L f mm (.inr (7, [.int th, .ref mc, .ref ml, .ref mg, .ref mw, .ref mr])) := by
  obtain ⟨y, sn, rr, ⟨c, n, hm, hc⟩, hR⟩ := h
  exact hm.1
end Mgk
/-! what goes wrong changes nothing; what stands in the registers stays in order -/
section Ops
variable {σ : Sg} {wt : Nat → Nat} {r a b d h k n : Int32}
theorem ix_lt {r : Int32} (h : vr r = true) : ix r < 16 := by
  obtain ⟨j, hj, rfl⟩ := vr_nat h
  rw [ix_nI (by omega)]
  exact hj
theorem opSet_ne {p q : Int} (e : (opSet σ r p q).1 ≠ 0) : (opSet σ r p q).2 = σ := by revert e; unfold opSet putR; (repeat' split) <;> intro e <;> first | rfl | exact absurd rfl e
theorem opMore_ne (e : (opMore σ r d).1 ≠ 0) : (opMore σ r d).2 = σ := by revert e; unfold opMore putR; (repeat' split) <;> intro e <;> first | rfl | exact absurd rfl e
theorem opAdd_ne (e : (opAdd σ r a b).1 ≠ 0) : (opAdd σ r a b).2 = σ := by revert e; unfold opAdd putR; (repeat' split) <;> intro e <;> first | rfl | exact absurd rfl e
theorem opSub_ne (e : (opSub σ r a b).1 ≠ 0) : (opSub σ r a b).2 = σ := by revert e; unfold opSub putR; (repeat' split) <;> intro e <;> first | rfl | exact absurd rfl e
theorem opMul_ne (e : (opMul σ r a b).1 ≠ 0) : (opMul σ r a b).2 = σ := by revert e; unfold opMul putR; (repeat' split) <;> intro e <;> first | rfl | exact absurd rfl e
theorem opDiv_ne (e : (opDiv σ r a b).1 ≠ 0) : (opDiv σ r a b).2 = σ := by revert e; unfold opDiv putR; (repeat' split) <;> intro e <;> first | rfl | exact absurd rfl e
theorem opPow_ne (e : (opPow σ r a n).1 ≠ 0) : (opPow σ r a n).2 = σ := by revert e; unfold opPow putR; (repeat' split) <;> intro e <;> first | rfl | exact absurd rfl e
theorem opBin_ne (e : (opBin σ r n k).1 ≠ 0) : (opBin σ r n k).2 = σ := by revert e; unfold opBin putR; (repeat' split) <;> intro e <;> first | rfl | exact absurd rfl e
theorem opRnd_ne (e : (opRnd σ r a d h).1 ≠ 0) : (opRnd σ r a d h).2 = σ := by revert e; unfold opRnd putR; (repeat' split) <;> intro e <;> first | rfl | exact absurd rfl e
theorem opRoot_ne (e : (opRoot σ r a d).1 ≠ 0) : (opRoot σ r a d).2 = σ := by revert e; unfold opRoot putR; (repeat' split) <;> intro e <;> first | rfl | exact absurd rfl e
theorem opShr_ne (e : (opShr σ wt r a k).1 ≠ 0) : (opShr σ wt r a k).2 = σ := by revert e; unfold opShr putR; (repeat' split) <;> intro e <;> first | rfl | exact absurd rfl e
theorem one_ok {c : Nat} : 0 < (c, 1, false).2.1 ∧ Nat.gcd ((c, 1, false) : Rg).1 ((c, 1, false) : Rg).2.1 = 1 ∧ (((c, 1, false) : Rg).1 = 0 → ((c, 1, false) : Rg).2.2 = false) := ⟨by show 0 < 1; decide, Nat.gcd_one_right _, fun _ => rfl⟩
theorem opSet_ok (ho : Ok σ wt) {p q : Int} : Ok (opSet σ r p q).2 wt := by
  unfold opSet
  split
  · split
    · exact ho
    · exact putR_ok ho (lows_ok (by omega))
  · exact ho
theorem opMore_ok (ho : Ok σ wt) : Ok (opMore σ r d).2 wt := by
  unfold opMore
  split
  · split
    · exact putR_ok ho (lows_ok (by decide))
    · exact ho
  · exact ho
theorem opAdd_ok (ho : Ok σ wt) : Ok (opAdd σ r a b).2 wt := by
  unfold opAdd
  split
  · rename_i e
    obtain ⟨_, e2, e3⟩ := and3 e
    exact putR_ok ho (lows_ok (Nat.mul_pos (ho.1 _ (ix_lt e2)).2.2.1 (ho.1 _ (ix_lt e3)).2.2.1))
  · exact ho
theorem opSub_ok (ho : Ok σ wt) : Ok (opSub σ r a b).2 wt := by
  unfold opSub
  split
  · rename_i e
    obtain ⟨_, e2, e3⟩ := and3 e
    exact putR_ok ho (lows_ok (Nat.mul_pos (ho.1 _ (ix_lt e2)).2.2.1 (ho.1 _ (ix_lt e3)).2.2.1))
  · exact ho
theorem opMul_ok (ho : Ok σ wt) : Ok (opMul σ r a b).2 wt := by
  unfold opMul
  split
  · rename_i e
    obtain ⟨_, e2, e3⟩ := and3 e
    exact putR_ok ho (lows_ok (Nat.mul_pos (ho.1 _ (ix_lt e2)).2.2.1 (ho.1 _ (ix_lt e3)).2.2.1))
  · exact ho
theorem opDiv_ok (ho : Ok σ wt) : Ok (opDiv σ r a b).2 wt := by
  unfold opDiv
  split
  · rename_i e
    obtain ⟨_, e2, e3⟩ := and3 e
    split
    · exact ho
    · exact putR_ok ho (lows_ok (Nat.mul_pos (ho.1 _ (ix_lt e2)).2.2.1 (by omega)))
  · exact ho
theorem opPow_ok (ho : Ok σ wt) : Ok (opPow σ r a n).2 wt := by
  unfold opPow
  split
  · rename_i e
    obtain ⟨_, e2, _⟩ := and3 e
    rw [← lows_pow (ho.1 _ (ix_lt e2))]
    exact putR_ok ho (lows_ok (Nat.pow_pos (ho.1 _ (ix_lt e2)).2.2.1))
  · exact ho
theorem opBin_ok (ho : Ok σ wt) : Ok (opBin σ r n k).2 wt := by
  unfold opBin
  split
  · exact putR_ok ho one_ok
  · exact ho
theorem opRnd_ok (ho : Ok σ wt) : Ok (opRnd σ r a d h).2 wt := by
  unfold opRnd
  split
  · exact putR_ok ho (lows_ok (Nat.pow_pos (by decide)))
  · exact ho
theorem opRoot_ok (ho : Ok σ wt) : Ok (opRoot σ r a d).2 wt := by
  unfold opRoot
  split
  · split
    · exact ho
    · exact putR_ok ho (lows_ok (Nat.pow_pos (by decide)))
  · exact ho
theorem opShr_ok (ho : Ok σ wt) : Ok (opShr σ wt r a k).2 wt := by
  unfold opShr
  split
  · split
    · exact ho
    · split
      · exact putR_ok ho one_ok
      · exact ho
  · exact ho
theorem nWgt_ok {w : Int32} (ho : Ok σ wt) : Ok σ (nWgt wt k w) := by
  unfold nWgt
  split
  · rename_i e
    refine ⟨ho.1, fun q hq => ?_⟩
    have e2 : inR w 0 1000000000 = true := by revert e; cases inR k 0 9 <;> cases inR w 0 1000000000 <;> decide
    obtain ⟨j, _, hj, rfl⟩ := inR_nat e2 (by decide) (by decide)
    by_cases eq : q = k.toNatClampNeg
    · rw [eq, hw_up_eq, nI_clamp (by omega)]; exact hj
    · rw [hw_up_ne eq]; exact ho.2 q hq
  · exact ho
theorem σ0_ok : Ok σ0 (fun _ => 0) := ⟨fun k _ => ⟨by show 0 < nB ^ 20; exact Nat.pow_pos nB_pos, by show 1 < nB ^ 20; decide +kernel, by show 0 < 1; decide, by show Nat.gcd 0 1 = 1; rfl, fun _ => rfl⟩, fun q _ => Nat.zero_le _⟩
end Ops
/-! a static method with an exception table is called -/
def hw_mW (y : MethodName) (bytes : ByteArray) (maxL : Nat) (ret : Option FieldType) (hh : List (Nat × Nat × Nat × Nat)) (n : Nat) : Prop := Cond.codeWith y bytes maxL ret hh ∈ TT ∧ Cond.initialized y.cls ∈ TT ∧ (y.cls ≠ "java/lang/invoke/MethodHandle" ∧ y.cls ≠ "java/lang/invoke/VarHandle") ∧ (parseMethodDescriptor y.desc).map (fun d => d.parameters.length) = some n ∧ Cond.static y ∈ TT
section HWX
variable {p : Program} {l : Launch} {e : Env} {R : Room} {s : State} {m : MethodId} {args : Array Value} {below : List Frame} {meth : Method} {c : Code} {H : Heap} {locs : List Loc} {cells slots : Nat} {Q : State → Prop}
variable {cc : ByteArray} {pc nL : Nat} {ls : Array Slot} {rest st0 : List Value} {D : va_G} {t0 : Nat} {A : Nat → Prop} {L : List Nat} {f : Nat → va_E} {post : Outcome → List Nat → (Nat → va_E) → Prop}
variable {own : String} {index maxL n : Nat} {y : MethodName} {bytes : ByteArray} {ret : Option FieldType} {rm : Room} {As : List Value} {hh : List (Nat × Nat × Nat × Nat)}
theorem hw_xW (S : CallFix p m c cc nL s args TT own) (hI : hw_I D t0 A s L f H locs) (hm : hw_mW y bytes maxL ret hh n) (hl : Cond.methodLink own index y ∈ TT)
    (hM : vx_Met l y (Cond.codeWith y bytes maxL ret hh :: TT) rm (hw_Pc t0 As D L f H.size) (hw_Q D L H.size post) (hw_X D L H.size (fun _ _ _ => False)) rm.cells rm.slots (hw_A L H.size)) (hls : ls.size = nL) (hn : As.length = n) (hst : st0 = As.reverse ++ rest) (hW : (rest.map fun v => v.category).sum ≤ 8)
    (hdg : decode cc pc = .ok (.invokestatic index, 3)) (hR : rm.frames + 1 ≤ R.frames ∧ 8 + (maxL + 11) + rm.locals ≤ R.locals) (hf : cells + rm.cells ≤ R.cells ∧ slots + rm.slots ≤ R.slots)
    (kr : ∀ (v : Option Value) (L' : List Nat) (f' : Nat → va_E) (H' : Heap) (locs' : List Loc), post (.returned v) L' f' → hw_I D t0 A s L' f' H' locs' → W p l e R s m args below meth c H' locs' (cells + rm.cells) (slots + rm.slots) Q (F0 m (pc + 3) ls (v.toList ++ rest))) :
    W p l e R s m args below meth c H locs cells slots Q (F0 m pc ls st0) := by
  have hT := S.2.2.2.2
  obtain ⟨h1, h2, h3, h4, h5⟩ := hm
  refine hw_xrun hI (vx_runSX (hh := hh) (As := As) (rest := rest) S hM ⟨⟨rfl, rfl, hR.1, hR.2, fun w hw a' U hW => ?_, List.mem_cons_self⟩, hT _ h1, hT _ h2, h3, fun sig h => ?_, hT _ hl, hT _ h5⟩ ⟨hw_blind, hw_pre hI _⟩ rfl hn hls hst (lv_room hW) hdg hf) kr (fun _ _ _ _ _ _ _ h => h.elim)
  · have hw2 : w ∈ TT := (List.mem_cons.mp hw).elim (fun e => by rw [e]; exact h1) id
    exact word_at hW (TT_good w hw2) (hT w hw2)
  · rw [h] at h4
    exact (Option.some.inj h4).symm
/-- caught by row k of the table; the rows before it name other classes -/
theorem hw_catch (S : CallFix p m c cc nL s args TT own) (hI : hw_I D t0 A s L f H locs) (htab : c.exceptionTable.toList = tableOf hh) {E : String} {ce : Cell} {q : Addr} (pre : List (Nat × Nat × Nat × Nat)) (x : Nat × Nat × Nat × Nat) (suf : List (Nat × Nat × Nat × Nat)) (hs : hh = pre ++ x :: suf)
    (hpass : ∀ z ∈ pre, z.2.2.2 ≠ 0 ∧ ∃ nm : String, Cond.classLink own z.2.2.2 nm ∈ TT ∧ (E, nm) ∈ NC) (hx : covers (⟨x.1, x.2.1, x.2.2.1, x.2.2.2⟩ : ExceptionTableEntry) pc = true) (h0 : x.2.2.2 ≠ 0) (hlink : Cond.classLink own x.2.2.2 E ∈ TT) (hcast : Cond.castable E E ∈ FW) (hcell : H[q]? = some ce) (hv : ce.vm = .none) (hcl : s.vm.findClass E = some ce.cls)
    (kk : W p l e R s m args below meth c H locs cells slots Q (F0 m x.2.2.1 ls [.ref q])) : vx_W p l e R s m args below meth c H locs cells slots Q (F0 m pc ls rest) q := by
  refine vx_catch S.2.2.2.1 (tableOf pre) ⟨x.1, x.2.1, x.2.2.1, x.2.2.2⟩ (tableOf suf) (by rw [htab, hs]; simp [tableOf]) (fun z hz => ?_) hx h0 (S.2.2.2.2 _ hlink) (hI.fw _ hcast) hcell hv hcl kk
  obtain ⟨w, hw, rfl⟩ := List.mem_map.mp hz
  obtain ⟨h1, nm, h2, h3⟩ := hpass w hw
  exact Or.inr ⟨h1, nm, S.2.2.2.2 _ h2, hI.nc _ h3⟩
end HWX
theorem nWgt_none {wt : Nat → Nat} {k w : Int32} (h : aWgt wt k w = none) : nWgt wt k w = wt := by
  unfold aWgt at h
  unfold nWgt
  split at h
  · cases h
  · rename_i e
    rw [if_neg e]

/-! a counter that runs down: mI k is k - 1, and -1 at the end -/
def mI (k : Nat) : Int32 := nI k - 1
theorem mI_s (k : Nat) : mI (k + 1) = nI k := nI_pred k
theorem mI_p {k : Nat} (h : 0 < k) : mI k = nI (k - 1) := by
  obtain ⟨j, rfl⟩ : ∃ j, k = j + 1 := ⟨k - 1, by omega⟩
  rw [mI_s, Nat.add_sub_cancel]
theorem mI_d (k : Nat) : nI k + Int32.ofInt (-1) = mI k := by
  unfold mI
  rw [Int32.sub_eq_add_neg]
  rfl
theorem mI_0 : mI 0 < 0 := by decide
section HT
variable {p : Program} {l : Launch} {e : Env} {R : Room} {s : State} {m : MethodId} {args : Array Value} {below : List Frame} {meth : Method} {c : Code} {H : Heap} {locs : List Loc} {cells slots : Nat} {Q : State → Prop}
variable {cc : ByteArray} {pc nL index : Nat} {ls : Array Slot} {rest : List Value} {D : va_G} {t0 : Nat} {A : Nat → Prop} {L : List Nat} {f : Nat → va_E} {own : String}
theorem hw_m0 {off : Int} {tgt : Nat} (hx : p.tables.exec = Jvm.exec) (hb : c.code = cc) (hdg : decode cc pc = .ok (.ifCond .lt off, 3)) (ht : (pc : Int) + off = (tgt : Int)) (k1 : W p l e R s m args below meth c H locs cells slots Q (F0 m tgt ls rest)) : W p l e R s m args below meth c H locs cells slots Q (F0 m pc ls (.int (mI 0) :: rest)) :=
  lv_if_lt hx hb hdg ht (fun _ => k1) (fun h => absurd mI_0 h)
theorem hw_tens (S : CallFix p m c cc nL s args TT own) (hI : hw_I D t0 A s L f H locs) (hl : (own, index, "WallFractions", "TENS", "[J") ∈ NF) (hdg : decode cc pc = .ok (.getstatic index, 3)) (kk : W p l e R s m args below meth c H locs cells slots Q (F0 m (pc + 3) ls (.ref t0 :: rest))) : W p l e R s m args below meth c H locs cells slots Q (F0 m pc ls rest) :=
  va_getsN S.1 S.2.1 hI.2.2.2.2.2.2.2.2.1 hI.2.2.1 S.2.2.2.1 (va_Nw.use rfl (hI.2.2.2.2.2.1 _ hl)) (fun _ h => h) hdg kk
theorem hw_tld (S : CallFix p m c cc nL s args TT own) (hI : hw_I D t0 A s L f H locs) {k : Nat} (hk : k < 10) (hdg : decode cc pc = .ok (.laload, 1)) (kk : W p l e R s m args below meth c H locs cells slots Q (F0 m (pc + 1) ls (.long (lN (10 ^ k)) :: rest))) : W p l e R s m args below meth c H locs cells slots Q (F0 m pc ls (.int (nI k) :: .ref t0 :: rest)) :=
  va_tl S.1 S.2.1 hI.2.2.2.2.2.2.2.2.2.1 hI.2.2.1 (vp_in_nI hk (by decide)) (by rw [nI_clamp (by omega)]) hdg kk
end HT
/-- as Met.ofW, for a method of a class of which another method is the machine's own -/
theorem Met.ofWF {l : Launch} {y : MethodName} {ws ws' : List Cond} {rm : Room} {Pc : Array Value → State → Prop} {Qc : Array Value → State → Outcome → State → Prop} {mc ms : Nat} {free : Addr → Prop} {cc : ByteArray} {maxL : Nat} {ret : Option FieldType}
    (hy : plainFor y = true) (hw : ws = Cond.code y cc maxL ret :: ws')
    (body : ∀ p e s m args below meth c s₁, BodyLoose p l y (headSpec ws rm) cc maxL ret e s m args below meth c s₁ → c.maxLocals = maxL → Pc args s →
      W p l e (headSpec ws rm).room s m args below meth c s.heap [] 0 0 (MQ below Qc args s mc ms free) (entryFrame m args maxL)) : Met l y ws rm Pc Qc mc ms free := by
  refine MetFree.of_bodySF (code := cc) (maxLocals := maxL) (ret := ret) hy ?_ ?_
  · intro args s m h hn
    obtain ⟨meth, c, h1, h2, h3, h4, h5, h6, -, -⟩ := Cond.code_spec hn (atoms_spec (ws := ws) h _ (by rw [hw]; exact List.mem_cons_self))
    exact ⟨meth, c, h1, h2, h3, h4, h5, h6⟩
  · intro p e s m args below meth c s₁ B hml hP _
    have hh0 : s₁.heap = s.heap := by rw [B.state]; rfl
    obtain ⟨t, a1, o, b1, b2, b3⟩ := body p e s m args below meth c s₁ B hml hP s₁ hh0 (Stand.of_body B)
    exact ⟨t, o, a1, b1, b2, ⟨b3.1, b3.2⟩⟩

/-! the world grows -/
theorem hw_I.ao {D : va_G} {t0 : Nat} {A : Nat → Prop} {s : State} {L : List Nat} {f : Nat → va_E} {H : Heap} {locs : List Loc} (hI : hw_I D t0 A s L f H locs) : va_AO "WallFractions$Fraction" s := hI.2.2.2.2.2.2.2.2.2.2.2.2.2.2
section HNew
variable {p : Program} {l : Launch} {e : Env} {R : Room} {s : State} {m : MethodId} {args : Array Value} {below : List Frame} {meth : Method} {c : Code} {H : Heap} {locs : List Loc} {cells slots : Nat} {Q : State → Prop}
variable {cc : ByteArray} {pc nL : Nat} {ls : Array Slot} {rest : List Value} {D : va_G} {t0 : Nat} {A : Nat → Prop} {L : List Nat} {f : Nat → va_E} {own : String} {index a n : Nat}
theorem hw_new (S : CallFix p m c cc nL s args TT own) (hI : hw_I D t0 A s L f H locs) {C : String} {T : u_T} {N ci : Nat} (hc : classes[ci]? = some (C, T, N)) (hin : ∀ w ∈ u_ws C T N, w ∈ TT) (ty : Nat → FieldType) (hty : ∀ k, k < N → parseFieldDescriptor (T k).2.2.1 = some (ty k)) (hl : Cond.classLink own index C ∈ TT) (hinst : Cond.instantiable C N ∈ TT) (hini : Cond.initialized C ∈ TT) {fs : List Value} (hfs : ∀ j, j < N → defaultValue (ty j) = vp_V fs j) (hcells : cells + 1 ≤ R.cells) (hslots : slots + N ≤ R.slots) (hdg : decode cc pc = .ok (.new index, 3))
    (kk : ∀ (q : Nat) (L' : List Nat) (f' : Nat → va_E) (H1 : Heap), hw_I D t0 A s L' f' H1 locs → q ∉ L → hw_c L' f' q (.inr (ci, fs)) → (∀ z, z ∈ L → z ∈ L' ∧ f' z = f z) → W p l e R s m args below meth c H1 locs (cells + 1) (slots + N) Q (F0 m (pc + 3) ls (.ref q :: rest))) : W p l e R s m args below meth c H locs cells slots Q (F0 m pc ls rest) :=
  va_new S.1 S.2.1 S.2.2.2.2 hin ty hty S.2.2.2.1 (S.2.2.2.2 _ hl) (S.2.2.2.2 _ hinst) (S.2.2.2.2 _ hini) hI.2.2.2.2.1 hI.1 hI.2.1 hI.2.2.1 hI.2.2.2.1 hc hfs hcells hslots hdg (fun q H1 h1 h2 h3 => by
    have hq : q ∉ L := va_pl_fresh2 (X := []) (by simpa using h2)
    rw [va_pl_push hq] at h1 h2
    exact kk q _ _ H1 (hI.mk h1 h2 h3) hq ⟨List.mem_append_right _ List.mem_cons_self, hw_up_eq⟩ (fun z hz => ⟨List.mem_append_left _ hz, hw_up_ne (fun e => hq (e ▸ hz))⟩))
theorem hw_newL (S : CallFix p m c cc nL s args TT own) (hI : hw_I D t0 A s L f H locs) (hac : Cond.arrayClass .long ∈ TT) (hn : n < 2 ^ 20) (hcells : cells + 1 ≤ R.cells) (hslots : slots + n ≤ R.slots) (hdg : decode cc pc = .ok (.newarray .long, 2))
    (kk : ∀ (q : Nat) (L' : List Nat) (f' : Nat → va_E) (H1 : Heap), hw_I D t0 A s L' f' H1 locs → q ∉ L → arrN D L' f' q n (fun _ => 0) → (∀ z, z ∈ L → z ∈ L' ∧ f' z = f z) → W p l e R s m args below meth c H1 locs (cells + 1) (slots + n) Q (F0 m (pc + 2) ls (.ref q :: rest))) : W p l e R s m args below meth c H locs cells slots Q (F0 m pc ls (.int (nI n) :: rest)) := by
  refine va_newa S.1 S.2.1 (atype := .long) (ty := .long) (S.2.2.2.2 _ hac) rfl hI.2.2.2.2.1 hI.1 hI.2.1 hI.2.2.1 hI.2.2.2.1 (a0 := (n, .inr (.inl (fun _ => lN 0)))) (fun _ => rfl) (fun h => absurd (nI_pos' (by omega)) (Int32.not_le.mpr h)) (nI_clamp (by omega)) (by show n * 8 ≤ _; omega) hcells hslots hdg (fun q cA H1 hK h1 h2 h3 => ?_)
  have hq : q ∉ L := va_pl_fresh2 (X := []) (by simpa using h2)
  have e1 : s.vm.findClass ("[" ++ FieldType.long.toString) = some cA := (hK.2 3 (cA, .long) rfl).2
  have e2 : s.vm.findClass ("[" ++ FieldType.long.toString) = some (D.1 100) := (hI.2.2.2.2.1.2 0 (D.1 100, .long) rfl).2
  obtain rfl : cA = D.1 100 := Option.some.inj (e1.symm.trans e2)
  rw [va_pl_push hq] at h1 h2
  exact kk q _ _ H1 (hI.mk h1 h2 h3) hq ⟨List.mem_append_right _ List.mem_cons_self, hw_up_eq⟩ (fun z hz => ⟨List.mem_append_left _ hz, hw_up_ne (fun e => hq (e ▸ hz))⟩)
theorem hw_newI (S : CallFix p m c cc nL s args TT own) (hI : hw_I D t0 A s L f H locs) (hac : Cond.arrayClass .int ∈ TT) (hn : n < 2 ^ 20) (hcells : cells + 1 ≤ R.cells) (hslots : slots + n ≤ R.slots) (hdg : decode cc pc = .ok (.newarray .int, 2))
    (kk : ∀ (q : Nat) (L' : List Nat) (f' : Nat → va_E) (H1 : Heap), hw_I D t0 A s L' f' H1 locs → q ∉ L → arrR D L' f' q n (fun _ => nI 0) → (∀ z, z ∈ L → z ∈ L' ∧ f' z = f z) → W p l e R s m args below meth c H1 locs (cells + 1) (slots + n) Q (F0 m (pc + 2) ls (.ref q :: rest))) : W p l e R s m args below meth c H locs cells slots Q (F0 m pc ls (.int (nI n) :: rest)) := by
  refine va_newa S.1 S.2.1 (atype := .int) (ty := .int) (S.2.2.2.2 _ hac) rfl hI.2.2.2.2.1 hI.1 hI.2.1 hI.2.2.1 hI.2.2.2.1 (a0 := (n, .inl (fun _ => nI 0))) (fun _ => rfl) (fun h => absurd (nI_pos' (by omega)) (Int32.not_le.mpr h)) (nI_clamp (by omega)) (by show n * 4 ≤ _; omega) hcells hslots hdg (fun q cA H1 hK h1 h2 h3 => ?_)
  have hq : q ∉ L := va_pl_fresh2 (X := []) (by simpa using h2)
  have e1 : s.vm.findClass ("[" ++ FieldType.int.toString) = some cA := (hK.2 3 (cA, .int) rfl).2
  have e2 : s.vm.findClass ("[" ++ FieldType.int.toString) = some (D.1 101) := (hI.2.2.2.2.1.2 1 (D.1 101, .int) rfl).2
  obtain rfl : cA = D.1 101 := Option.some.inj (e1.symm.trans e2)
  rw [va_pl_push hq] at h1 h2
  exact kk q _ _ H1 (hI.mk h1 h2 h3) hq ⟨List.mem_append_right _ List.mem_cons_self, hw_up_eq⟩ (fun z hz => ⟨List.mem_append_left _ hz, hw_up_ne (fun e => hq (e ▸ hz))⟩)
def cRq (D : va_G) (h : Nat → Option Nat) : va_E := .inl (D.1 102, 16, .inr (.inr (.inr (.inr h))))
theorem hw_newQ (S : CallFix p m c cc nL s args TT own) (hI : hw_I D t0 A s L f H locs) (hl : Cond.classLink own index "WallFractions$Fraction" ∈ TT) (hcells : cells + 1 ≤ R.cells) (hslots : slots + 16 ≤ R.slots) (hdg : decode cc pc = .ok (.anewarray index, 3))
    (kk : ∀ (q : Nat) (L' : List Nat) (f' : Nat → va_E) (H1 : Heap), hw_I D t0 A s L' f' H1 locs → q ∉ L → hw_c L' f' q (cRq D (fun _ => none)) → (∀ z, z ∈ L → z ∈ L' ∧ f' z = f z) → W p l e R s m args below meth c H1 locs (cells + 1) (slots + 16) Q (F0 m (pc + 3) ls (.ref q :: rest))) : W p l e R s m args below meth c H locs cells slots Q (F0 m pc ls (.int (nI 16) :: rest)) := by
  refine va_newq S.1 S.2.1 S.2.2.2.1 (S.2.2.2.2 _ hl) hI.ao hI.2.2.2.2.1 hI.1 hI.2.1 hI.2.2.1 hI.2.2.2.1 (by decide) (nI_clamp (by decide)) (by decide) hcells hslots hdg (fun q cA H1 hK h1 h2 h3 => ?_)
  have hq : q ∉ L := va_pl_fresh2 (X := []) (by simpa using h2)
  obtain ⟨_, _, _, _, _, e1⟩ := (hK.2 3 (cA, .object "WallFractions$Fraction") rfl).2
  obtain ⟨_, _, _, _, _, e2⟩ := (hI.2.2.2.2.1.2 2 (D.1 102, .object "WallFractions$Fraction") rfl).2
  obtain rfl : cA = D.1 102 := Option.some.inj (e1.symm.trans e2)
  rw [va_pl_push hq] at h1 h2
  exact kk q _ _ H1 (hI.mk h1 h2 h3) hq ⟨List.mem_append_right _ List.mem_cons_self, hw_up_eq⟩ (fun z hz => ⟨List.mem_append_left _ hz, hw_up_ne (fun e => hq (e ▸ hz))⟩)
theorem hw_aast (S : CallFix p m c cc nL s args TT own) (hI : hw_I D t0 A s L f H locs) {h : Nat → Option Nat} (ha : hw_c L f a (cRq D h)) {v : Nat} {vs : List Value} (hv : hw_c L f v (.inr (1, vs))) {k : Nat} (hk : k < 16) (hdg : decode cc pc = .ok (.aastore, 1))
    (kk : ∀ (f' : Nat → va_E) (H1 : Heap) (locs1 : List Loc), hw_I D t0 A s L f' H1 locs1 → hw_c L f' a (cRq D (va_up h k (some v))) → (∀ z, z ≠ a → f' z = f z) → W p l e R s m args below meth c H1 locs1 cells slots Q (F0 m (pc + 1) ls rest)) : W p l e R s m args below meth c H locs cells slots Q (F0 m pc ls (.ref v :: .int (nI k) :: .ref a :: rest)) := by
  obtain ⟨q0, hq⟩ := hw_pl_get ha
  obtain ⟨qk, hqk⟩ := hw_pl_get hv
  refine va_astq S.1 S.2.1 hI.2.2.2.2.1 hI.1 hI.2.1 hI.2.2.1 q0 2 qk 1 (r := (R_Fr, F_Fr, 3)) hq rfl hqk rfl (vp_in_nI hk (by decide)) hdg (fun H1 locs1 h1 h2 h3 => ?_)
  rw [hw_pl_set hI.2.1 ha hq, nI_clamp (by omega)] at h1 h2
  exact kk _ H1 locs1 (hI.mk h1 h2 h3) ha.self (fun z hz => hw_up_ne hz)
theorem ob_putF (S : CallFix p m c cc nL s args TT own) (hI : hw_I D t0 A s L f H locs) {ci : Nat} {fs fs' : List Value} (he : hw_c L f a (.inr (ci, fs))) {ref C : String} {T : u_T} {N : Nat} (hc : classes[ci]? = some (C, T, N)) (hin : ∀ w ∈ u_ws C T N, w ∈ TT) (ty0 : Nat → FieldType) (hty : ∀ k, k < N → parseFieldDescriptor (T k).2.2.1 = some (ty0 k)) (hnm : ∀ a, a < N → ∀ b, b < N → a ≠ b → (T a).2.1 ≠ (T b).2.1) (k : Nat) (hk : k < N) (hr : (T k).1 = ref) (hl : Cond.fieldLink own index ref (T k).2.1 (T k).2.2.1 ∈ TT) (hfin : (T k).2.2.2 = true) (hin2 : meth.name = "<init>") (hdecl : (T k).1 = own) {v : Value} (hn : narrow (ty0 k) v = v) (hfit : fits (ty0 k) v = true) (hlen : k < fs.length) (hset : fs.set k v = fs') (hdg : decode cc pc = .ok (.putfield index, 3))
    (kk : ∀ (f' : Nat → va_E) (H' : Heap) (locs' : List Loc), hw_I D t0 A s L f' H' locs' → hw_c L f' a (.inr (ci, fs')) → (∀ q, q ≠ a → f' q = f q) → W p l e R s m args below meth c H' locs' cells slots Q (F0 m (pc + 3) ls rest)) : W p l e R s m args below meth c H locs cells slots Q (F0 m pc ls (v :: .ref a :: rest)) :=
  hw_putF S.1 S.2.1 S.2.2.2.2 hin ty0 hty hnm S.2.2.2.1 hI he hc k hk (S.2.2.2.2 _ hl) (fun _ h => hr ▸ h) hfin hin2 hdecl (hty k hk) hn hfit hlen hdg (fun H1 locs1 h => kk _ H1 locs1 h (by rw [← hset]; exact he.self) (fun q hq => hw_up_ne hq))
end HNew
/-- a world that grew, a's cell aside -/
def Ext (L : List Nat) (f : Nat → va_E) (L' : List Nat) (f' : Nat → va_E) (a : Nat) : Prop := ∀ z, z ∈ L → z ∈ L' ∧ (z ≠ a → f' z = f z)
theorem Ext.refl {L : List Nat} {f : Nat → va_E} {a : Nat} : Ext L f L f a := fun z hz => ⟨hz, fun _ => rfl⟩
theorem Ext.new {L L1 L2 : List Nat} {f f1 f2 : Nat → va_E} {a : Nat} (h : Ext L f L1 f1 a) (k : ∀ z, z ∈ L1 → z ∈ L2 ∧ f2 z = f1 z) : Ext L f L2 f2 a := fun z hz => ⟨(k z (h z hz).1).1, fun e => ((k z (h z hz).1).2).trans ((h z hz).2 e)⟩
theorem Ext.put {L L1 : List Nat} {f f1 f2 : Nat → va_E} {a : Nat} (h : Ext L f L1 f1 a) (k : ∀ z, z ≠ a → f2 z = f1 z) : Ext L f L1 f2 a := fun z hz => ⟨(h z hz).1, fun e => (k z e).trans ((h z hz).2 e)⟩
/-- a change at a place that was not there -/
theorem Ext.put2 {L L1 : List Nat} {f f1 f2 : Nat → va_E} {a b : Nat} (h : Ext L f L1 f1 a) (hb : b ∉ L) (k : ∀ z, z ≠ b → f2 z = f1 z) : Ext L f L1 f2 a := fun z hz => ⟨(h z hz).1, fun e => (k z (fun q => hb (q ▸ hz))).trans ((h z hz).2 e)⟩
/-- a constructor's work at a new place b -/
theorem Ext.sub {L L1 L2 : List Nat} {f f1 f2 : Nat → va_E} {a b : Nat} (h : Ext L f L1 f1 a) (hb : b ∉ L) (k : Ext L1 f1 L2 f2 b) : Ext L f L2 f2 a := fun z hz => ⟨(k z (h z hz).1).1, fun e => ((k z (h z hz).1).2 (fun q => hb (q ▸ hz))).trans ((h z hz).2 e)⟩
theorem Ext.c {L L' : List Nat} {f f' : Nat → va_E} {a b : Nat} {e : va_E} (h : Ext L f L' f' a) (hb : hw_c L f b e) (hne : b ≠ a) : hw_c L' f' b e := ⟨(h b hb.1).1, ((h b hb.1).2 hne).trans hb.2⟩
theorem grow_c {L L' : List Nat} {f f' : Nat → va_E} {b : Nat} {e : va_E} (h : ∀ z, z ∈ L → z ∈ L' ∧ f' z = f z) (hb : hw_c L f b e) : hw_c L' f' b e := ⟨(h b hb.1).1, (h b hb.1).2.trans hb.2⟩
/-- one whole -/
def W1 (D : va_G) (L : List Nat) (f : Nat → va_E) (a b x : Nat) : Prop := ∃ u : Nat × (Nat → Nat), hw_c L f a (.inr (5, [.ref b, .int (nI u.1)])) ∧ hw_c L f b (.inl (D.1 100, 41, .inr (.inl (fun q => lN (u.2 q))))) ∧ u.1 ≤ 41 ∧ nOk nB u.1 u.2 x
theorem W1.at {D : va_G} {L L' : List Nat} {f f' : Nat → va_E} {a b x : Nat} (h : W1 D L f a b x) (ha : a ∈ L' ∧ f' a = f a) (hb : b ∈ L' ∧ f' b = f b) : W1 D L' f' a b x := by
  obtain ⟨u, h1, h2, h3⟩ := h
  exact ⟨u, ⟨ha.1, ha.2.trans h1.2⟩, ⟨hb.1, hb.2.trans h2.2⟩, h3⟩
theorem W1.mem {D : va_G} {L : List Nat} {f : Nat → va_E} {a b x : Nat} (h : W1 D L f a b x) : a ∈ L ∧ b ∈ L := by
  obtain ⟨u, h1, h2, h3⟩ := h
  exact ⟨h1.1, h2.1⟩
theorem W1.ne {D : va_G} {L : List Nat} {f : Nat → va_E} {a b x q ci : Nat} {fs : List Value} (h : W1 D L f a b x) (hq : hw_c L f q (.inr (ci, fs))) (hc : ci ≠ 5) : a ≠ q ∧ b ≠ q := by
  obtain ⟨u, h1, h2, h3⟩ := h
  exact ⟨fun e => by subst e; have := h1.2.symm.trans hq.2; simp at this; exact hc this.1.symm, hw_ne h2 hq⟩
theorem W1.neA {D : va_G} {L : List Nat} {f : Nat → va_E} {a b x q n : Nat} {c : ClassId} {g : (Nat → Int32) ⊕ (Nat → Int64) ⊕ (Nat → UInt32) ⊕ (Nat → UInt64) ⊕ (Nat → Option Nat)} (h : W1 D L f a b x) (hq : hw_c L f q (.inl (c, n, g))) (hn : n ≠ 41) : a ≠ q ∧ b ≠ q := by
  obtain ⟨u, h1, h2, h3⟩ := h
  exact ⟨fun e => hw_ne hq h1 e.symm, fun e => by subst e; have := h2.2.symm.trans hq.2; simp at this; exact hn this.2.1.symm⟩
theorem W1.new {D : va_G} {L L' : List Nat} {f f' : Nat → va_E} {a b x : Nat} (h : W1 D L f a b x) (k : ∀ z, z ∈ L → z ∈ L' ∧ f' z = f z) : W1 D L' f' a b x := h.at (k a h.mem.1) (k b h.mem.2)
theorem W1.ext {D : va_G} {L L' : List Nat} {f f' : Nat → va_E} {a b x q : Nat} (h : W1 D L f a b x) (k : Ext L f L' f' q) (h1 : a ≠ q ∧ b ≠ q) : W1 D L' f' a b x := h.at ⟨(k a h.mem.1).1, (k a h.mem.1).2 h1.1⟩ ⟨(k b h.mem.2).1, (k b h.mem.2).2 h1.2⟩
theorem W1.put {D : va_G} {L : List Nat} {f f' : Nat → va_E} {a b x q : Nat} (h : W1 D L f a b x) (k : ∀ z, z ≠ q → f' z = f z) (h1 : a ≠ q ∧ b ≠ q) : W1 D L f' a b x := h.at ⟨h.mem.1, k a h1.1⟩ ⟨h.mem.2, k b h1.2⟩
theorem W1.mk1 {D : va_G} {L : List Nat} {f : Nat → va_E} {o r : Nat → Nat} {x : Nat → Nat} (h : AllN D L f o r 1 x) : W1 D L f (o 0) (r 0) (x 0) := by
  obtain ⟨v, h1, h2⟩ := h
  exact ⟨v 0, (h1 0 (by decide)).1, (h1 0 (by decide)).2, h2 0 (by decide)⟩
theorem W1.all1 {D : va_G} {L : List Nat} {f : Nat → va_E} {a b x : Nat} (h : W1 D L f a b x) : AllN D L f (fun _ => a) (fun _ => b) 1 (fun _ => x) := by
  obtain ⟨u, h1, h2, h3⟩ := h
  exact ⟨fun _ => u, fun i _ => ⟨h1, h2⟩, fun i _ => h3⟩
theorem lay1 {a b : Nat} : Lay (fun _ => a) (fun _ => b) 1 := ⟨fun i j hi hj _ => by omega, fun i j hi hj _ => by omega⟩
/-- the wholes lo .. hi - 1 -/
def AN (lo hi : Nat) (D : va_G) (L : List Nat) (f : Nat → va_E) (o r x : Nat → Nat) : Prop := (∀ i, lo ≤ i → i < hi → W1 D L f (o i) (r i) (x i)) ∧ (∀ i j, lo ≤ i → i < hi → lo ≤ j → j < hi → o i = o j → i = j) ∧ (∀ i j, lo ≤ i → i < hi → lo ≤ j → j < hi → r i = r j → i = j)
section ANs
variable {D : va_G} {L L' : List Nat} {f f' : Nat → va_E} {o r x : Nat → Nat} {lo mid hi a b v q ci : Nat}
theorem AN.nil : AN lo lo D L f o r x := ⟨fun i h1 h2 => by omega, fun i j h1 h2 => by omega, fun i j h1 h2 => by omega⟩
theorem AN.new (h : AN lo hi D L f o r x) (k : ∀ z, z ∈ L → z ∈ L' ∧ f' z = f z) : AN lo hi D L' f' o r x := ⟨fun i h1 h2 => (h.1 i h1 h2).new k, h.2⟩
theorem AN.nin (h : AN lo hi D L f o r x) (hq : q ∉ L) : ∀ i, lo ≤ i → i < hi → o i ≠ q ∧ r i ≠ q := fun i h1 h2 => ⟨fun e => hq (e ▸ (h.1 i h1 h2).mem.1), fun e => hq (e ▸ (h.1 i h1 h2).mem.2)⟩
theorem AN.ext (h : AN lo hi D L f o r x) (k : Ext L f L' f' q) (h1 : ∀ i, lo ≤ i → i < hi → o i ≠ q ∧ r i ≠ q) : AN lo hi D L' f' o r x := ⟨fun i g1 g2 => (h.1 i g1 g2).ext k (h1 i g1 g2), h.2⟩
theorem AN.put (h : AN lo hi D L f o r x) (k : ∀ z, z ≠ q → f' z = f z) (h1 : ∀ i, lo ≤ i → i < hi → o i ≠ q ∧ r i ≠ q) : AN lo hi D L f' o r x := ⟨fun i g1 g2 => (h.1 i g1 g2).put k (h1 i g1 g2), h.2⟩
theorem AN.ne (h : AN lo hi D L f o r x) {fs : List Value} (hq : hw_c L f q (.inr (ci, fs))) (hc : ci ≠ 5) : ∀ i, lo ≤ i → i < hi → o i ≠ q ∧ r i ≠ q := fun i h1 h2 => (h.1 i h1 h2).ne hq hc
theorem AN.push (h : AN lo hi D L f o r x) (hlh : lo ≤ hi) (hW : W1 D L f a b v) (h1 : ∀ i, lo ≤ i → i < hi → o i ≠ a ∧ r i ≠ b) : AN lo (hi + 1) D L f (va_up o hi a) (va_up r hi b) (va_up x hi v) := by
  have key : ∀ (u : Nat → Nat) (w : Nat), (∀ i j, lo ≤ i → i < hi → lo ≤ j → j < hi → u i = u j → i = j) → (∀ i, lo ≤ i → i < hi → u i ≠ w) → ∀ i j, lo ≤ i → i < hi + 1 → lo ≤ j → j < hi + 1 → va_up u hi w i = va_up u hi w j → i = j := by
    intro u w hu hw i j g1 g2 g3 g4 e
    by_cases ei : i = hi
    · by_cases ej : j = hi
      · rw [ei, ej]
      · rw [ei, hw_up_eq, hw_up_ne ej] at e
        exact absurd e.symm (hw j g3 (by omega))
    · by_cases ej : j = hi
      · rw [ej, hw_up_eq, hw_up_ne ei] at e
        exact absurd e (hw i g1 (by omega))
      · rw [hw_up_ne ei, hw_up_ne ej] at e
        exact hu i j g1 (by omega) g3 (by omega) e
  refine ⟨fun i g1 g2 => ?_, key o a h.2.1 (fun i g1 g2 => (h1 i g1 g2).1), key r b h.2.2 (fun i g1 g2 => (h1 i g1 g2).2)⟩
  by_cases e : i = hi
  · subst e
    rw [hw_up_eq, hw_up_eq, hw_up_eq]
    exact hW
  · rw [hw_up_ne e, hw_up_ne e, hw_up_ne e]
    exact h.1 i g1 (by omega)
def jn (mid : Nat) (u w : Nat → Nat) : Nat → Nat := fun i => if i < mid then u i else w i
theorem jn_lt {u w : Nat → Nat} {i : Nat} (h : i < mid) : jn mid u w i = u i := if_pos h
theorem jn_ge {u w : Nat → Nat} {i : Nat} (h : mid ≤ i) : jn mid u w i = w i := if_neg (by omega)
theorem AN.join {o2 r2 x2 : Nat → Nat} (h : AN lo mid D L f o r x) (k : AN mid hi D L f o2 r2 x2) (hne : ∀ i j, lo ≤ i → i < mid → mid ≤ j → j < hi → o i ≠ o2 j ∧ r i ≠ r2 j) : AN lo hi D L f (jn mid o o2) (jn mid r r2) (jn mid x x2) := by
  have key : ∀ (u w : Nat → Nat), (∀ i j, lo ≤ i → i < mid → lo ≤ j → j < mid → u i = u j → i = j) → (∀ i j, mid ≤ i → i < hi → mid ≤ j → j < hi → w i = w j → i = j) → (∀ i j, lo ≤ i → i < mid → mid ≤ j → j < hi → u i ≠ w j) → ∀ i j, lo ≤ i → i < hi → lo ≤ j → j < hi → jn mid u w i = jn mid u w j → i = j := by
    intro u w hu hw hn i j g1 g2 g3 g4 e
    rcases Nat.lt_or_ge i mid with a1 | a1
    · rcases Nat.lt_or_ge j mid with a2 | a2
      · rw [jn_lt a1, jn_lt a2] at e
        exact hu i j g1 a1 g3 a2 e
      · rw [jn_lt a1, jn_ge a2] at e
        exact absurd e (hn i j g1 a1 a2 g4)
    · rcases Nat.lt_or_ge j mid with a2 | a2
      · rw [jn_ge a1, jn_lt a2] at e
        exact absurd e.symm (hn j i g3 a2 a1 g2)
      · rw [jn_ge a1, jn_ge a2] at e
        exact hw i j a1 g2 a2 g4 e
  refine ⟨fun i g1 g2 => ?_, key o o2 h.2.1 k.2.1 (fun i j g1 g2 g3 g4 => (hne i j g1 g2 g3 g4).1), key r r2 h.2.2 k.2.2 (fun i j g1 g2 g3 g4 => (hne i j g1 g2 g3 g4).2)⟩
  rcases Nat.lt_or_ge i mid with a1 | a1
  · rw [jn_lt a1, jn_lt a1, jn_lt a1]
    exact h.1 i g1 a1
  · rw [jn_ge a1, jn_ge a1, jn_ge a1]
    exact k.1 i a1 g2
theorem AN.all {N : Nat} (h : AN 0 N D L f o r x) : AllN D L f o r N x ∧ Lay o r N := by
  refine ⟨?_, fun i j hi hj e => h.2.1 i j (Nat.zero_le _) hi (Nat.zero_le _) hj e, fun i j hi hj e => h.2.2 i j (Nat.zero_le _) hi (Nat.zero_le _) hj e⟩
  have h1 : ∀ i, ∃ u : Nat × (Nat → Nat), i < N → hw_c L f (o i) (.inr (5, [.ref (r i), .int (nI u.1)])) ∧ hw_c L f (r i) (.inl (D.1 100, 41, .inr (.inl (fun q => lN (u.2 q))))) ∧ u.1 ≤ 41 ∧ nOk nB u.1 u.2 (x i) := fun i => by
    by_cases hi : i < N
    · obtain ⟨u, hu⟩ := h.1 i (Nat.zero_le _) hi
      exact ⟨u, fun _ => hu⟩
    · exact ⟨(0, fun _ => 0), fun k => absurd k hi⟩
  obtain ⟨v, hv⟩ := Classical.axiomOfChoice h1
  exact ⟨v, fun i hi => ⟨(hv i hi).1, (hv i hi).2.1⟩, fun i hi => (hv i hi).2.2⟩
end ANs

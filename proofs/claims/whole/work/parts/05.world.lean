/-! a world as a function: the cells at the addresses L hold what f says -/
/-- private members of nest mates, texts -/
def NF : List (String × Nat × String × String × String) := [("WallFractions$Divider", 43, "WallFractions$Whole", "limbs", "[J"), ("WallFractions$Measure", 112, "WallFractions$Whole", "limbs", "[J"), ("WallFractions$Divider", 31, "WallFractions$Whole", "size", "I"), ("WallFractions$Measure", 40, "WallFractions$Whole", "size", "I"), ("WallFractions$Fraction", 33, "WallFractions$Whole", "size", "I"), ("WallFractions$Reckoner", 72, "WallFractions$Fraction", "above", "LWallFractions$Whole;"), ("WallFractions", 88, "WallFractions$Fraction", "above", "LWallFractions$Whole;"), ("WallFractions$Reckoner", 78, "WallFractions$Fraction", "below", "LWallFractions$Whole;"), ("WallFractions", 92, "WallFractions$Fraction", "below", "LWallFractions$Whole;"), ("WallFractions$Reckoner", 81, "WallFractions$Fraction", "negative", "Z"), ("WallFractions", 77, "WallFractions$Fraction", "negative", "Z"), ("WallFractions", 205, "WallFractions$Reckoner", "out", "LWallFractions$Fraction;"), ("WallFractions$Measure", 79, "WallFractions", "TENS", "[J"), ("WallFractions$Whole", 34, "WallFractions", "TENS", "[J"), ("WallFractions$Reckoner", 164, "WallFractions", "TENS", "[J")]
def NM : List (String × Nat × MethodName) := [("WallFractions$Reckoner", 68, ⟨"WallFractions$Whole", "requireDivisor", "(J)V"⟩), ("WallFractions$Measure", 108, ⟨"WallFractions$Whole", "limbAt", "(I)J"⟩), ("WallFractions$Divider", 54, ⟨"WallFractions$Whole", "requireDivisor", "(J)V"⟩), ("WallFractions$Divider", 67, ⟨"WallFractions$Whole", "settle", "(I)V"⟩), ("WallFractions$Measure", 118, ⟨"WallFractions$Whole", "settle", "(I)V"⟩)]
def ST : List (String × Nat × String) := [("WallFractions", 195, "there is no such register"), ("WallFractions", 192, "a number is out of its bounds"), ("WallFractions", 51, "below is 0"), ("WallFractions$Whole", 26, "no divisor"), ("WallFractions$Reckoner", 53, "it does not fit"), ("WallFractions", 200, "the register is not whole"), ("WallFractions$Whole", 21, "too long a number"), ("WallFractions$Divider", 26, "no call divides by 0"), ("WallFractions", 105, "b is 0"), ("WallFractions", 126, "a is below 0"), ("WallFractions", 148, "there is no such digit"), ("WallFractions", 177, "all weights are 0")]
/-- words of the face: what may be caught, what is declared -/
def FW : List Cond := [.castable "java/lang/IllegalArgumentException" "java/lang/IllegalArgumentException", .declares ⟨"java/lang/RuntimeException", "<init>", "()V"⟩, .declares ⟨"java/lang/RuntimeException", "<init>", "(Ljava/lang/String;)V"⟩, .declares ⟨"java/lang/Exception", "<init>", "()V"⟩, .declares ⟨"java/lang/Exception", "<init>", "(Ljava/lang/String;)V"⟩, .declares ⟨"java/lang/Throwable", "<init>", "()V"⟩, .declares ⟨"java/lang/Throwable", "<init>", "(Ljava/lang/String;)V"⟩, .castable "java/lang/ArithmeticException" "java/lang/ArithmeticException", .castable "java/lang/IllegalStateException" "java/lang/IllegalStateException", .castable "java/lang/IndexOutOfBoundsException" "java/lang/IndexOutOfBoundsException"]
def NC : List (String × String) := [("java/lang/ArithmeticException", "java/lang/IllegalArgumentException"), ("java/lang/IllegalStateException", "java/lang/IllegalArgumentException"), ("java/lang/IndexOutOfBoundsException", "java/lang/IllegalArgumentException"), ("java/lang/IllegalStateException", "java/lang/ArithmeticException")]
theorem FW_ok : ∀ w ∈ FW, vx_ot w = true ∧ w.faceAtom = true := by decide +kernel
theorem FW_warm {s U : State} (hw : s.WarmedH U.vm) (h : ∀ w ∈ FW, w.before #[] s = true) : ∀ w ∈ FW, w.before #[] U = true := fun w hm =>
  vx_ot_at (s := s.setVm U.vm) (State.WarmedH.refl (s.setVm U.vm)) rfl (FW_ok w hm).1 (Cond.faceAtom_setVm hw.alike w (FW_ok w hm).2 (h w hm))
theorem FW_any {s : State} {a : Array Value} (h : ∀ w ∈ FW, w.before #[] s = true) : ∀ w ∈ FW, w.before a s = true := fun w hm => vx_ot_at (State.WarmedH.refl s) rfl (FW_ok w hm).1 (h w hm)
def tyD (D : va_G) : List (ClassId × FieldType) := [(D.1 100, .long), (D.1 101, .int), (D.1 102, .object "WallFractions$Fraction")]
def XK (t0 : Nat) (A : Nat → Prop) (U : State) (H : Heap) : Prop :=
  (∀ q ∈ NF, va_Nw (.fieldLinkNest q.1 q.2.1 q.2.2.1 q.2.2.2.1 q.2.2.2.2 "WallFractions") U) ∧ (∀ q ∈ NM, va_Nw (.methodLinkNest q.1 q.2.1 q.2.2 "WallFractions") U) ∧ (∀ q ∈ ST, ∃ sa, vk_R q.1 q.2.1 q.2.2 sa U) ∧
  va_Z "WallFractions" "TENS" "[J" (.ref t0) A U H ∧ va_T .long t0 10 (fun j => .long (lN (10 ^ j))) A U H ∧ vx_Zq Bundle.tN "UNASSIGNED_STACK" Bundle.steD A U H ∧ vx_Zq Bundle.tN "SUPPRESSED_SENTINEL" Bundle.listD A U H ∧ (∀ w ∈ FW, w.before #[] U = true) ∧ (∀ q ∈ NC, va_Nc q.1 q.2 U) ∧ va_AO "WallFractions$Fraction" U
theorem XK.warm {t0 : Nat} {A : Nat → Prop} {s U : State} {H : Heap} (h : XK t0 A s H) (hw : s.WarmedH U.vm) : XK t0 A U H := by
  obtain ⟨h1, h2, h3, h4, h5, h6, h7, h8, h9, h10⟩ := h
  exact ⟨fun q hq => va_Nw.warmF hw (h1 q hq), fun q hq => va_Nw.warmM hw (h2 q hq), fun q hq => (h3 q hq).imp fun sa h => vk_R.warm hw h, va_Z.moved hw.alike h4, va_T.moved hw.alike h5, vx_Zq.moved hw.alike h6, vx_Zq.moved hw.alike h7, FW_warm hw h8, fun q hq => va_Nc.moved hw.alike (h9 q hq), va_AO.moved hw.alike h10⟩
theorem XK.kept {t0 : Nat} {A : Nat → Prop} {s : State} {H H1 : Heap} (h : XK t0 A s H) (hq : ∀ a : Nat, a < H.size → ¬ A a → H1[a]? = H[a]?) : XK t0 A s H1 := by
  obtain ⟨h1, h2, h3, h4, h5, h6, h7, h8, h9, h10⟩ := h
  exact ⟨h1, h2, h3, va_Z.kept h4 hq, va_T.kept h5 hq, vx_Zq.kept h6 hq, vx_Zq.kept h7 hq, h8, h9, h10⟩
theorem XK.narrow {t0 : Nat} {A B : Nat → Prop} {s : State} {H : Heap} (h : XK t0 A s H) (hAB : ∀ q, B q → A q) : XK t0 B s H := by
  obtain ⟨h1, h2, h3, h4, h5, h6, h7, h8, h9, h10⟩ := h
  exact ⟨h1, h2, h3, va_Z.narrow h4 hAB, va_T.narrow h5 hAB, vx_Zq.narrow h6 hAB, vx_Zq.narrow h7 hAB, h8, h9, h10⟩
def hw_A (L : List Nat) (sz : Nat) : Nat → Prop := fun q => q ∈ L ∨ sz ≤ q
def hw_I (D : va_G) (t0 : Nat) (A : Nat → Prop) (s : State) (L : List Nat) (f : Nat → va_E) (H : Heap) (locs : List Loc) : Prop :=
  va_P D classes (va_pl L f) H ∧ va_D A (va_pl L f) ∧ va_S A s.heap H locs ∧ (∀ q, s.heap.size ≤ q → A q) ∧ va_K D classes (tyD D) s ∧ XK t0 A s s.heap
/-- a cell -/
def hw_c (L : List Nat) (f : Nat → va_E) (a : Nat) (e : va_E) : Prop := a ∈ L ∧ f a = e
theorem hw_c.up {L : List Nat} {f : Nat → va_E} {a b : Nat} {e e' : va_E} (h : hw_c L f a e) (hn : a ≠ b) : hw_c L (va_up f b e') a e := ⟨h.1, by simp only [va_up]; rw [if_neg hn]; exact h.2⟩
theorem hw_c.self {L : List Nat} {f : Nat → va_E} {a : Nat} {e e' : va_E} (h : hw_c L f a e) : hw_c L (va_up f a e') a e' := ⟨h.1, by simp [va_up]⟩
theorem hw_up_ne {α : Type} {f : Nat → α} {a b : Nat} {e : α} (h : a ≠ b) : va_up f b e a = f a := by simp only [va_up]; rw [if_neg h]
theorem hw_up_eq {α : Type} {f : Nat → α} {a : Nat} {e : α} : va_up f a e a = e := by simp [va_up]
theorem hw_pl_get {L : List Nat} {f : Nat → va_E} {a : Nat} {e : va_E} (h : hw_c L f a e) : ∃ k : Nat, (va_pl L f)[k]? = some (a, e) := by
  obtain ⟨k, hk⟩ := va_pl_get (X := []) (f := f) h.1
  exact ⟨k, by rw [← h.2]; simpa using hk⟩
theorem hw_pl_set {A : Nat → Prop} {L : List Nat} {f : Nat → va_E} {a k : Nat} {e e' : va_E} (hD : va_D A (va_pl L f)) (h : hw_c L f a e) (hk : (va_pl L f)[k]? = some (a, e)) : (va_pl L f).set k (a, e') = va_pl L (va_up f a e') := by
  have := va_pl_set (X := []) (L := L) (f := f) (a := a) (k := k) (e := e') (A := A) (by simpa using hD) h.1 (by rw [h.2]; simpa using hk)
  simpa using this
theorem hw_pl_mem {L : List Nat} {f : Nat → va_E} {q : Nat} {e : va_E} {k : Nat} (h : (va_pl L f)[k]? = some (q, e)) : q ∈ L := by
  unfold va_pl at h
  rw [List.getElem?_map] at h
  cases hk : L[k]? with
  | none => rw [hk] at h; cases h
  | some a =>
    rw [hk] at h
    cases h
    exact List.mem_of_getElem? hk
theorem hw_A_iff {L : List Nat} {f : Nat → va_E} {sz q : Nat} : va_A (va_pl L f) sz q ↔ hw_A L sz q := by
  constructor
  · rintro (⟨k, e, h⟩ | h)
    · exact Or.inl (hw_pl_mem h)
    · exact Or.inr h
  · rintro (h | h)
    · obtain ⟨k, hk⟩ := hw_pl_get (L := L) (f := f) (a := q) ⟨h, rfl⟩
      exact Or.inl ⟨k, _, hk⟩
    · exact Or.inr h
theorem hw_D_any {A : Nat → Prop} {L : List Nat} {f f' : Nat → va_E} (h : va_D A (va_pl L f)) : va_D A (va_pl L f') := by
  have at' : ∀ {f : Nat → va_E} (k : Nat) (q : Nat × va_E), (va_pl L f)[k]? = some q → L[k]? = some q.1 ∧ q.2 = f q.1 := by
    intro f k q hq
    unfold va_pl at hq
    rw [List.getElem?_map] at hq
    cases hk : L[k]? with
    | none => rw [hk] at hq; cases hq
    | some a => rw [hk] at hq; cases hq; exact ⟨rfl, rfl⟩
  have of' : ∀ (k : Nat) (a : Nat), L[k]? = some a → (va_pl L f)[k]? = some (a, f a) := by
    intro k a ha
    unfold va_pl
    rw [List.getElem?_map, ha]; rfl
  refine ⟨fun i j p q hp hq e => ?_, fun k q hk => ?_⟩
  · have h1 := (at' i p hp).1
    have h2 := (at' j q hq).1
    exact h.1 i j _ _ (of' i _ h1) (of' j _ h2) e
  · exact h.2 k (q.1, f q.1) (of' k _ (at' k q hk).1)
theorem hw_I.P {D : va_G} {t0 : Nat} {A : Nat → Prop} {s : State} {L : List Nat} {f : Nat → va_E} {H : Heap} {locs : List Loc} (h : hw_I D t0 A s L f H locs) : va_P D classes (va_pl L f) H := h.1
theorem hw_I.mk {D : va_G} {t0 : Nat} {A : Nat → Prop} {s : State} {L L' : List Nat} {f f' : Nat → va_E} {H H' : Heap} {locs locs' : List Loc} (h : hw_I D t0 A s L f H locs) (h1 : va_P D classes (va_pl L' f') H') (h2 : va_D A (va_pl L' f')) (h3 : va_S A s.heap H' locs') : hw_I D t0 A s L' f' H' locs' := ⟨h1, h2, h3, h.2.2.2.1, h.2.2.2.2⟩
theorem hw_I.inA {D : va_G} {t0 : Nat} {A : Nat → Prop} {s : State} {L : List Nat} {f : Nat → va_E} {H : Heap} {locs : List Loc} (h : hw_I D t0 A s L f H locs) : ∀ q, hw_A L H.size q → A q := by
  rintro q (hq | hq)
  · obtain ⟨k, hk⟩ := hw_pl_get (L := L) (f := f) (a := q) ⟨hq, rfl⟩
    exact h.2.1.2 k _ hk
  · exact h.2.2.2.1 q (Nat.le_trans h.2.2.1.1 hq)
/-- a world that is like another on its cells -/
theorem hw_I.congr {D : va_G} {t0 : Nat} {A : Nat → Prop} {s : State} {L : List Nat} {f f' : Nat → va_E} {H : Heap} {locs : List Loc} (h : hw_I D t0 A s L f H locs) (he : ∀ a, a ∈ L → f a = f' a) : hw_I D t0 A s L f' H locs := by
  have : va_pl L f = va_pl L f' := by
    unfold va_pl
    exact List.map_congr_left (fun a ha => by rw [he a ha])
  unfold hw_I
  rw [← this]
  exact h
section HW
variable {p : Program} {l : Launch} {e : Env} {R : Room} {s : State} {m : MethodId} {args : Array Value} {below : List Frame} {meth : Method} {c : Code} {H : Heap} {locs : List Loc} {cells slots : Nat} {Q : State → Prop}
variable {cc : ByteArray} {pc : Nat} {ls : Array Slot} {rest : List Value} {D : va_G} {t0 : Nat} {A : Nat → Prop} {a : Nat} {L : List Nat} {f : Nat → va_E}
theorem hw_get (hexec : p.tables.exec = Jvm.exec) (hb : c.code = cc) {own ref C : String} {T : u_T} {N ci index : Nat} {Ts : List Cond} (hts : ∀ w ∈ Ts, w.before args s = true) (hin : ∀ w ∈ u_ws C T N, w ∈ Ts) (hown : s.vm.findClass own = some m.cls) (hI : hw_I D t0 A s L f H locs) {fs : List Value} (he : hw_c L f a (.inr (ci, fs))) (hc : classes[ci]? = some (C, T, N)) (k : Nat) (hk : k < N) (hlink : (Cond.fieldLink own index ref (T k).2.1 (T k).2.2.1).before args s = true) (hsame : ∀ x, s.fieldFound? (T k).1 (T k).2.1 (T k).2.2.1 = some x → s.fieldFound? ref (T k).2.1 (T k).2.2.1 = some x) {v : Value} (hv : fs[k]? = some v) (hdg : decode cc pc = .ok (.getfield index, 3))
    (kk : W p l e R s m args below meth c H locs cells slots Q (F0 m (pc + 3) ls (v :: rest))) : W p l e R s m args below meth c H locs cells slots Q (F0 m pc ls (.ref a :: rest)) := by
  obtain ⟨q0, hq⟩ := hw_pl_get he
  exact va_get hexec hb hts hin hown hI.2.2.2.2.1 hI.1 q0 hq hc k hk hlink hsame hv hdg kk
theorem hw_getN (hexec : p.tables.exec = Jvm.exec) (hb : c.code = cc) {own ref C host : String} {T : u_T} {N ci index : Nat} {Ts : List Cond} (hts : ∀ w ∈ Ts, w.before args s = true) (hin : ∀ w ∈ u_ws C T N, w ∈ Ts) (hown : s.vm.findClass own = some m.cls) (hI : hw_I D t0 A s L f H locs) {fs : List Value} (he : hw_c L f a (.inr (ci, fs))) (hc : classes[ci]? = some (C, T, N)) (k : Nat) (hk : k < N) (hlink : (Cond.fieldLinkNest own index ref (T k).2.1 (T k).2.2.1 host).before args s = true) (hsame : ∀ x, s.fieldFound? (T k).1 (T k).2.1 (T k).2.2.1 = some x → s.fieldFound? ref (T k).2.1 (T k).2.2.1 = some x) {v : Value} (hv : fs[k]? = some v) (hdg : decode cc pc = .ok (.getfield index, 3))
    (kk : W p l e R s m args below meth c H locs cells slots Q (F0 m (pc + 3) ls (v :: rest))) : W p l e R s m args below meth c H locs cells slots Q (F0 m pc ls (.ref a :: rest)) := by
  obtain ⟨q0, hq⟩ := hw_pl_get he
  exact va_getN hexec hb hts hin hown hI.2.2.2.2.1 hI.1 q0 hq hc k hk hlink hsame hv hdg kk
theorem hw_put (hexec : p.tables.exec = Jvm.exec) (hb : c.code = cc) {own ref C : String} {T : u_T} {N ci index : Nat} {Ts : List Cond} (hts : ∀ w ∈ Ts, w.before args s = true) (hin : ∀ w ∈ u_ws C T N, w ∈ Ts) (ty0 : Nat → FieldType) (hty : ∀ k, k < N → parseFieldDescriptor (T k).2.2.1 = some (ty0 k)) (hnm : ∀ a, a < N → ∀ b, b < N → a ≠ b → (T a).2.1 ≠ (T b).2.1) (hown : s.vm.findClass own = some m.cls) (hI : hw_I D t0 A s L f H locs) {fs : List Value} (he : hw_c L f a (.inr (ci, fs))) (hc : classes[ci]? = some (C, T, N)) (k : Nat) (hk : k < N) (hlink : (Cond.fieldLink own index ref (T k).2.1 (T k).2.2.1).before args s = true) (hsame : ∀ x, s.fieldFound? (T k).1 (T k).2.1 (T k).2.2.1 = some x → s.fieldFound? ref (T k).2.1 (T k).2.2.1 = some x) (hfin : (T k).2.2.2 = false) {ty : FieldType} {v : Value} (hd : parseFieldDescriptor (T k).2.2.1 = some ty) (hn : narrow ty v = v) (hfit : fits ty v = true) (hl : k < fs.length)
    (hdg : decode cc pc = .ok (.putfield index, 3)) (kk : ∀ (H1 : Heap) (locs1 : List Loc), hw_I D t0 A s L (va_up f a (.inr (ci, fs.set k v))) H1 locs1 → W p l e R s m args below meth c H1 locs1 cells slots Q (F0 m (pc + 3) ls rest)) : W p l e R s m args below meth c H locs cells slots Q (F0 m pc ls (v :: .ref a :: rest)) := by
  obtain ⟨q0, hq⟩ := hw_pl_get he
  refine va_put hexec hb hts hin ty0 hty hnm hown hI.2.2.2.2.1 hI.1 hI.2.1 hI.2.2.1 q0 hq hc k hk hlink hsame hfin hd hn hfit hl hdg (fun H1 locs1 h1 h2 h3 => ?_)
  rw [hw_pl_set hI.2.1 he hq] at h1 h2
  exact kk H1 locs1 (hI.mk h1 h2 h3)
theorem hw_putF (hexec : p.tables.exec = Jvm.exec) (hb : c.code = cc) {own ref C : String} {T : u_T} {N ci index : Nat} {Ts : List Cond} (hts : ∀ w ∈ Ts, w.before args s = true) (hin : ∀ w ∈ u_ws C T N, w ∈ Ts) (ty0 : Nat → FieldType) (hty : ∀ k, k < N → parseFieldDescriptor (T k).2.2.1 = some (ty0 k)) (hnm : ∀ a, a < N → ∀ b, b < N → a ≠ b → (T a).2.1 ≠ (T b).2.1) (hown : s.vm.findClass own = some m.cls) (hI : hw_I D t0 A s L f H locs) {fs : List Value} (he : hw_c L f a (.inr (ci, fs))) (hc : classes[ci]? = some (C, T, N)) (k : Nat) (hk : k < N) (hlink : (Cond.fieldLink own index ref (T k).2.1 (T k).2.2.1).before args s = true) (hsame : ∀ x, s.fieldFound? (T k).1 (T k).2.1 (T k).2.2.1 = some x → s.fieldFound? ref (T k).2.1 (T k).2.2.1 = some x) (hfin : (T k).2.2.2 = true) (hin2 : meth.name = "<init>") (hdecl : (T k).1 = own) {ty : FieldType} {v : Value} (hd : parseFieldDescriptor (T k).2.2.1 = some ty) (hn : narrow ty v = v) (hfit : fits ty v = true) (hl : k < fs.length)
    (hdg : decode cc pc = .ok (.putfield index, 3)) (kk : ∀ (H1 : Heap) (locs1 : List Loc), hw_I D t0 A s L (va_up f a (.inr (ci, fs.set k v))) H1 locs1 → W p l e R s m args below meth c H1 locs1 cells slots Q (F0 m (pc + 3) ls rest)) : W p l e R s m args below meth c H locs cells slots Q (F0 m pc ls (v :: .ref a :: rest)) := by
  obtain ⟨q0, hq⟩ := hw_pl_get he
  refine va_putF hexec hb hts hin ty0 hty hnm hown hI.2.2.2.2.1 hI.1 hI.2.1 hI.2.2.1 q0 hq hc k hk hlink hsame hfin hin2 hdecl hd hn hfit hl hdg (fun H1 locs1 h1 h2 h3 => ?_)
  rw [hw_pl_set hI.2.1 he hq] at h1 h2
  exact kk H1 locs1 (hI.mk h1 h2 h3)
theorem hw_putN (hexec : p.tables.exec = Jvm.exec) (hb : c.code = cc) {own ref C host : String} {T : u_T} {N ci index : Nat} {Ts : List Cond} (hts : ∀ w ∈ Ts, w.before args s = true) (hin : ∀ w ∈ u_ws C T N, w ∈ Ts) (ty0 : Nat → FieldType) (hty : ∀ k, k < N → parseFieldDescriptor (T k).2.2.1 = some (ty0 k)) (hnm : ∀ a, a < N → ∀ b, b < N → a ≠ b → (T a).2.1 ≠ (T b).2.1) (hown : s.vm.findClass own = some m.cls) (hI : hw_I D t0 A s L f H locs) {fs : List Value} (he : hw_c L f a (.inr (ci, fs))) (hc : classes[ci]? = some (C, T, N)) (k : Nat) (hk : k < N) (hlink : (Cond.fieldLinkNest own index ref (T k).2.1 (T k).2.2.1 host).before args s = true) (hsame : ∀ x, s.fieldFound? (T k).1 (T k).2.1 (T k).2.2.1 = some x → s.fieldFound? ref (T k).2.1 (T k).2.2.1 = some x) (hfin : (T k).2.2.2 = false) {ty : FieldType} {v : Value} (hd : parseFieldDescriptor (T k).2.2.1 = some ty) (hn : narrow ty v = v) (hfit : fits ty v = true) (hl : k < fs.length)
    (hdg : decode cc pc = .ok (.putfield index, 3)) (kk : ∀ (H1 : Heap) (locs1 : List Loc), hw_I D t0 A s L (va_up f a (.inr (ci, fs.set k v))) H1 locs1 → W p l e R s m args below meth c H1 locs1 cells slots Q (F0 m (pc + 3) ls rest)) : W p l e R s m args below meth c H locs cells slots Q (F0 m pc ls (v :: .ref a :: rest)) := by
  obtain ⟨q0, hq⟩ := hw_pl_get he
  refine va_putN hexec hb hts hin ty0 hty hnm hown hI.2.2.2.2.1 hI.1 hI.2.1 hI.2.2.1 q0 hq hc k hk hlink hsame hfin hd hn hfit hl hdg (fun H1 locs1 h1 h2 h3 => ?_)
  rw [hw_pl_set hI.2.1 he hq] at h1 h2
  exact kk H1 locs1 (hI.mk h1 h2 h3)
theorem hw_lald (hexec : p.tables.exec = Jvm.exec) (hb : c.code = cc) (hI : hw_I D t0 A s L f H locs) (k0 : Nat) {cA : ClassId} {n : Nat} {h : Nat → Int64} (ha : hw_c L f a (.inl (cA, n, .inr (.inl h)))) (ht : (tyD D)[k0]? = some (cA, .long)) {i : Int32} (hin : vp_in i n) (hdg : decode cc pc = .ok (.laload, 1))
    (kk : W p l e R s m args below meth c H locs cells slots Q (F0 m (pc + 1) ls (.long (h i.toNatClampNeg) :: rest))) : W p l e R s m args below meth c H locs cells slots Q (F0 m pc ls (.int i :: .ref a :: rest)) := by
  obtain ⟨q0, hq⟩ := hw_pl_get ha
  exact va_lald hexec hb hI.2.2.2.2.1 hI.1 q0 k0 hq ht hin hdg kk
theorem hw_iald (hexec : p.tables.exec = Jvm.exec) (hb : c.code = cc) (hI : hw_I D t0 A s L f H locs) (k0 : Nat) {cA : ClassId} {n : Nat} {h : Nat → Int32} (ha : hw_c L f a (.inl (cA, n, .inl h))) (ht : (tyD D)[k0]? = some (cA, .int)) {i : Int32} (hin : vp_in i n) (hdg : decode cc pc = .ok (.iaload, 1))
    (kk : W p l e R s m args below meth c H locs cells slots Q (F0 m (pc + 1) ls (.int (h i.toNatClampNeg) :: rest))) : W p l e R s m args below meth c H locs cells slots Q (F0 m pc ls (.int i :: .ref a :: rest)) := by
  obtain ⟨q0, hq⟩ := hw_pl_get ha
  exact va_iald hexec hb hI.2.2.2.2.1 hI.1 q0 k0 hq ht hin hdg kk
theorem hw_aald (hexec : p.tables.exec = Jvm.exec) (hb : c.code = cc) (hI : hw_I D t0 A s L f H locs) (k0 : Nat) {cA : ClassId} {C : String} {n : Nat} {h : Nat → Option Nat} (ha : hw_c L f a (.inl (cA, n, .inr (.inr (.inr (.inr h)))))) (ht : (tyD D)[k0]? = some (cA, .object C)) {i : Int32} {x : Nat} (hin : vp_in i n) (hv : h i.toNatClampNeg = some x) (hdg : decode cc pc = .ok (.aaload, 1))
    (kk : W p l e R s m args below meth c H locs cells slots Q (F0 m (pc + 1) ls (.ref x :: rest))) : W p l e R s m args below meth c H locs cells slots Q (F0 m pc ls (.int i :: .ref a :: rest)) := by
  obtain ⟨q0, hq⟩ := hw_pl_get ha
  refine va_aldq hexec hb hI.2.2.2.2.1 hI.1 q0 k0 hq ht hin hdg ?_
  rw [hv]
  exact kk
theorem hw_last (hexec : p.tables.exec = Jvm.exec) (hb : c.code = cc) (hI : hw_I D t0 A s L f H locs) (k0 : Nat) {cA : ClassId} {n : Nat} {h : Nat → Int64} (ha : hw_c L f a (.inl (cA, n, .inr (.inl h)))) (ht : (tyD D)[k0]? = some (cA, .long)) {i : Int32} {x : Int64} (hin : vp_in i n) (hdg : decode cc pc = .ok (.lastore, 1))
    (kk : ∀ (H1 : Heap) (locs1 : List Loc), hw_I D t0 A s L (va_up f a (.inl (cA, n, .inr (.inl (vp_updL h i.toNatClampNeg x))))) H1 locs1 → W p l e R s m args below meth c H1 locs1 cells slots Q (F0 m (pc + 1) ls rest)) : W p l e R s m args below meth c H locs cells slots Q (F0 m pc ls (.long x :: .int i :: .ref a :: rest)) := by
  obtain ⟨q0, hq⟩ := hw_pl_get ha
  refine va_last hexec hb hI.2.2.2.2.1 hI.1 hI.2.1 hI.2.2.1 q0 k0 hq ht hin hdg (fun H1 locs1 h1 h2 h3 => ?_)
  rw [hw_pl_set hI.2.1 ha hq] at h1 h2
  exact kk H1 locs1 (hI.mk h1 h2 h3)
theorem hw_iast (hexec : p.tables.exec = Jvm.exec) (hb : c.code = cc) (hI : hw_I D t0 A s L f H locs) (k0 : Nat) {cA : ClassId} {n : Nat} {h : Nat → Int32} (ha : hw_c L f a (.inl (cA, n, .inl h))) (ht : (tyD D)[k0]? = some (cA, .int)) {i : Int32} {x : Int32} (hin : vp_in i n) (hdg : decode cc pc = .ok (.iastore, 1))
    (kk : ∀ (H1 : Heap) (locs1 : List Loc), hw_I D t0 A s L (va_up f a (.inl (cA, n, .inl (upd h i.toNatClampNeg x)))) H1 locs1 → W p l e R s m args below meth c H1 locs1 cells slots Q (F0 m (pc + 1) ls rest)) : W p l e R s m args below meth c H locs cells slots Q (F0 m pc ls (.int x :: .int i :: .ref a :: rest)) := by
  obtain ⟨q0, hq⟩ := hw_pl_get ha
  refine va_iast hexec hb hI.2.2.2.2.1 hI.1 hI.2.1 hI.2.2.1 q0 k0 hq ht hin hdg (fun H1 locs1 h1 h2 h3 => ?_)
  rw [hw_pl_set hI.2.1 ha hq] at h1 h2
  exact kk H1 locs1 (hI.mk h1 h2 h3)
theorem hw_copyl (hexec : p.tables.exec = Jvm.exec) (hb : c.code = cc) (hml : c.maxLocals = ls.size) {own : String} {index : Nat} (hown : s.vm.findClass own = some m.cls) (hlink : (Cond.methodLink own index arraycopyName).before args s = true) (hnat : (Cond.native arraycopyName).before args s = true) (hstat : (Cond.static arraycopyName).before args s = true) (hini : (Cond.initialized "java/lang/System").before args s = true)
    (hI : hw_I D t0 A s L f H locs) (k0 k1 : Nat) {a0 : Nat} {c0 c1 : ClassId} {n0 n1 : Nat} {h0 h1 : Nat → Int64} (ha0 : hw_c L f a0 (.inl (c0, n0, .inr (.inl h0)))) (ha1 : hw_c L f a (.inl (c1, n1, .inr (.inl h1)))) (ht0 : (tyD D)[k0]? = some (c0, .long)) (ht1 : (tyD D)[k1]? = some (c1, .long))
    {sp dp n : Int32} (g1 : ¬ sp < 0) (g2 : ¬ dp < 0) (g3 : ¬ n < 0) (g4 : sp.toNatClampNeg + n.toNatClampNeg ≤ n0) (g5 : dp.toNatClampNeg + n.toNatClampNeg ≤ n1)
    (hframes : 1 ≤ R.frames) (hlocals : (rest.map fun v => v.category).sum + (nativeFrameWords "java/lang/System" "arraycopy" 5 + 11) ≤ R.locals) (hdg : decode cc pc = .ok (.invokestatic index, 3))
    (kk : ∀ (H1 : Heap) (locs1 : List Loc), hw_I D t0 A s L (va_up f a (.inl (c1, n1, .inr (.inl (va_cpy h0 h1 sp.toNatClampNeg dp.toNatClampNeg n.toNatClampNeg))))) H1 locs1 → W p l e R s m args below meth c H1 locs1 cells slots Q (F0 m (pc + 3) ls rest)) : W p l e R s m args below meth c H locs cells slots Q (F0 m pc ls (.int n :: .int dp :: .ref a :: .int sp :: .ref a0 :: rest)) := by
  obtain ⟨q0, hq0⟩ := hw_pl_get ha0
  obtain ⟨q1, hq1⟩ := hw_pl_get ha1
  refine va_copyl hexec hb hml hown hlink hnat hstat hini hI.2.2.2.2.1 hI.1 hI.2.1 hI.2.2.1 q0 q1 k0 k1 hq0 hq1 ht0 ht1 rfl g1 g2 g3 g4 g5 (fun i _ => rfl) hframes hlocals hdg (fun H1 locs1 h1 h2 h3 => ?_)
  rw [hw_pl_set hI.2.1 ha1 hq1] at h1 h2
  exact kk H1 locs1 (hI.mk h1 h2 h3)
theorem hw_recv (hI : hw_I D t0 A s L f H locs) {ci : Nat} {q : vw_C} {fs : List Value} (hc : classes[ci]? = some q) (he : hw_c L f a (.inr (ci, fs))) : ∃ cell : Cell, H[a]? = some cell ∧ cell.vm.isStatics = false ∧ s.vm.findClass q.1 = some cell.cls := by
  obtain ⟨q0, hq⟩ := hw_pl_get he
  exact va_recv hI.2.2.2.2.1 hI.1 hc hq
end HW
/-! ends of methods, calls -/
def hw_Pc (t0 : Nat) (av : List Value) (D : va_G) (L : List Nat) (f : Nat → va_E) (sz : Nat) : Array Value → State → Prop :=
  va_Pc av (fun U => U.heap.size = sz ∧ va_P D classes (va_pl L f) U.heap ∧ va_K D classes (tyD D) U ∧ va_D (fun _ => True) (va_pl L f) ∧ XK t0 (hw_A L sz) U U.heap)
def hw_Q (D : va_G) (L : List Nat) (sz : Nat) (post : Outcome → List Nat → (Nat → va_E) → Prop) : Array Value → State → Outcome → State → Prop := fun _ st oc t =>
  (∃ (L' : List Nat) (f' : Nat → va_E), post oc L' f' ∧ va_P D classes (va_pl L' f') t.heap ∧ va_D (hw_A L sz) (va_pl L' f')) ∧ va_F (hw_A L sz) st t
def hw_X (D : va_G) (L : List Nat) (sz : Nat) (px : String → List Nat → (Nat → va_E) → Prop) : String → State → State → Prop := fun E st t =>
  (∃ (L' : List Nat) (f' : Nat → va_E), px E L' f' ∧ va_P D classes (va_pl L' f') t.heap ∧ va_D (hw_A L sz) (va_pl L' f')) ∧ va_F (hw_A L sz) st t
theorem hw_blind {t0 : Nat} {av : List Value} {D : va_G} {L : List Nat} {f : Nat → va_E} {sz : Nat} : FrameBlind (hw_Pc t0 av D L f sz) := by
  rintro a U g mk ⟨h1, h2, h3, h4, h5, h6⟩
  exact ⟨h1, h2, h3, va_K.moved (u := U) (U := U.calling g mk a) (Vm.Alike.refl U.vm) h4, h5, h6.warm (U := U.calling g mk a) (State.WarmedH.refl U)⟩
theorem hw_start {t0 : Nat} {av : List Value} {D : va_G} {L : List Nat} {f : Nat → va_E} {sz : Nat} {args : Array Value} {s : State} (h : hw_Pc t0 av D L f sz args s) : args = av.toArray ∧ s.heap.size = sz ∧ hw_I D t0 (hw_A L sz) s L f s.heap [] := by
  obtain ⟨h1, h2, h3, h4, h5, h6⟩ := h
  exact ⟨h1, h2, h3, ⟨h5.1, fun k q hk => Or.inl (hw_pl_mem hk)⟩, va_S.rf, fun q hq => Or.inr (by omega), h4, h6⟩
theorem hw_pre {D : va_G} {t0 : Nat} {A : Nat → Prop} {s : State} {L : List Nat} {f : Nat → va_E} {H : Heap} {locs : List Loc} (hI : hw_I D t0 A s L f H locs) (av : List Value) : ∀ U : State, U.heap = H → s.WarmedH U.vm → hw_Pc t0 av D L f H.size av.toArray U := by
  intro U hU hw
  refine ⟨rfl, by rw [hU], by rw [hU]; exact hI.1, va_K.moved hw.alike hI.2.2.2.2.1, hI.2.1.weaken (fun _ _ _ _ => trivial), ?_⟩
  have h := ((hI.2.2.2.2.2.kept hI.2.2.1.2.1).warm hw).narrow hI.inA
  rw [hU]
  exact h
/-- behind a call -/
theorem hw_back {D : va_G} {t0 : Nat} {A : Nat → Prop} {s : State} {L L' : List Nat} {f f' : Nat → va_E} {H : Heap} {locs L2 : List Loc} {st₀ t T' : State} (hI : hw_I D t0 A s L f H locs) (h0 : st₀.heap = H) (e1 : T'.heap = t.heap) (hL : ∀ q ∈ L2, hw_A L H.size q.base) (hP' : va_P D classes (va_pl L' f') t.heap) (hD' : va_D (hw_A L H.size) (va_pl L' f')) (hF : va_F (hw_A L H.size) st₀ t) : hw_I D t0 A s L' f' T'.heap (locs ++ L2) := by
  obtain ⟨hz, hk⟩ := hF
  rw [h0] at hz hk
  refine ⟨by rw [e1]; exact hP', hD'.weaken (fun _ q _ h => hI.inA q.1 h), ⟨Nat.le_trans hI.2.2.1.1 (by rw [e1]; exact hz), fun q h1 h2 => ?_, fun q hq => ?_⟩, hI.2.2.2⟩
  · rw [e1, hk q (Nat.lt_of_lt_of_le h1 hI.2.2.1.1) (fun z => h2 (hI.inA q z))]
    exact hI.2.2.1.2.1 q h1 h2
  · rcases List.mem_append.mp hq with h | h
    · exact hI.2.2.1.2.2 q h
    · exact hI.inA _ (hL q h)
theorem hw_cb {R : Room} {s : State} {args : Array Value} {own : String} {index : Nat} {y : MethodName} {bytes : ByteArray} {maxL : Nat} {ret : Option FieldType} {rm : Room} {n : Nat} (hT : ∀ w ∈ TT, w.before args s = true) (hm : hw_mB y bytes maxL ret n) (hl : Cond.methodLink own index y ∈ TT) (hR : rm.frames + 1 ≤ R.frames ∧ 8 + (maxL + 11) + rm.locals ≤ R.locals) : CallB R s args own index y bytes maxL ret (Cond.code y bytes maxL ret :: TT) rm rm.cells rm.slots n := by
  obtain ⟨h1, h2, h3, h4, h5⟩ := hm
  refine ⟨rfl, rfl, hR.1, hR.2, fun w hw a' U hW => ?_, List.mem_cons_self, hT _ h1, hT _ h2, ⟨h3, h4⟩, fun sig h => ?_, hT _ hl⟩
  · have hw2 : w ∈ TT := (List.mem_cons.mp hw).elim (fun e => by rw [e]; exact h1) id
    exact word_at hW (TT_good w hw2) (hT w hw2)
  · rw [h] at h5
    exact (Option.some.inj h5).symm
section HC
variable {p : Program} {l : Launch} {e : Env} {R : Room} {s : State} {m : MethodId} {args : Array Value} {below : List Frame} {meth : Method} {c : Code} {H : Heap} {locs : List Loc} {cells slots : Nat} {Q : State → Prop}
variable {cc : ByteArray} {pc : Nat} {ls : Array Slot} {rest st0 : List Value} {D : va_G} {t0 : Nat} {A : Nat → Prop} {L : List Nat} {f : Nat → va_E} {post : Outcome → List Nat → (Nat → va_E) → Prop} {px : String → List Nat → (Nat → va_E) → Prop} {a : Array Value}
theorem hw_run {mc ms : Nat} (hI : hw_I D t0 A s L f H locs) (hr : va_Run p l e R s m args below meth c H locs cells slots mc ms (F0 m pc ls st0) rest (hw_Q D L H.size post a) (hw_A L H.size))
    (kr : ∀ (v : Option Value) (L' : List Nat) (f' : Nat → va_E) (H' : Heap) (locs' : List Loc), post (.returned v) L' f' → hw_I D t0 A s L' f' H' locs' → W p l e R s m args below meth c H' locs' (cells + mc) (slots + ms) Q (F0 m (pc + 3) ls (v.toList ++ rest))) :
    W p l e R s m args below meth c H locs cells slots Q (F0 m pc ls st0) := by
  intro T hT X
  obtain ⟨v, st₀, t, T', L2, h0, X', hL, e1, e2, ⟨⟨L', f', hp, hP', hD'⟩, hF⟩, st⟩ := hr T hT X
  obtain ⟨t2, a1, b1⟩ := kr v L' f' T'.heap (locs ++ L2) hp (hw_back hI h0 e1 hL hP' hD' hF) T' rfl X'
  exact ⟨t2, st t2 a1, b1⟩
theorem hw_xrun {mc ms : Nat} (hI : hw_I D t0 A s L f H locs) (hr : vx_Run p l e R s m args below meth c H locs cells slots mc ms (F0 m pc ls st0) rest (hw_Q D L H.size post a) (hw_X D L H.size px) (hw_A L H.size))
    (kr : ∀ (v : Option Value) (L' : List Nat) (f' : Nat → va_E) (H' : Heap) (locs' : List Loc), post (.returned v) L' f' → hw_I D t0 A s L' f' H' locs' → W p l e R s m args below meth c H' locs' (cells + mc) (slots + ms) Q (F0 m (pc + 3) ls (v.toList ++ rest)))
    (kx : ∀ (E : String) (ce : Cell) (q9 : Addr) (L' : List Nat) (f' : Nat → va_E) (H' : Heap) (locs' : List Loc), px E L' f' → hw_I D t0 A s L' f' H' locs' → H'[q9]? = some ce → ce.vm = .none → s.vm.findClass E = some ce.cls → vx_W p l e R s m args below meth c H' locs' (cells + mc) (slots + ms) Q (F0 m pc ls rest) q9) :
    W p l e R s m args below meth c H locs cells slots Q (F0 m pc ls st0) := by
  intro T hT X
  rcases hr T hT X with ⟨v, st₀, t, T', L2, h0, X', hL, e1, e2, ⟨⟨L', f', hp, hP', hD'⟩, hF⟩, st⟩ | ⟨q, st₀, t, T', L2, E, ce, h0, X', hL, e1, e2, ⟨⟨L', f', hp, hP', hD'⟩, hF⟩, hce, hcv, hcl, st⟩
  · obtain ⟨t2, a1, b1⟩ := kr v L' f' T'.heap (locs ++ L2) hp (hw_back hI h0 e1 hL hP' hD' hF) T' rfl X'
    exact ⟨t2, st t2 a1, b1⟩
  · obtain ⟨t2, a1, b1⟩ := kx E ce q L' f' T'.heap (locs ++ L2) hp (hw_back hI h0 e1 hL hP' hD' hF) (by rw [e1]; exact hce) hcv hcl T' rfl X'
    exact ⟨t2, st.trans a1, b1⟩
variable {own : String} {nL index maxL n ci N b : Nat} {y : MethodName} {bytes : ByteArray} {ret : Option FieldType} {rm : Room} {As : List Value} {fs : List Value} {T : u_T}
/-- a call of an instance method -/
theorem hw_cV (S : CallFix p m c cc nL s args TT own) (hI : hw_I D t0 A s L f H locs) (hm : hw_mV y bytes maxL ret n) (hl : Cond.methodLink own index y ∈ TT)
    (hM : Met l y (Cond.code y bytes maxL ret :: TT) rm (hw_Pc t0 (.ref b :: As) D L f H.size) (hw_Q D L H.size post) rm.cells rm.slots (hw_A L H.size)) (hb : hw_c L f b (.inr (ci, fs))) (hci : classes[ci]? = some (y.cls, T, N)) (hls : ls.size = nL) (hn : As.length = n) (hst : st0 = As.reverse ++ .ref b :: rest) (hW : (rest.map fun v => v.category).sum ≤ 8)
    (hdg : decode cc pc = .ok (.invokevirtual index, 3)) (hR : rm.frames + 1 ≤ R.frames ∧ 8 + (maxL + 11) + rm.locals ≤ R.locals) (hf : cells + rm.cells ≤ R.cells ∧ slots + rm.slots ≤ R.slots)
    (kr : ∀ (v : Option Value) (L' : List Nat) (f' : Nat → va_E) (H' : Heap) (locs' : List Loc), post (.returned v) L' f' → hw_I D t0 A s L' f' H' locs' → W p l e R s m args below meth c H' locs' (cells + rm.cells) (slots + rm.slots) Q (F0 m (pc + 3) ls (v.toList ++ rest))) :
    W p l e R s m args below meth c H locs cells slots Q (F0 m pc ls st0) :=
  hw_run hI (va_runV (As := As) (rest := rest) S hM ⟨hw_cb S.2.2.2.2 hm.1 hl hR, S.2.2.2.2 _ hm.2.1, S.2.2.2.2 _ hm.2.2⟩ ⟨hw_blind, hw_recv hI hci hb, hw_pre hI _⟩ rfl hn hls hst (lv_room hW) hdg hf) kr
theorem hw_cVN (S : CallFix p m c cc nL s args TT own) (hI : hw_I D t0 A s L f H locs) (hm : hw_mV y bytes maxL ret n) (hl : (own, index, y) ∈ NM)
    (hM : Met l y (Cond.code y bytes maxL ret :: TT) rm (hw_Pc t0 (.ref b :: As) D L f H.size) (hw_Q D L H.size post) rm.cells rm.slots (hw_A L H.size)) (hb : hw_c L f b (.inr (ci, fs))) (hci : classes[ci]? = some (y.cls, T, N)) (hls : ls.size = nL) (hn : As.length = n) (hst : st0 = As.reverse ++ .ref b :: rest) (hW : (rest.map fun v => v.category).sum ≤ 8)
    (hdg : decode cc pc = .ok (.invokevirtual index, 3)) (hR : rm.frames + 1 ≤ R.frames ∧ 8 + (maxL + 11) + rm.locals ≤ R.locals) (hf : cells + rm.cells ≤ R.cells ∧ slots + rm.slots ≤ R.slots)
    (kr : ∀ (v : Option Value) (L' : List Nat) (f' : Nat → va_E) (H' : Heap) (locs' : List Loc), post (.returned v) L' f' → hw_I D t0 A s L' f' H' locs' → W p l e R s m args below meth c H' locs' (cells + rm.cells) (slots + rm.slots) Q (F0 m (pc + 3) ls (v.toList ++ rest))) :
    W p l e R s m args below meth c H locs cells slots Q (F0 m pc ls st0) := by
  have hT := S.2.2.2.2
  obtain ⟨⟨h1, h2, h3, h4, h5⟩, h6, h7⟩ := hm
  refine hw_run hI (va_runVN (host := "WallFractions") (As := As) (rest := rest) S hM ⟨⟨⟨rfl, rfl, hR.1, hR.2, fun w hw a' U hW => ?_, List.mem_cons_self⟩, hT _ h1, hT _ h2, ⟨h3, h4⟩, fun sig h => ?_, va_Nw.use rfl (hI.2.2.2.2.2.2.1 _ hl)⟩, hT _ h6, hT _ h7⟩ ⟨hw_blind, hw_recv hI hci hb, hw_pre hI _⟩ rfl hn hls hst (lv_room hW) hdg hf) kr
  · have hw2 : w ∈ TT := (List.mem_cons.mp hw).elim (fun e => by rw [e]; exact h1) id
    exact word_at hW (TT_good w hw2) (hT w hw2)
  · rw [h] at h5
    exact (Option.some.inj h5).symm
theorem hw_cS (S : CallFix p m c cc nL s args TT own) (hI : hw_I D t0 A s L f H locs) (hm : hw_mS y bytes maxL ret n) (hl : Cond.methodLink own index y ∈ TT)
    (hM : Met l y (Cond.code y bytes maxL ret :: TT) rm (hw_Pc t0 As D L f H.size) (hw_Q D L H.size post) rm.cells rm.slots (hw_A L H.size)) (hls : ls.size = nL) (hn : As.length = n) (hst : st0 = As.reverse ++ rest) (hW : (rest.map fun v => v.category).sum ≤ 8)
    (hdg : decode cc pc = .ok (.invokestatic index, 3)) (hR : rm.frames + 1 ≤ R.frames ∧ 8 + (maxL + 11) + rm.locals ≤ R.locals) (hf : cells + rm.cells ≤ R.cells ∧ slots + rm.slots ≤ R.slots)
    (kr : ∀ (v : Option Value) (L' : List Nat) (f' : Nat → va_E) (H' : Heap) (locs' : List Loc), post (.returned v) L' f' → hw_I D t0 A s L' f' H' locs' → W p l e R s m args below meth c H' locs' (cells + rm.cells) (slots + rm.slots) Q (F0 m (pc + 3) ls (v.toList ++ rest))) :
    W p l e R s m args below meth c H locs cells slots Q (F0 m pc ls st0) :=
  hw_run hI (va_runS (As := As) (rest := rest) S hM ⟨hw_cb S.2.2.2.2 hm.1 hl hR, S.2.2.2.2 _ hm.2⟩ ⟨hw_blind, hw_pre hI _⟩ rfl hn hls hst (lv_room hW) hdg hf) kr
theorem hw_cSN (S : CallFix p m c cc nL s args TT own) (hI : hw_I D t0 A s L f H locs) (hm : hw_mS y bytes maxL ret n) (hl : (own, index, y) ∈ NM)
    (hM : Met l y (Cond.code y bytes maxL ret :: TT) rm (hw_Pc t0 As D L f H.size) (hw_Q D L H.size post) rm.cells rm.slots (hw_A L H.size)) (hls : ls.size = nL) (hn : As.length = n) (hst : st0 = As.reverse ++ rest) (hW : (rest.map fun v => v.category).sum ≤ 8)
    (hdg : decode cc pc = .ok (.invokestatic index, 3)) (hR : rm.frames + 1 ≤ R.frames ∧ 8 + (maxL + 11) + rm.locals ≤ R.locals) (hf : cells + rm.cells ≤ R.cells ∧ slots + rm.slots ≤ R.slots)
    (kr : ∀ (v : Option Value) (L' : List Nat) (f' : Nat → va_E) (H' : Heap) (locs' : List Loc), post (.returned v) L' f' → hw_I D t0 A s L' f' H' locs' → W p l e R s m args below meth c H' locs' (cells + rm.cells) (slots + rm.slots) Q (F0 m (pc + 3) ls (v.toList ++ rest))) :
    W p l e R s m args below meth c H locs cells slots Q (F0 m pc ls st0) := by
  have hT := S.2.2.2.2
  obtain ⟨⟨h1, h2, h3, h4, h5⟩, h6⟩ := hm
  refine hw_run hI (va_runSN (host := "WallFractions") (As := As) (rest := rest) S hM ⟨⟨⟨rfl, rfl, hR.1, hR.2, fun w hw a' U hW => ?_, List.mem_cons_self⟩, hT _ h1, hT _ h2, ⟨h3, h4⟩, fun sig h => ?_, va_Nw.use rfl (hI.2.2.2.2.2.2.1 _ hl)⟩, hT _ h6, trivial⟩ ⟨hw_blind, hw_pre hI _⟩ rfl hn hls hst (lv_room hW) hdg hf) kr
  · have hw2 : w ∈ TT := (List.mem_cons.mp hw).elim (fun e => by rw [e]; exact h1) id
    exact word_at hW (TT_good w hw2) (hT w hw2)
  · rw [h] at h5
    exact (Option.some.inj h5).symm
theorem hw_cI (S : CallFix p m c cc nL s args TT own) (hI : hw_I D t0 A s L f H locs) (hm : hw_mI y bytes maxL n) (hl : Cond.methodLink own index y ∈ TT)
    (hM : Met l y (Cond.code y bytes maxL none :: TT) rm (hw_Pc t0 (.ref b :: As) D L f H.size) (hw_Q D L H.size post) rm.cells rm.slots (hw_A L H.size)) (hls : ls.size = nL) (hn : As.length = n) (hst : st0 = As.reverse ++ .ref b :: rest) (hW : (rest.map fun v => v.category).sum ≤ 8)
    (hdg : decode cc pc = .ok (.invokespecial index, 3)) (hR : rm.frames + 1 ≤ R.frames ∧ 8 + (maxL + 11) + rm.locals ≤ R.locals) (hf : cells + rm.cells ≤ R.cells ∧ slots + rm.slots ≤ R.slots)
    (kr : ∀ (v : Option Value) (L' : List Nat) (f' : Nat → va_E) (H' : Heap) (locs' : List Loc), post (.returned v) L' f' → hw_I D t0 A s L' f' H' locs' → W p l e R s m args below meth c H' locs' (cells + rm.cells) (slots + rm.slots) Q (F0 m (pc + 3) ls (v.toList ++ rest))) :
    W p l e R s m args below meth c H locs cells slots Q (F0 m pc ls st0) :=
  hw_run hI (va_runI (As := As) (rest := rest) S hM ⟨hw_cb S.2.2.2.2 hm.1 hl hR, hm.2.1, S.2.2.2.2 _ hm.2.2⟩ ⟨hw_blind, hw_pre hI _⟩ rfl hn hls hst (lv_room hW) hdg hf) kr
/-- calls of methods that may throw -/
theorem hw_xV (S : CallFix p m c cc nL s args TT own) (hI : hw_I D t0 A s L f H locs) (hm : hw_mV y bytes maxL ret n) (hl : Cond.methodLink own index y ∈ TT)
    (hM : vx_Met l y (Cond.code y bytes maxL ret :: TT) rm (hw_Pc t0 (.ref b :: As) D L f H.size) (hw_Q D L H.size post) (hw_X D L H.size px) rm.cells rm.slots (hw_A L H.size)) (hb : hw_c L f b (.inr (ci, fs))) (hci : classes[ci]? = some (y.cls, T, N)) (hls : ls.size = nL) (hn : As.length = n) (hst : st0 = As.reverse ++ .ref b :: rest) (hW : (rest.map fun v => v.category).sum ≤ 8)
    (hdg : decode cc pc = .ok (.invokevirtual index, 3)) (hR : rm.frames + 1 ≤ R.frames ∧ 8 + (maxL + 11) + rm.locals ≤ R.locals) (hf : cells + rm.cells ≤ R.cells ∧ slots + rm.slots ≤ R.slots)
    (kr : ∀ (v : Option Value) (L' : List Nat) (f' : Nat → va_E) (H' : Heap) (locs' : List Loc), post (.returned v) L' f' → hw_I D t0 A s L' f' H' locs' → W p l e R s m args below meth c H' locs' (cells + rm.cells) (slots + rm.slots) Q (F0 m (pc + 3) ls (v.toList ++ rest)))
    (kx : ∀ (E : String) (ce : Cell) (q9 : Addr) (L' : List Nat) (f' : Nat → va_E) (H' : Heap) (locs' : List Loc), px E L' f' → hw_I D t0 A s L' f' H' locs' → H'[q9]? = some ce → ce.vm = .none → s.vm.findClass E = some ce.cls → vx_W p l e R s m args below meth c H' locs' (cells + rm.cells) (slots + rm.slots) Q (F0 m pc ls rest) q9) :
    W p l e R s m args below meth c H locs cells slots Q (F0 m pc ls st0) :=
  hw_xrun hI (vx_runV (As := As) (rest := rest) S hM ⟨hw_cb S.2.2.2.2 hm.1 hl hR, S.2.2.2.2 _ hm.2.1, S.2.2.2.2 _ hm.2.2⟩ ⟨hw_blind, hw_recv hI hci hb, hw_pre hI _⟩ rfl hn hls hst (lv_room hW) hdg hf) kr kx
theorem hw_xS (S : CallFix p m c cc nL s args TT own) (hI : hw_I D t0 A s L f H locs) (hm : hw_mS y bytes maxL ret n) (hl : Cond.methodLink own index y ∈ TT)
    (hM : vx_Met l y (Cond.code y bytes maxL ret :: TT) rm (hw_Pc t0 As D L f H.size) (hw_Q D L H.size post) (hw_X D L H.size px) rm.cells rm.slots (hw_A L H.size)) (hls : ls.size = nL) (hn : As.length = n) (hst : st0 = As.reverse ++ rest) (hW : (rest.map fun v => v.category).sum ≤ 8)
    (hdg : decode cc pc = .ok (.invokestatic index, 3)) (hR : rm.frames + 1 ≤ R.frames ∧ 8 + (maxL + 11) + rm.locals ≤ R.locals) (hf : cells + rm.cells ≤ R.cells ∧ slots + rm.slots ≤ R.slots)
    (kr : ∀ (v : Option Value) (L' : List Nat) (f' : Nat → va_E) (H' : Heap) (locs' : List Loc), post (.returned v) L' f' → hw_I D t0 A s L' f' H' locs' → W p l e R s m args below meth c H' locs' (cells + rm.cells) (slots + rm.slots) Q (F0 m (pc + 3) ls (v.toList ++ rest)))
    (kx : ∀ (E : String) (ce : Cell) (q9 : Addr) (L' : List Nat) (f' : Nat → va_E) (H' : Heap) (locs' : List Loc), px E L' f' → hw_I D t0 A s L' f' H' locs' → H'[q9]? = some ce → ce.vm = .none → s.vm.findClass E = some ce.cls → vx_W p l e R s m args below meth c H' locs' (cells + rm.cells) (slots + rm.slots) Q (F0 m pc ls rest) q9) :
    W p l e R s m args below meth c H locs cells slots Q (F0 m pc ls st0) :=
  hw_xrun hI (vx_runS (As := As) (rest := rest) S hM ⟨hw_cb S.2.2.2.2 hm.1 hl hR, S.2.2.2.2 _ hm.2⟩ ⟨hw_blind, hw_pre hI _⟩ rfl hn hls hst (lv_room hW) hdg hf) kr kx
/-! ends -/
variable {L0 : List Nat} {sz : Nat}
theorem hw_q (hI : hw_I D t0 (hw_A L0 sz) s L f H locs) {oc : Outcome} (hp : post oc L f) : ∀ t : State, t.heap = H → s.WarmedH t.vm → hw_Q D L0 sz post args s oc t := fun t ht _ => ⟨⟨L, f, hp, by rw [ht]; exact hI.1, hI.2.1⟩, hI.2.2.1.F ht⟩
theorem hw_vret (hx : p.tables.exec = Jvm.exec) (hb : c.code = cc) (hr : meth.sig.returnType = none) (hlocks : meth.locks = false) (hI : hw_I D t0 (hw_A L0 sz) s L f H locs) (hdg : decode cc pc = .ok (.return_, 1)) (hp : post (.returned none) L f) : W p l e R s m args below meth c H locs cells slots (MQ below (hw_Q D L0 sz post) args s cells slots (hw_A L0 sz)) (F0 m pc ls []) := W.vret hx hb hr (hw_q hI hp) hI.2.2.1.2.2 hdg hlocks
theorem hw_iret {v : Int32} (hx : p.tables.exec = Jvm.exec) (hb : c.code = cc) (hr : meth.sig.returnType = some .int) (hlocks : meth.locks = false) (hI : hw_I D t0 (hw_A L0 sz) s L f H locs) (hdg : decode cc pc = .ok (.ireturn, 1)) (hp : post (.returned (some (.int v))) L f) : W p l e R s m args below meth c H locs cells slots (MQ below (hw_Q D L0 sz post) args s cells slots (hw_A L0 sz)) (F0 m pc ls [.int v]) := W.iret hx hb hr (hw_q hI hp) hI.2.2.1.2.2 hdg hlocks
theorem hw_lret {v : Int64} (hx : p.tables.exec = Jvm.exec) (hb : c.code = cc) (hr : meth.sig.returnType = some .long) (hlocks : meth.locks = false) (hI : hw_I D t0 (hw_A L0 sz) s L f H locs) (hdg : decode cc pc = .ok (.lreturn, 1)) (hp : post (.returned (some (.long v))) L f) : W p l e R s m args below meth c H locs cells slots (MQ below (hw_Q D L0 sz post) args s cells slots (hw_A L0 sz)) (F0 m pc ls [.long v]) := W.lret hx hb hr (hw_q hI hp) hI.2.2.1.2.2 hdg hlocks
theorem hw_zret {v : Int32} (hx : p.tables.exec = Jvm.exec) (hb : c.code = cc) (hr : meth.sig.returnType = some .boolean) (hlocks : meth.locks = false) (hI : hw_I D t0 (hw_A L0 sz) s L f H locs) (hn : narrow .boolean (.int v) = .int v) (hdg : decode cc pc = .ok (.ireturn, 1)) (hp : post (.returned (some (.int v))) L f) : W p l e R s m args below meth c H locs cells slots (MQ below (hw_Q D L0 sz post) args s cells slots (hw_A L0 sz)) (F0 m pc ls [.int v]) := W.zret hx hb hr hn (hw_q hI hp) hI.2.2.1.2.2 hdg hlocks
end HC

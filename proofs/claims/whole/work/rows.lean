section
/-! ===== BEGIN words of one list among another's, by their places ===== -/
theorem goodIn_r {big : List Cond} (ws : List Cond) (ps : List Nat) (hp : ws = ps.filterMap (fun i => big[i]?)) (h : ws.all goodWord = true) : GoodIn big ws := by
  intro w hw
  have h1 := List.all_eq_true.mp h w hw
  rw [hp] at hw
  obtain ⟨i, -, hi⟩ := List.mem_filterMap.mp hw
  have hm : w ∈ big := by first | exact List.mem_of_getElem? hi | exact List.getElem?_mem hi
  exact ⟨hm, good_of_word h1⟩
theorem goodIn_app {big a b : List Cond} (ha : GoodIn big a) (hb : GoodIn big b) : GoodIn big (a ++ b) := fun w h => (List.mem_append.mp h).elim (ha w) (hb w)
theorem goodIn_ca {big a b : List Cond} {c : Cond} (ha : GoodIn big (c :: a)) (hb : GoodIn big b) : GoodIn big (c :: (a ++ b)) := fun w h => (List.mem_cons.mp h).elim (fun e => ha w (List.mem_cons.mpr (Or.inl e))) (fun h => (List.mem_append.mp h).elim (fun h => ha w (List.mem_cons.mpr (Or.inr h))) (hb w))
theorem goodIn_sub {big ws : List Cond} (hm : ∀ w ∈ ws, w ∈ big) (h : ws.all goodWord = true) : GoodIn big ws := fun w hw => ⟨hm w hw, good_of_word (List.all_eq_true.mp h w hw)⟩
/-! ===== END ===== -/

/-! ===== BEGIN exceptions that leave a method, and their catching by the caller (launches without stack traces) ===== -/
section VXA
/-! The laws vx_back, vx_callV, vx_callS, vx_callSW, vx_throw0, vx_throwS follow proofs of the library, with one case more: JvmDerived/Free/Laws.lean (Back.of_free), Shelf42/LK1.lean (callV, callS), Shelf/KitTraced.lean (throwNew0V, throwNewS). -/
/-- where a method has thrown q: the class by its name, the cell, what was written, the world -/
def vx_T (XC : String → State → State → Prop) (st : State) (q : Addr) (t : State) (mc ms : Nat) (free : Addr → Prop) : Prop :=
  ∃ (E : String) (ce : Cell) (L : List Loc), XC E st t ∧ t.heap[q]? = some ce ∧ ce.vm = .none ∧ st.vm.findClass E = some ce.cls ∧ st.WarmedH t.vm ∧ st.sameButNew ({ t with vm := st.vm } : State) L mc ms ∧ ∀ z ∈ L, free z.base
def vx_Q (Qc : Array Value → State → Outcome → State → Prop) (XC : String → State → State → Prop) (mc ms : Nat) (free : Addr → Prop) : Array Value → State → Outcome → State → Prop := fun a st o t =>
  (Qc a st o t ∧ ∃ L, FrameEnd st o t L mc ms ∧ ∀ q ∈ L, free q.base) ∨ ∃ q, o = .threw q ∧ vx_T XC st q t mc ms free
/-- a callee that returns or throws -/
def vx_Met (l : Launch) (y : MethodName) (ws : List Cond) (rm : Room) (Pc : Array Value → State → Prop) (Qc : Array Value → State → Outcome → State → Prop) (XC : String → State → State → Prop) (mc ms : Nat) (free : Addr → Prop) : Prop :=
  MetFree l y (headSpec ws rm) Pc (fun _ _ _ _ _ => True) (vx_Q Qc XC mc ms free)
def vx_Post (XC : String → State → State → Prop) (mc ms : Nat) (free : Addr → Prop) : Pt → Array Value → Addr → Pt → Prop := fun A a q B =>
  ∃ (g : JFrame) (mk : MethodId) (t : State) (L : List Loc) (E : String) (ce : Cell), B.U.heap = t.heap ∧ B.U.vm = t.vm ∧ XC E (A.U.calling g mk a) t ∧ t.heap[q]? = some ce ∧ ce.vm = .none ∧ A.U.vm.findClass E = some ce.cls ∧ B.locs = A.locs ++ L ∧ (∀ z ∈ L, free z.base) ∧ B.cells = A.cells + mc ∧ B.slots = A.slots + ms
def vx_Back (l : Launch) (R : Room) (p : Program) (e : Env) (below : List Frame) (s : State) (sargs : Array Value) (y : MethodName) (len W9 : Nat)
    (Pre : Pt → Array Value → Prop) (Post : Pt → Array Value → Option Value → Pt → Prop) (PostX : Pt → Array Value → Addr → Pt → Prop) : Prop :=
  ∀ (m : MethodId) (meth : Method) (c : Code) (A : Pt) (g : JFrame) (ig : Instr) (mk : MethodId) (a : Array Value),
    Stand p l e R s m sargs below meth c A.U A.locs A.cells A.slots → g.method = m → g.locals.size = c.maxLocals → decode c.code g.pc = .ok (ig, len) →
    2 * g.monitorRoom + (g.stack.map fun v => v.category).sum ≤ W9 → A.U.methodNamed? y = some mk → Pre A a →
    (∃ (v : Option Value) (B : Pt), Stand p l e R s m sargs below meth c B.U B.locs B.cells B.slots ∧ Post A a v B ∧
      Steps p.tables e below (doInvoke e (A.U.setTop g) [] mk a).1 (B.U.setTop { g with pc := g.pc + len, stack := v.toList ++ g.stack })) ∨
    (∃ (q : Addr) (B : Pt), Stand p l e R s m sargs below meth c B.U B.locs B.cells B.slots ∧ PostX A a q B ∧
      Steps p.tables e below (doInvoke e (A.U.setTop g) [] mk a).1 ((B.U.setTop g).pushFrame (.throwing q)))
section Payer
variable {l : Launch} {R : Room} {p : Program} {e : Env} {below : List Frame} {s : State} {sargs : Array Value} {y : MethodName} {len W9 : Nat}
theorem vx_back {ws : List Cond} {rm : Room} {Pc : Array Value → State → Prop} {Qc : Array Value → State → Outcome → State → Prop} {XC : String → State → State → Prop} {mc ms : Nat} {free : Addr → Prop} {bytes : ByteArray} {maxL : Nat} {ret : Option FieldType}
    (hM : vx_Met l y ws rm Pc Qc XC mc ms free) (hblind : FrameBlind Pc) (hrc : rm.cells = mc) (hrs : rm.slots = ms)
    (hframes : rm.frames + 1 ≤ R.frames) (hlocals : W9 + (maxL + 11) + rm.locals ≤ R.locals)
    (hws : ∀ w ∈ ws, ∀ a' U, s.WarmedH U.vm → w.before a' U = true) (hcode : Cond.code y bytes maxL ret ∈ ws) (hinit : ∀ a' U, s.WarmedH U.vm → (Cond.initialized y.cls).before a' U = true) :
    vx_Back l R p e below s sargs y len W9 (PreOf R mc ms Pc) (PostOf Qc mc ms free) (vx_Post XC mc ms free) := by
  intro m meth c A g ig mk a X hg hsize hdg hW hn hp
  have h1 : (headSpec ws rm).pre.before a A.U = true := atoms_intro fun w hw => hws w hw _ _ X.warmed
  have h2 : (Cond.code y bytes maxL ret).before a A.U = true := hws _ hcode _ _ X.warmed
  have h3 : (Cond.initialized y.cls).before a A.U = true := hinit _ _ X.warmed
  have h4 : A.cells + (headSpec ws rm).room.cells ≤ R.cells := by rw [show (headSpec ws rm).room.cells = mc from hrc]; exact hp.1
  have h5 : A.slots + (headSpec ws rm).room.slots ≤ R.slots := by rw [show (headSpec ws rm).room.slots = ms from hrs]; exact hp.2.1
  have hPc : Pc a (A.U.calling g mk a) := hblind _ _ _ _ hp.2.2
  obtain ⟨U, Ls, c0, s0⟩ := A
  dsimp only [Pt.U, Pt.locs, Pt.cells, Pt.slots] at h1 h2 h3 h4 h5 X hn hPc ⊢
  obtain ⟨methY, cY, hmY, hcY, -, hlY, -, -, -, -⟩ := Cond.code_spec hn h2
  obtain ⟨kY, hkY, -⟩ := className_of_methodNamed hn
  have hinitY : kY.init = .initialized := Cond.initialized_spec (findClass_of_methodNamed hn) hkY h3
  have h : At U g.method c below := by rw [hg]; exact X.here
  have hlocals9 : W9 + (maxL + 11) + (headSpec ws rm).room.locals ≤ R.locals := hlocals
  have happ : (headSpec ws rm).appliesLoose y e.platform (U.calling g mk a) = true :=
    Spec.appliesLoose_calling (g := g) h hdg hn hkY hinitY
      (X.room_calling (g := g) (R' := (headSpec ws rm).room) hsize hmY hcY hframes (by rw [hlY]; omega) h4 h5) h1
  obtain ⟨mid, hmid⟩ := h.above
  have hfr : (U.setTop g).frames = (.java g :: mid) ++ below := by rw [State.frames_setTop' g h.top, hmid]; rfl
  obtain ⟨o, s₂, hsteps, -, hend, hq⟩ := Steps.callFree hM p X.admits X.cas X.clock (acts := []) hfr happ hPc trivial
  have hq' : vx_Q Qc XC mc ms free a (U.calling g mk a) o s₂ := hq
  rw [State.frames_setTop' g h.top] at hend
  obtain ⟨g₀, hg0⟩ := Option.isSome_iff_exists.mp h.top
  obtain ⟨r, hr⟩ := State.topJava?_eq_some.mp hg0
  have hr' : (({ U with heap := s₂.heap, slotsUsed := s₂.slotsUsed } : State).setVm s₂.vm).frames = .java g₀ :: r := hr
  rcases hq' with ⟨hqc, L, hfe, hL⟩ | ⟨q, rfl, E, ce, L, hx, hce, hcv, hcl, hW₂, hsm, hL⟩
  · obtain ⟨⟨v, rfl⟩, hW₂, e2, q2, q3, q4, q5, q6⟩ := id hfe
    have e3 : s₂ = ({ (U.calling g mk a).setFrames s₂.frames with heap := s₂.heap, slotsUsed := s₂.slotsUsed } : State).setVm s₂.vm := by
      have : s₂ = ({ s₂ with vm := (U.calling g mk a).vm } : State).setVm s₂.vm := rfl
      rw [e2] at this
      exact this
    obtain ⟨c₂, i₂, len₂, hc₂, hd₂, hf₂⟩ := hend
    have hW' : U.WarmedH s₂.vm := hW₂
    have hcc : c₂ = c := by
      have h1 : s₂.code? g.method = U.code? g.method := by
        rw [State.code?_eq, State.code?_eq, hW'.alike.method?]
      exact Option.some.inj (hc₂.symm.trans (h1.trans h.code))
    subst hcc
    have hlen : len₂ = len := by rw [hdg] at hd₂; cases hd₂; rfl
    subst hlen
    have hs₂ : s₂ = (({ U with heap := s₂.heap, slotsUsed := s₂.slotsUsed } : State).setVm s₂.vm).setTop { g with pc := g.pc + len₂, stack := v.toList ++ g.stack } := by
      refine e3.trans ?_
      rw [hf₂, State.calling_eq h.top, State.setFrames_setFrames, State.setTop_of_frames _ hr', hr]
      rfl
    have hsame : U.sameButNew ({ U with heap := s₂.heap, slotsUsed := s₂.slotsUsed } : State) L mc ms := by
      refine ⟨?_, q2, q3, q4, q5, q6⟩
      obtain ⟨t, ht, -⟩ := State.frames_cons hr
      show ({ U with heap := s₂.heap, slotsUsed := s₂.slotsUsed } : State) = { U.setFrames U.frames with heap := s₂.heap, slotsUsed := s₂.slotsUsed }
      rw [State.setFrames_self ht]
    subst hg
    refine Or.inl ⟨v, ⟨(({ U with heap := s₂.heap, slotsUsed := s₂.slotsUsed } : State).setVm s₂.vm), Ls ++ L, c0 + mc, s0 + ms⟩,
      ⟨X.admits, X.cas, X.clock, X.frames, X.room, X.hears, X.method, X.code, (X.here.setHeapUsed s₂.heap s₂.slotsUsed).setVm hW'.alike, X.tail, State.WarmedH.trans X.warmed hW', X.limits, X.bytes, X.same.trans (hsame.setVm s.vm)⟩,
      ⟨g, mk, s₂, L, rfl, rfl, hqc, rfl, hL, rfl, rfl⟩, ?_⟩
    show Steps p.tables e below _ ((({ U with heap := s₂.heap, slotsUsed := s₂.slotsUsed } : State).setVm s₂.vm).setTop { g with pc := g.pc + len₂, stack := v.toList ++ g.stack })
    rw [← hs₂]
    exact hsteps
  · obtain ⟨e2, q2, q3, q4, q5, q6⟩ := id hsm
    have e3 : s₂ = ({ (U.calling g mk a).setFrames s₂.frames with heap := s₂.heap, slotsUsed := s₂.slotsUsed } : State).setVm s₂.vm := by
      have : s₂ = ({ s₂ with vm := (U.calling g mk a).vm } : State).setVm s₂.vm := rfl
      rw [e2] at this
      exact this
    have hf₂ : s₂.frames = .throwing q :: .java g :: U.frames.tail := hend
    have hW' : U.WarmedH s₂.vm := hW₂
    have hs₂ : s₂ = ((({ U with heap := s₂.heap, slotsUsed := s₂.slotsUsed } : State).setVm s₂.vm).setTop g).pushFrame (.throwing q) := by
      refine e3.trans ?_
      rw [hf₂, State.calling_eq h.top, State.setFrames_setFrames, State.pushFrame, State.frames_setTop _ hr', State.setTop_of_frames _ hr', State.setFrames_setFrames, hr]
      rfl
    have hsame : U.sameButNew ({ U with heap := s₂.heap, slotsUsed := s₂.slotsUsed } : State) L mc ms := by
      refine ⟨?_, q2, q3, q4, q5, q6⟩
      obtain ⟨t, ht, -⟩ := State.frames_cons hr
      show ({ U with heap := s₂.heap, slotsUsed := s₂.slotsUsed } : State) = { U.setFrames U.frames with heap := s₂.heap, slotsUsed := s₂.slotsUsed }
      rw [State.setFrames_self ht]
    subst hg
    refine Or.inr ⟨q, ⟨(({ U with heap := s₂.heap, slotsUsed := s₂.slotsUsed } : State).setVm s₂.vm), Ls ++ L, c0 + mc, s0 + ms⟩,
      ⟨X.admits, X.cas, X.clock, X.frames, X.room, X.hears, X.method, X.code, (X.here.setHeapUsed s₂.heap s₂.slotsUsed).setVm hW'.alike, X.tail, State.WarmedH.trans X.warmed hW', X.limits, X.bytes, X.same.trans (hsame.setVm s.vm)⟩,
      ⟨g, mk, s₂, L, E, ce, rfl, rfl, hx, hce, hcv, hcl, rfl, hL, rfl, rfl⟩, ?_⟩
    show Steps p.tables e below _ (((({ U with heap := s₂.heap, slotsUsed := s₂.slotsUsed } : State).setVm s₂.vm).setTop g).pushFrame (.throwing q))
    rw [← hs₂]
    exact hsteps
end Payer
section Calls
variable {p : Program} {l : Launch} {e : Env} {R : Room} {s : State} {m : MethodId} {args : Array Value} {below : List Frame} {meth : Method} {c : Code} {T : State} {locs : List Loc} {cells slots : Nat}
theorem vx_callV (X : Stand p l e R s m args below meth c T locs cells slots) (hexec : p.tables.exec = Jvm.exec) {own C : String} {index : Nat} {y : MethodName} {bytes : ByteArray} {maxL : Nat} {ret : Option FieldType}
    (hown : s.vm.findClass own = some m.cls) (hlink : (Cond.methodLink own index y).before args s = true) (hinst : (Cond.instanceMethod y).before args s = true) (hsel : (Cond.selects C y y).before args s = true)
    (hcode : (Cond.code y bytes maxL ret).before args s = true) (hy : y.cls ≠ "java/lang/invoke/MethodHandle" ∧ y.cls ≠ "java/lang/invoke/VarHandle")
    {W9 : Nat} {Pre : Pt → Array Value → Prop} {Post : Pt → Array Value → Option Value → Pt → Prop} {PostX : Pt → Array Value → Addr → Pt → Prop} (hK : vx_Back l R p e below s args y 3 W9 Pre Post PostX)
    {b : Addr} {cellB : Cell} (hcell : T.heap[b]? = some cellB) (hobj : cellB.vm.isStatics = false) (hcls : s.vm.findClass C = some cellB.cls)
    {g : JFrame} (hg : g.method = m) (hsize : g.locals.size = c.maxLocals) {argsL rest : List Value} (hlen : ∀ sig, parseMethodDescriptor y.desc = some sig → argsL.length = sig.parameters.length)
    (hstack : g.stack = argsL.reverse ++ .ref b :: rest) (hW : 2 * g.monitorRoom + (rest.map fun v => v.category).sum ≤ W9) (hdg : decode c.code g.pc = .ok (.invokevirtual index, 3))
    (hpre : ∀ vm₁, s.WarmedH vm₁ → Pre ⟨T.setVm vm₁, locs, cells, slots⟩ (Value.ref b :: argsL).toArray) :
    (∃ (v : Option Value) (vm₁ : Vm) (B : Pt), s.WarmedH vm₁ ∧ Stand p l e R s m args below meth c B.U B.locs B.cells B.slots ∧ Post ⟨T.setVm vm₁, locs, cells, slots⟩ (Value.ref b :: argsL).toArray v B ∧
      ∀ target, Steps p.tables e below (B.U.setTop { g with pc := g.pc + 3, stack := v.toList ++ rest }) target → Steps p.tables e below (T.setTop g) target) ∨
    (∃ (q : Addr) (vm₁ : Vm) (B : Pt), s.WarmedH vm₁ ∧ Stand p l e R s m args below meth c B.U B.locs B.cells B.slots ∧ PostX ⟨T.setVm vm₁, locs, cells, slots⟩ (Value.ref b :: argsL).toArray q B ∧
      Steps p.tables e below (T.setTop g) ((B.U.setTop { g with stack := rest }).pushFrame (.throwing q))) := by
  obtain ⟨mk, methM, hnamed, hmethM, hstM, habM⟩ := Cond.instanceMethod_spec hinst
  obtain ⟨methM', cM, hmethM', -, -, -, -, -, -, hsigM⟩ := Cond.code_spec hnamed hcode
  cases hmethM.symm.trans hmethM'
  obtain ⟨c2, r2, m2, q1, q2, q3, q4, kP, hkP, hkPi⟩ := Cond.selects_spec hsel
  cases hcls.symm.trans q1
  cases (State.methodFound?_of_named hnamed hy).symm.trans q2
  cases hnamed.symm.trans q3
  have hselP : selectMethod e.platform s.vm cellB.cls mk = .method mk := by rw [Launch.admits_selectMethod X.admits]; exact q4
  obtain ⟨vm₁, X₁, hstep₁⟩ := X.invokevirtual hexec hown hlink hnamed hmethM hstM hkP hkPi hy (a := b) (cell := cellB) hcell
    (fun z h => by rw [h] at hobj; cases hobj) hselP hmethM habM hkP hkPi (g := g) hg (argsL := argsL) (rest := rest) (hlen _ hsigM) hstack hdg
  rcases hK m meth c ⟨T.setVm vm₁, locs, cells, slots⟩ { g with stack := rest } (.invokevirtual index) mk (Value.ref b :: argsL).toArray X₁ hg hsize hdg hW (X₁.named hnamed) (hpre vm₁ X₁.warmed) with ⟨v, B, X', hpost, hsteps⟩ | ⟨q, B, X', hpost, hsteps⟩
  · exact Or.inl ⟨v, vm₁, B, X₁.warmed, X', hpost, fun target h => hstep₁ _ fun acts => by rw [doInvoke_state]; exact hsteps.trans h⟩
  · exact Or.inr ⟨q, vm₁, B, X₁.warmed, X', hpost, hstep₁ _ fun acts => by rw [doInvoke_state]; exact hsteps⟩
theorem vx_callS (X : Stand p l e R s m args below meth c T locs cells slots) (hexec : p.tables.exec = Jvm.exec) {own : String} {index : Nat} {y : MethodName} {bytes : ByteArray} {maxL : Nat} {ret : Option FieldType}
    (hown : s.vm.findClass own = some m.cls) (hlink : (Cond.methodLink own index y).before args s = true) (hstat : (Cond.static y).before args s = true) (hinit : (Cond.initialized y.cls).before args s = true)
    (hcode : (Cond.code y bytes maxL ret).before args s = true) (hy : y.cls ≠ "java/lang/invoke/MethodHandle" ∧ y.cls ≠ "java/lang/invoke/VarHandle")
    {W9 : Nat} {Pre : Pt → Array Value → Prop} {Post : Pt → Array Value → Option Value → Pt → Prop} {PostX : Pt → Array Value → Addr → Pt → Prop} (hK : vx_Back l R p e below s args y 3 W9 Pre Post PostX)
    {g : JFrame} (hg : g.method = m) (hsize : g.locals.size = c.maxLocals) {argsL rest : List Value} (hlen : ∀ sig, parseMethodDescriptor y.desc = some sig → argsL.length = sig.parameters.length)
    (hstack : g.stack = argsL.reverse ++ rest) (hW : 2 * g.monitorRoom + (rest.map fun v => v.category).sum ≤ W9) (hdg : decode c.code g.pc = .ok (.invokestatic index, 3))
    (hpre : ∀ vm₁, s.WarmedH vm₁ → Pre ⟨T.setVm vm₁, locs, cells, slots⟩ argsL.toArray) :
    (∃ (v : Option Value) (vm₁ : Vm) (B : Pt), s.WarmedH vm₁ ∧ Stand p l e R s m args below meth c B.U B.locs B.cells B.slots ∧ Post ⟨T.setVm vm₁, locs, cells, slots⟩ argsL.toArray v B ∧
      ∀ target, Steps p.tables e below (B.U.setTop { g with pc := g.pc + 3, stack := v.toList ++ rest }) target → Steps p.tables e below (T.setTop g) target) ∨
    (∃ (q : Addr) (vm₁ : Vm) (B : Pt), s.WarmedH vm₁ ∧ Stand p l e R s m args below meth c B.U B.locs B.cells B.slots ∧ PostX ⟨T.setVm vm₁, locs, cells, slots⟩ argsL.toArray q B ∧
      Steps p.tables e below (T.setTop g) ((B.U.setTop { g with stack := rest }).pushFrame (.throwing q))) := by
  obtain ⟨mk, hnamed⟩ := Cond.code_named hcode
  obtain ⟨methM, cM, hmethM, -, -, -, -, -, -, hsigM⟩ := Cond.code_spec hnamed hcode
  have hstatic : methM.isStatic = true := Cond.static_spec hnamed hmethM hstat
  obtain ⟨kP, hkP, -⟩ := className_of_methodNamed hnamed
  have hinitP : kP.init = .initialized := Cond.initialized_spec (findClass_of_methodNamed hnamed) hkP hinit
  obtain ⟨vm₁, X₁, hstep₁⟩ := X.invokestatic hexec hown hlink hnamed hmethM hstatic hkP hinitP hy (g := g) hg (argsL := argsL) (rest := rest) (hlen _ hsigM) hstack hdg
  rcases hK m meth c ⟨T.setVm vm₁, locs, cells, slots⟩ { g with stack := rest } (.invokestatic index) mk argsL.toArray X₁ hg hsize hdg hW (X₁.named hnamed) (hpre vm₁ X₁.warmed) with ⟨v, B, X', hpost, hsteps⟩ | ⟨q, B, X', hpost, hsteps⟩
  · exact Or.inl ⟨v, vm₁, B, X₁.warmed, X', hpost, fun target h => hstep₁ _ fun acts => by rw [doInvoke_state]; exact hsteps.trans h⟩
  · exact Or.inr ⟨q, vm₁, B, X₁.warmed, X', hpost, hstep₁ _ fun acts => by rw [doInvoke_state]; exact hsteps⟩
end Calls
theorem vx_cls {s : State} {T : State} {vm₁ : Vm} {E : String} {k : ClassId} (hW : s.WarmedH vm₁) (h : (T.setVm vm₁).vm.findClass E = some k) : s.vm.findClass E = some k := by
  have h1 : vm₁.findClass E = some k := h
  rw [hW.alike.findClass] at h1
  exact h1
/-- the method's frame g, with q thrown over it -/
def vx_W (p : Program) (l : Launch) (e : Env) (R : Room) (s : State) (m : MethodId) (args : Array Value) (below : List Frame) (meth : Method) (c : Code) (H : Heap) (locs : List Loc) (cells slots : Nat) (Q : State → Prop) (g : JFrame) (q : Addr) : Prop :=
  ∀ T : State, T.heap = H → Stand p l e R s m args below meth c T locs cells slots → ∃ t, Steps p.tables e below ((T.setTop g).pushFrame (.throwing q)) t ∧ Q t
def vx_Run (p : Program) (l : Launch) (e : Env) (R : Room) (s : State) (m : MethodId) (args : Array Value) (below : List Frame) (meth : Method) (c : Code) (H : Heap) (locs : List Loc) (cells slots mc ms : Nat) (g : JFrame) (rest : List Value) (Qa : State → Outcome → State → Prop) (XC : String → State → State → Prop) (free : Addr → Prop) : Prop :=
  ∀ T : State, T.heap = H → Stand p l e R s m args below meth c T locs cells slots →
    (∃ (v : Option Value) (st₀ t T' : State) (L : List Loc), st₀.heap = H ∧ Stand p l e R s m args below meth c T' (locs ++ L) (cells + mc) (slots + ms) ∧ (∀ q ∈ L, free q.base) ∧ T'.heap = t.heap ∧ T'.vm = t.vm ∧ Qa st₀ (.returned v) t ∧
      Goes p e below T g T' { g with pc := g.pc + 3, stack := v.toList ++ rest }) ∨
    (∃ (q : Addr) (st₀ t T' : State) (L : List Loc) (E : String) (ce : Cell), st₀.heap = H ∧ Stand p l e R s m args below meth c T' (locs ++ L) (cells + mc) (slots + ms) ∧ (∀ z ∈ L, free z.base) ∧ T'.heap = t.heap ∧ T'.vm = t.vm ∧ XC E st₀ t ∧ t.heap[q]? = some ce ∧ ce.vm = .none ∧ s.vm.findClass E = some ce.cls ∧
      Steps p.tables e below (T.setTop g) ((T'.setTop { g with stack := rest }).pushFrame (.throwing q)))
def vx_X {S : Type} (px : S → Prop) (B : String → S → State → Prop) (A : Nat → Prop) : String → State → State → Prop := fun E st t => ∃ u : S, px u ∧ B E u t ∧ va_F A st t
section Runs
variable {p : Program} {l : Launch} {e : Env} {R : Room} {s : State} {m : MethodId} {args : Array Value} {below : List Frame} {meth : Method} {c : Code} {H : Heap} {locs : List Loc} {cells slots : Nat}
variable {y : MethodName} {bytes cc : ByteArray} {maxL nL mc ms n index : Nat} {ret : Option FieldType} {ws : List Cond} {rm : Room} {Pc : Array Value → State → Prop} {Qc : Array Value → State → Outcome → State → Prop} {XC : String → State → State → Prop} {free : Addr → Prop} {Ts : List Cond} {own C : String} {b : Addr} {As rest : List Value} {g : JFrame}
theorem vx_callBack (cb : CallB R s args own index y bytes maxL ret ws rm mc ms n) (hM : vx_Met l y ws rm Pc Qc XC mc ms free) (hbl : FrameBlind Pc) : vx_Back l R p e below s args y 3 8 (PreOf R mc ms Pc) (PostOf Qc mc ms free) (vx_Post XC mc ms free) := by
  obtain ⟨hrc, hrs, hfr, hlo, hws, hcw, -, hini, -⟩ := cb
  exact vx_back (bytes := bytes) (maxL := maxL) (ret := ret) hM hbl hrc hrs hfr hlo hws hcw (fun a' U hW => word_at hW (Or.inl (by first | rfl | simp [Cond.onTables, Cond.keeps, Cond.steady])) hini)
theorem vx_runV (S : CallFix p m c cc nL s args Ts own) (hM : vx_Met l y ws rm Pc Qc XC mc ms free) (cw : CallW R s args own C index y bytes maxL ret ws rm mc ms n) (hp : PreV s H C b Pc As)
    (hg : g.method = m) (hn : As.length = n) (hsize : g.locals.size = nL) (hstack : g.stack = As.reverse ++ .ref b :: rest) (hW : 2 * g.monitorRoom + (rest.map fun v => v.category).sum ≤ 8) (hdg : decode cc g.pc = .ok (.invokevirtual index, 3)) (hf : cells + mc ≤ R.cells ∧ slots + ms ≤ R.slots) :
    vx_Run p l e R s m args below meth c H locs cells slots mc ms g rest (Qc (Value.ref b :: As).toArray) XC free := by
  have hK : vx_Back l R p e below s args y 3 8 (PreOf R mc ms Pc) (PostOf Qc mc ms free) (vx_Post XC mc ms free) := vx_callBack cw.1 hM hp.1
  obtain ⟨⟨-, -, -, -, -, -, hcode, -, hy, hlen, hl⟩, hin, hse⟩ := cw
  obtain ⟨hx, hb, hml, ho, -⟩ := S
  obtain ⟨-, ⟨cellB, hcB, hoB, hclB⟩, hPc⟩ := hp
  intro T hT X
  rcases vx_callV X hx (C := C) (bytes := bytes) (maxL := maxL) (ret := ret) ho hl hin hse hcode hy hK (by rw [hT]; exact hcB) hoB hclB hg (hsize.trans hml.symm) (argsL := As) (rest := rest) (fun sig h => hn.trans (hlen sig h)) hstack hW (by rw [hb]; exact hdg)
    (fun vm₁ hW₁ => ⟨hf.1, hf.2, hPc (T.setVm vm₁) hT hW₁⟩) with ⟨v, vm₁, ⟨U', l2, c2, s2⟩, hW₁, X', ⟨g', mk, t, L, e1, e2, hq, h1, hL, h2, h3⟩, st⟩ | ⟨q, vm₁, ⟨U', l2, c2, s2⟩, hW₁, X', ⟨g', mk, t, L, E, ce, e1, e2, hq, hce, hcv, hcl, h1, hL, h2, h3⟩, st⟩
  · dsimp only [Pt.U, Pt.locs, Pt.cells, Pt.slots] at X' e1 e2 h1 h2 h3 st
    subst h1; subst h2; subst h3
    exact Or.inl ⟨v, (T.setVm vm₁).calling g' mk (Value.ref b :: As).toArray, t, U', L, hT, X', hL, e1, e2, hq, st⟩
  · dsimp only [Pt.U, Pt.locs, Pt.cells, Pt.slots] at X' e1 e2 h1 h2 h3 st hcl
    subst h1; subst h2; subst h3
    exact Or.inr ⟨q, (T.setVm vm₁).calling g' mk (Value.ref b :: As).toArray, t, U', L, E, ce, hT, X', hL, e1, e2, hq, hce, hcv, vx_cls hW₁ hcl, st⟩
theorem vx_runS (S : CallFix p m c cc nL s args Ts own) (hM : vx_Met l y ws rm Pc Qc XC mc ms free) (cw : CallB R s args own index y bytes maxL ret ws rm mc ms n ∧ (Cond.static y).before args s = true) (hp : PreS s H Pc As)
    (hg : g.method = m) (hn : As.length = n) (hsize : g.locals.size = nL) (hstack : g.stack = As.reverse ++ rest) (hW : 2 * g.monitorRoom + (rest.map fun v => v.category).sum ≤ 8) (hdg : decode cc g.pc = .ok (.invokestatic index, 3)) (hf : cells + mc ≤ R.cells ∧ slots + ms ≤ R.slots) :
    vx_Run p l e R s m args below meth c H locs cells slots mc ms g rest (Qc As.toArray) XC free := by
  have hK : vx_Back l R p e below s args y 3 8 (PreOf R mc ms Pc) (PostOf Qc mc ms free) (vx_Post XC mc ms free) := vx_callBack cw.1 hM hp.1
  obtain ⟨⟨-, -, -, -, -, -, hcode, hini, hy, hlen, hl⟩, hstt⟩ := cw
  obtain ⟨hx, hb, hml, ho, -⟩ := S
  intro T hT X
  rcases vx_callS X hx (bytes := bytes) (maxL := maxL) (ret := ret) ho hl hstt hini hcode hy hK hg (hsize.trans hml.symm) (argsL := As) (rest := rest) (fun sig h => hn.trans (hlen sig h)) hstack hW (by rw [hb]; exact hdg)
    (fun vm₁ hW₁ => ⟨hf.1, hf.2, hp.2 (T.setVm vm₁) hT hW₁⟩) with ⟨v, vm₁, ⟨U', l2, c2, s2⟩, hW₁, X', ⟨g', mk, t, L, e1, e2, hq, h1, hL, h2, h3⟩, st⟩ | ⟨q, vm₁, ⟨U', l2, c2, s2⟩, hW₁, X', ⟨g', mk, t, L, E, ce, e1, e2, hq, hce, hcv, hcl, h1, hL, h2, h3⟩, st⟩
  · dsimp only [Pt.U, Pt.locs, Pt.cells, Pt.slots] at X' e1 e2 h1 h2 h3 st
    subst h1; subst h2; subst h3
    exact Or.inl ⟨v, (T.setVm vm₁).calling g' mk As.toArray, t, U', L, hT, X', hL, e1, e2, hq, st⟩
  · dsimp only [Pt.U, Pt.locs, Pt.cells, Pt.slots] at X' e1 e2 h1 h2 h3 st hcl
    subst h1; subst h2; subst h3
    exact Or.inr ⟨q, (T.setVm vm₁).calling g' mk As.toArray, t, U', L, E, ce, hT, X', hL, e1, e2, hq, hce, hcv, vx_cls hW₁ hcl, st⟩
end Runs
section Rows
variable {p : Program} {l : Launch} {e : Env} {R : Room} {s : State} {m : MethodId} {args : Array Value} {below : List Frame} {meth : Method} {c : Code} {H : Heap} {locs : List Loc} {cells slots : Nat} {Q : State → Prop}
variable {mc ms : Nat} {free : Addr → Prop} {A0 A1 : Nat → Prop} {H0 : Heap} {a : Array Value} {pc : Nat} {ls : Array Slot} {st0 rest : List Value}
theorem vx_keep {st₀ t T' : State} {L : List Loc} (h0 : st₀.heap = H) (e1 : T'.heap = t.heap) (hS : va_S A0 H0 H locs) (hA : ∀ q, q < H.size → A1 q → A0 q) (hf : ∀ q, free q → A0 q) (hL : ∀ q ∈ L, free q.base) (hF : va_F A1 st₀ t) :
    H.size ≤ T'.heap.size ∧ (∀ q : Nat, q < H.size → ¬ A1 q → T'.heap[q]? = H[q]?) ∧ va_S A0 H0 T'.heap (locs ++ L) := by
  obtain ⟨hz, hk⟩ := hF
  rw [h0] at hz hk
  exact ⟨by rw [e1]; exact hz, fun q h1 h2 => by rw [e1]; exact hk q h1 h2,
    ⟨Nat.le_trans hS.1 (by rw [e1]; exact hz), fun q h1 h2 => by rw [e1, hk q (Nat.lt_of_lt_of_le h1 hS.1) (fun z => h2 (hA q (Nat.lt_of_lt_of_le h1 hS.1) z))]; exact hS.2.1 q h1 h2, fun q hq => by
      rcases List.mem_append.mp hq with h | h
      · exact hS.2.2 q h
      · exact hf _ (hL q h)⟩⟩
theorem vx_calli {S SX : Type} {post : Int32 → S → Prop} {px : SX → Prop} {B : S → State → Prop} {BX : String → SX → State → Prop} {AX : Nat → Prop} (hr : vx_Run p l e R s m args below meth c H locs cells slots mc ms (F0 m pc ls st0) rest (va_Qi post B A1 a) (vx_X px BX AX) free) (hS : va_S A0 H0 H locs) (hA : ∀ q, q < H.size → A1 q → A0 q) (hf : ∀ q, free q → A0 q) (hAX : ∀ q, q < H.size → AX q → A0 q)
    (kx : ∀ (E : String) (ce : Cell) (q9 : Addr) (u : SX) (t : State) (H1 : Heap) (locs1 : List Loc), t.heap = H1 → s.vm.Alike t.vm → px u → BX E u t → H.size ≤ H1.size → (∀ q : Nat, q < H.size → ¬ AX q → H1[q]? = H[q]?) → va_S A0 H0 H1 locs1 → H1[q9]? = some ce → ce.vm = .none → s.vm.findClass E = some ce.cls → vx_W p l e R s m args below meth c H1 locs1 (cells + mc) (slots + ms) Q (F0 m pc ls rest) q9)
    (kk : ∀ (r : Int32) (u : S) (t : State) (H1 : Heap) (locs1 : List Loc), t.heap = H1 → s.vm.Alike t.vm → post r u → B u t → H.size ≤ H1.size → (∀ q : Nat, q < H.size → ¬ A1 q → H1[q]? = H[q]?) → va_S A0 H0 H1 locs1 → W p l e R s m args below meth c H1 locs1 (cells + mc) (slots + ms) Q (F0 m (pc + 3) ls (.int r :: rest))) : W p l e R s m args below meth c H locs cells slots Q (F0 m pc ls st0) := by
  intro T hT X
  rcases hr T hT X with ⟨v, st₀, t, T', L, h0, X', hL, e1, e2, ⟨⟨r, u, hv, hp, hb⟩, hF⟩, st⟩ | ⟨q, st₀, t, T', L, E, ce, h0, X', hL, e1, e2, ⟨u, hp, hb, hF⟩, hce, hcv, hcl, st⟩
  · cases hv
    obtain ⟨k1, k2, k3⟩ := vx_keep h0 e1 hS hA hf hL hF
    obtain ⟨t2, a1, b1⟩ := kk r u t T'.heap (locs ++ L) e1.symm (by rw [← e2]; exact X'.warmed.alike) hp hb k1 k2 k3 T' rfl X'
    exact ⟨t2, st t2 a1, b1⟩
  · obtain ⟨k1, k2, k3⟩ := vx_keep h0 e1 hS hAX hf hL hF
    obtain ⟨t2, a1, b1⟩ := kx E ce q u t T'.heap (locs ++ L) e1.symm (by rw [← e2]; exact X'.warmed.alike) hp hb k1 k2 k3 (by rw [e1]; exact hce) hcv hcl T' rfl X'
    exact ⟨t2, st.trans a1, b1⟩
theorem vx_calll {S SX : Type} {post : Int64 → S → Prop} {px : SX → Prop} {B : S → State → Prop} {BX : String → SX → State → Prop} {AX : Nat → Prop} (hr : vx_Run p l e R s m args below meth c H locs cells slots mc ms (F0 m pc ls st0) rest (va_Ql post B A1 a) (vx_X px BX AX) free) (hS : va_S A0 H0 H locs) (hA : ∀ q, q < H.size → A1 q → A0 q) (hf : ∀ q, free q → A0 q) (hAX : ∀ q, q < H.size → AX q → A0 q)
    (kx : ∀ (E : String) (ce : Cell) (q9 : Addr) (u : SX) (t : State) (H1 : Heap) (locs1 : List Loc), t.heap = H1 → s.vm.Alike t.vm → px u → BX E u t → H.size ≤ H1.size → (∀ q : Nat, q < H.size → ¬ AX q → H1[q]? = H[q]?) → va_S A0 H0 H1 locs1 → H1[q9]? = some ce → ce.vm = .none → s.vm.findClass E = some ce.cls → vx_W p l e R s m args below meth c H1 locs1 (cells + mc) (slots + ms) Q (F0 m pc ls rest) q9)
    (kk : ∀ (r : Int64) (u : S) (t : State) (H1 : Heap) (locs1 : List Loc), t.heap = H1 → s.vm.Alike t.vm → post r u → B u t → H.size ≤ H1.size → (∀ q : Nat, q < H.size → ¬ A1 q → H1[q]? = H[q]?) → va_S A0 H0 H1 locs1 → W p l e R s m args below meth c H1 locs1 (cells + mc) (slots + ms) Q (F0 m (pc + 3) ls (.long r :: rest))) : W p l e R s m args below meth c H locs cells slots Q (F0 m pc ls st0) := by
  intro T hT X
  rcases hr T hT X with ⟨v, st₀, t, T', L, h0, X', hL, e1, e2, ⟨⟨r, u, hv, hp, hb⟩, hF⟩, st⟩ | ⟨q, st₀, t, T', L, E, ce, h0, X', hL, e1, e2, ⟨u, hp, hb, hF⟩, hce, hcv, hcl, st⟩
  · cases hv
    obtain ⟨k1, k2, k3⟩ := vx_keep h0 e1 hS hA hf hL hF
    obtain ⟨t2, a1, b1⟩ := kk r u t T'.heap (locs ++ L) e1.symm (by rw [← e2]; exact X'.warmed.alike) hp hb k1 k2 k3 T' rfl X'
    exact ⟨t2, st t2 a1, b1⟩
  · obtain ⟨k1, k2, k3⟩ := vx_keep h0 e1 hS hAX hf hL hF
    obtain ⟨t2, a1, b1⟩ := kx E ce q u t T'.heap (locs ++ L) e1.symm (by rw [← e2]; exact X'.warmed.alike) hp hb k1 k2 k3 (by rw [e1]; exact hce) hcv hcl T' rfl X'
    exact ⟨t2, st.trans a1, b1⟩
theorem vx_callf {S SX : Type} {post : UInt32 → S → Prop} {px : SX → Prop} {B : S → State → Prop} {BX : String → SX → State → Prop} {AX : Nat → Prop} (hr : vx_Run p l e R s m args below meth c H locs cells slots mc ms (F0 m pc ls st0) rest (va_Qf post B A1 a) (vx_X px BX AX) free) (hS : va_S A0 H0 H locs) (hA : ∀ q, q < H.size → A1 q → A0 q) (hf : ∀ q, free q → A0 q) (hAX : ∀ q, q < H.size → AX q → A0 q)
    (kx : ∀ (E : String) (ce : Cell) (q9 : Addr) (u : SX) (t : State) (H1 : Heap) (locs1 : List Loc), t.heap = H1 → s.vm.Alike t.vm → px u → BX E u t → H.size ≤ H1.size → (∀ q : Nat, q < H.size → ¬ AX q → H1[q]? = H[q]?) → va_S A0 H0 H1 locs1 → H1[q9]? = some ce → ce.vm = .none → s.vm.findClass E = some ce.cls → vx_W p l e R s m args below meth c H1 locs1 (cells + mc) (slots + ms) Q (F0 m pc ls rest) q9)
    (kk : ∀ (r : UInt32) (u : S) (t : State) (H1 : Heap) (locs1 : List Loc), t.heap = H1 → s.vm.Alike t.vm → post r u → B u t → H.size ≤ H1.size → (∀ q : Nat, q < H.size → ¬ A1 q → H1[q]? = H[q]?) → va_S A0 H0 H1 locs1 → W p l e R s m args below meth c H1 locs1 (cells + mc) (slots + ms) Q (F0 m (pc + 3) ls (.float r :: rest))) : W p l e R s m args below meth c H locs cells slots Q (F0 m pc ls st0) := by
  intro T hT X
  rcases hr T hT X with ⟨v, st₀, t, T', L, h0, X', hL, e1, e2, ⟨⟨r, u, hv, hp, hb⟩, hF⟩, st⟩ | ⟨q, st₀, t, T', L, E, ce, h0, X', hL, e1, e2, ⟨u, hp, hb, hF⟩, hce, hcv, hcl, st⟩
  · cases hv
    obtain ⟨k1, k2, k3⟩ := vx_keep h0 e1 hS hA hf hL hF
    obtain ⟨t2, a1, b1⟩ := kk r u t T'.heap (locs ++ L) e1.symm (by rw [← e2]; exact X'.warmed.alike) hp hb k1 k2 k3 T' rfl X'
    exact ⟨t2, st t2 a1, b1⟩
  · obtain ⟨k1, k2, k3⟩ := vx_keep h0 e1 hS hAX hf hL hF
    obtain ⟨t2, a1, b1⟩ := kx E ce q u t T'.heap (locs ++ L) e1.symm (by rw [← e2]; exact X'.warmed.alike) hp hb k1 k2 k3 (by rw [e1]; exact hce) hcv hcl T' rfl X'
    exact ⟨t2, st.trans a1, b1⟩
theorem vx_calld {S SX : Type} {post : UInt64 → S → Prop} {px : SX → Prop} {B : S → State → Prop} {BX : String → SX → State → Prop} {AX : Nat → Prop} (hr : vx_Run p l e R s m args below meth c H locs cells slots mc ms (F0 m pc ls st0) rest (va_Qd post B A1 a) (vx_X px BX AX) free) (hS : va_S A0 H0 H locs) (hA : ∀ q, q < H.size → A1 q → A0 q) (hf : ∀ q, free q → A0 q) (hAX : ∀ q, q < H.size → AX q → A0 q)
    (kx : ∀ (E : String) (ce : Cell) (q9 : Addr) (u : SX) (t : State) (H1 : Heap) (locs1 : List Loc), t.heap = H1 → s.vm.Alike t.vm → px u → BX E u t → H.size ≤ H1.size → (∀ q : Nat, q < H.size → ¬ AX q → H1[q]? = H[q]?) → va_S A0 H0 H1 locs1 → H1[q9]? = some ce → ce.vm = .none → s.vm.findClass E = some ce.cls → vx_W p l e R s m args below meth c H1 locs1 (cells + mc) (slots + ms) Q (F0 m pc ls rest) q9)
    (kk : ∀ (r : UInt64) (u : S) (t : State) (H1 : Heap) (locs1 : List Loc), t.heap = H1 → s.vm.Alike t.vm → post r u → B u t → H.size ≤ H1.size → (∀ q : Nat, q < H.size → ¬ A1 q → H1[q]? = H[q]?) → va_S A0 H0 H1 locs1 → W p l e R s m args below meth c H1 locs1 (cells + mc) (slots + ms) Q (F0 m (pc + 3) ls (.double r :: rest))) : W p l e R s m args below meth c H locs cells slots Q (F0 m pc ls st0) := by
  intro T hT X
  rcases hr T hT X with ⟨v, st₀, t, T', L, h0, X', hL, e1, e2, ⟨⟨r, u, hv, hp, hb⟩, hF⟩, st⟩ | ⟨q, st₀, t, T', L, E, ce, h0, X', hL, e1, e2, ⟨u, hp, hb, hF⟩, hce, hcv, hcl, st⟩
  · cases hv
    obtain ⟨k1, k2, k3⟩ := vx_keep h0 e1 hS hA hf hL hF
    obtain ⟨t2, a1, b1⟩ := kk r u t T'.heap (locs ++ L) e1.symm (by rw [← e2]; exact X'.warmed.alike) hp hb k1 k2 k3 T' rfl X'
    exact ⟨t2, st t2 a1, b1⟩
  · obtain ⟨k1, k2, k3⟩ := vx_keep h0 e1 hS hAX hf hL hF
    obtain ⟨t2, a1, b1⟩ := kx E ce q u t T'.heap (locs ++ L) e1.symm (by rw [← e2]; exact X'.warmed.alike) hp hb k1 k2 k3 (by rw [e1]; exact hce) hcv hcl T' rfl X'
    exact ⟨t2, st.trans a1, b1⟩
theorem vx_callv {S SX : Type} {post : S → Prop} {px : SX → Prop} {B : S → State → Prop} {BX : String → SX → State → Prop} {AX : Nat → Prop} (hr : vx_Run p l e R s m args below meth c H locs cells slots mc ms (F0 m pc ls st0) rest (va_Qv post B A1 a) (vx_X px BX AX) free) (hS : va_S A0 H0 H locs) (hA : ∀ q, q < H.size → A1 q → A0 q) (hf : ∀ q, free q → A0 q) (hAX : ∀ q, q < H.size → AX q → A0 q)
    (kx : ∀ (E : String) (ce : Cell) (q9 : Addr) (u : SX) (t : State) (H1 : Heap) (locs1 : List Loc), t.heap = H1 → s.vm.Alike t.vm → px u → BX E u t → H.size ≤ H1.size → (∀ q : Nat, q < H.size → ¬ AX q → H1[q]? = H[q]?) → va_S A0 H0 H1 locs1 → H1[q9]? = some ce → ce.vm = .none → s.vm.findClass E = some ce.cls → vx_W p l e R s m args below meth c H1 locs1 (cells + mc) (slots + ms) Q (F0 m pc ls rest) q9)
    (kk : ∀ (u : S) (t : State) (H1 : Heap) (locs1 : List Loc), t.heap = H1 → s.vm.Alike t.vm → post u → B u t → H.size ≤ H1.size → (∀ q : Nat, q < H.size → ¬ A1 q → H1[q]? = H[q]?) → va_S A0 H0 H1 locs1 → W p l e R s m args below meth c H1 locs1 (cells + mc) (slots + ms) Q (F0 m (pc + 3) ls (rest))) : W p l e R s m args below meth c H locs cells slots Q (F0 m pc ls st0) := by
  intro T hT X
  rcases hr T hT X with ⟨v, st₀, t, T', L, h0, X', hL, e1, e2, ⟨⟨u, hv, hp, hb⟩, hF⟩, st⟩ | ⟨q, st₀, t, T', L, E, ce, h0, X', hL, e1, e2, ⟨u, hp, hb, hF⟩, hce, hcv, hcl, st⟩
  · cases hv
    obtain ⟨k1, k2, k3⟩ := vx_keep h0 e1 hS hA hf hL hF
    obtain ⟨t2, a1, b1⟩ := kk u t T'.heap (locs ++ L) e1.symm (by rw [← e2]; exact X'.warmed.alike) hp hb k1 k2 k3 T' rfl X'
    exact ⟨t2, st t2 a1, b1⟩
  · obtain ⟨k1, k2, k3⟩ := vx_keep h0 e1 hS hAX hf hL hF
    obtain ⟨t2, a1, b1⟩ := kx E ce q u t T'.heap (locs ++ L) e1.symm (by rw [← e2]; exact X'.warmed.alike) hp hb k1 k2 k3 (by rw [e1]; exact hce) hcv hcl T' rfl X'
    exact ⟨t2, st.trans a1, b1⟩
/-- caught by the row x of this method's table; the rows ahead don't take it -/
theorem vx_catch {own name : String} {E : String} {ce : Cell} {q : Addr} (hown : s.vm.findClass own = some m.cls) (pre : List ExceptionTableEntry) (x : ExceptionTableEntry) (suf : List ExceptionTableEntry) (hsplit : c.exceptionTable.toList = pre ++ x :: suf)
    (hpass : ∀ z ∈ pre, covers z pc = false ∨ (z.catchType ≠ 0 ∧ ∃ nm : String, (Cond.classLink own z.catchType nm).before args s = true ∧ va_Nc E nm s)) (hx : covers x pc = true) (h0 : x.catchType ≠ 0)
    (hlink : (Cond.classLink own x.catchType name).before args s = true) (hcast : (Cond.castable E name).before args s = true) (hcell : H[q]? = some ce) (hv : ce.vm = .none) (hcl : s.vm.findClass E = some ce.cls)
    (kk : W p l e R s m args below meth c H locs cells slots Q (F0 m x.handlerPc ls [.ref q])) : vx_W p l e R s m args below meth c H locs cells slots Q (F0 m pc ls rest) q := by
  intro T hT X
  have hpl : e.platform.magicAccessors = ({} : Platform).magicAccessors := by rw [X.admits.platform]
  obtain ⟨c3, c4, hc3, hc4, hasg⟩ := Cond.castable_spec hcast
  cases Option.some.inj (hc3.symm.trans hcl)
  obtain ⟨c5, hc5, hcl5⟩ := Cond.classLink_spec hown hlink e.platform hpl
  cases Option.some.inj (hc4.symm.trans hc5)
  obtain ⟨vm', X', st⟩ := X.thenCaughtThrough q (g := F0 m pc ls rest) rfl (Steps.refl _) (by rw [hT]; exact hcell) (by rw [hv]; rfl) (by obtain ⟨k9, h9, -⟩ := Vm.findClass_spec hcl; exact ⟨k9, h9⟩) pre x suf hsplit
    (fun z hz => by
      rcases hpass z hz with h | ⟨hz0, nm, hl1, hn1⟩
      · exact Or.inl h
      · obtain ⟨c6, hc6, hcl6⟩ := Cond.classLink_spec hown hl1 e.platform hpl
        obtain ⟨a8, b8, h1, h2, h3⟩ := hn1
        cases Option.some.inj (h1.symm.trans hcl)
        cases Option.some.inj (h2.symm.trans hc6)
        exact Or.inr ⟨hz0, _, hcl6, h3⟩) hx (Or.inr ⟨h0, c4, hcl5, hasg⟩)
  obtain ⟨t, a1, b1⟩ := kk (T.setVm vm') hT X'
  exact ⟨t, st.trans a1, b1⟩
end Rows
section Ends
variable {p : Program} {l : Launch} {e : Env} {R : Room} {s : State} {m : MethodId} {args : Array Value} {below : List Frame} {meth : Method} {c : Code} {H : Heap} {locs : List Loc} {cells slots : Nat} {Q : State → Prop}
variable {mc ms : Nat} {free : Addr → Prop} {A0 A1 : Nat → Prop} {H0 : Heap} {a : Array Value} {ls : Array Slot} {st0 rest : List Value}
variable {Qc : Array Value → State → Outcome → State → Prop} {XC : String → State → State → Prop}
/-- what a body that may throw owes at its end -/
def vx_MQ (below : List Frame) (Qc : Array Value → State → Outcome → State → Prop) (XC : String → State → State → Prop) (a : Array Value) (s : State) (mc ms : Nat) (free : Addr → Prop) : State → Prop := fun t =>
  ∃ o, t.status = .running ∧ Ended t below o ∧ vx_Q Qc XC mc ms free a s o t
theorem vx_ret {g : JFrame} {mc ms : Nat} (k : W p l e R s m args below meth c H locs cells slots (MQ below Qc args s mc ms free) g) : W p l e R s m args below meth c H locs cells slots (vx_MQ below Qc XC args s mc ms free) g := by
  intro T hT X
  obtain ⟨t, a1, o, b1, b2, b3, b4⟩ := k T hT X
  exact ⟨t, a1, o, b1, b2, Or.inl ⟨b3, b4⟩⟩
/-- not caught here: it goes on to the caller -/
theorem vx_widen {g : JFrame} {q : Addr} {k n : Nat} (h1 : cells ≤ k) (h2 : slots ≤ n) (kk : vx_W p l e R s m args below meth c H locs k n Q g q) : vx_W p l e R s m args below meth c H locs cells slots Q g q := fun T hT X => kk T hT (stand_widen X h1 h2)
theorem vx_out {pc : Nat} {E : String} {ce : Cell} {q : Addr} {mc ms : Nat} (hout : ∀ x ∈ c.exceptionTable.toList, covers x pc = false) (hlocks : meth.locks = false) (hcell : H[q]? = some ce) (hv : ce.vm = .none) (hcl : s.vm.findClass E = some ce.cls)
    (hx : ∀ t : State, t.heap = H → s.vm.Alike t.vm → XC E s t) (hf : ∀ z ∈ locs, free z.base) (hc : cells ≤ mc) (hs : slots ≤ ms) :
    vx_W p l e R s m args below meth c H locs cells slots (vx_MQ below Qc XC args s mc ms free) (F0 m pc ls rest) q := by
  intro T hT X
  obtain ⟨st1, hrun, hend, hW, hsm⟩ := X.leaveThrown q (g := F0 m pc ls rest) rfl rfl rfl hout hlocks
  have hcell9 : (T.setFrames (.throwing q :: below)).heap[q]? = some ce := by
    show T.heap[q]? = some ce
    rw [hT]; exact hcell
  exact ⟨_, st1, .threw q, hrun, hend, Or.inr ⟨q, rfl, E, ce, locs, hx _ hT hW.alike, hcell9, hv, hcl, hW, hsm.mono hc hs, hf⟩⟩
theorem vx_frame {U : State} {k n : Nat} (h : s.sameButNew ({ U with vm := s.vm } : State) locs k n) : s.heap.size ≤ U.heap.size ∧ ∀ q : Nat, q < s.heap.size → (∀ z ∈ locs, z.base ≠ q) → U.heap[q]? = s.heap[q]? := by
  obtain ⟨-, h2, -, -, -, h6⟩ := h
  refine ⟨h2, fun q hq hz => ?_⟩
  obtain ⟨c9, e1, e2, e3, e4⟩ := h6 q _ (Array.getElem?_eq_getElem hq)
  have hs : c9.slots = (s.heap[q]).slots := Array.ext_getElem? fun i => e4 i fun hm => hz _ hm rfl
  have h9 : c9 = s.heap[q] := by
    rw [hs] at e2
    exact e2
  have e5 : U.heap[q]? = some c9 := e1
  rw [e5, h9, Array.getElem?_eq_getElem hq]
/-- the words of a throw but the four that speak of the heap -/
def vx_no (w : Cond) : Bool := decide (w ≠ .isRef (.static Bundle.tN "UNASSIGNED_STACK" Bundle.steD)) && decide (w ≠ .isRef (.static Bundle.tN "SUPPRESSED_SENTINEL" Bundle.listD)) && decide (w ≠ .laysStatic Bundle.tN "UNASSIGNED_STACK" Bundle.steD) && decide (w ≠ .laysStatic Bundle.tN "SUPPRESSED_SENTINEL" Bundle.listD)
def vx_at0 (own : String) (ic : Nat) (X : String) (names : List String) : List Cond := (Bundle.ownAtoms0 own ic X names).filter vx_no
def vx_atS (own : String) (ic : Nat) (X : String) (names : List String) : List Cond := (Bundle.ownAtoms own ic X names).filter vx_no
/-- a word that the tables alone decide, or a good one -/
def vx_ot (w : Cond) : Bool := w.onTables || goodWord w
theorem vx_ot_at {args a' : Array Value} {s U : State} {w : Cond} (hW : s.WarmedH U.vm) (hvm : s.vm = U.vm) (hg : vx_ot w = true) (h : w.before args s = true) : w.before a' U = true := by
  simp only [vx_ot, Bool.or_eq_true] at hg
  rcases hg with hg | hg
  · exact va_tabs hg hvm h
  · exact word_at hW (good_of_word hg) h
/-- a list's words: the good ones out of the method's own list, the others by premises of their own -/
theorem vx_hat {args : Array Value} {s : State} {L B : List Cond} (h1 : ∀ w ∈ L.filter goodWord, w.before args s = true) (h2 : ∀ w ∈ L.filter (fun w => !goodWord w), w ∈ B) (h3 : ∀ w ∈ B, w.before args s = true) : ∀ w ∈ L, w.before args s = true := by
  intro w hw
  by_cases g : goodWord w = true
  · exact h1 w (List.mem_filter.mpr ⟨hw, g⟩)
  · refine h3 w (h2 w (List.mem_filter.mpr ⟨hw, ?_⟩))
    show (!goodWord w) = true
    cases hgw : goodWord w
    · rfl
    · exact absurd hgw g
theorem vx_c {args : Array Value} {s : State} {w : Cond} {B : List Cond} (h : w.before args s = true) (t : ∀ w ∈ B, w.before args s = true) : ∀ w' ∈ w :: B, w'.before args s = true := fun w' h' => (List.mem_cons.mp h').elim (fun e => by rw [e]; exact h) (t w')
theorem vx_n {args : Array Value} {s : State} : ∀ w ∈ ([] : List Cond), w.before args s = true := fun _ h => nomatch h
theorem vx_own {args : Array Value} {s : State} {L : List Cond} (h1 : ∀ w ∈ L.filter vx_no, w.before args s = true)
    (hU : (Cond.isRef (.static Bundle.tN "UNASSIGNED_STACK" Bundle.steD)).before args s = true) (hN : (Cond.isRef (.static Bundle.tN "SUPPRESSED_SENTINEL" Bundle.listD)).before args s = true)
    (lU : (Cond.laysStatic Bundle.tN "UNASSIGNED_STACK" Bundle.steD).before args s = true) (lN : (Cond.laysStatic Bundle.tN "SUPPRESSED_SENTINEL" Bundle.listD).before args s = true) : ∀ w ∈ L, w.before args s = true := by
  intro w hw
  by_cases e1 : w = .isRef (.static Bundle.tN "UNASSIGNED_STACK" Bundle.steD)
  · rw [e1]; exact hU
  · by_cases e2 : w = .isRef (.static Bundle.tN "SUPPRESSED_SENTINEL" Bundle.listD)
    · rw [e2]; exact hN
    · by_cases e3 : w = .laysStatic Bundle.tN "UNASSIGNED_STACK" Bundle.steD
      · rw [e3]; exact lU
      · by_cases e4 : w = .laysStatic Bundle.tN "SUPPRESSED_SENTINEL" Bundle.listD
        · rw [e4]; exact lN
        · exact h1 w (List.mem_filter.mpr ⟨hw, by unfold vx_no; rw [decide_eq_true e1, decide_eq_true e2, decide_eq_true e3, decide_eq_true e4]; rfl⟩)
/-- where a static field lies, its class's statics cell in H -/
def vx_L (C n d : String) (A : Nat → Prop) (U : State) (H : Heap) : Prop := ∃ (c : ClassId) (k : Class) (i : Nat) (f : Field) (a : Nat) (cell : Cell), U.vm.findClass C = some c ∧ U.fieldFound? C n d = some (c, k, i, f) ∧ f.isStatic = true ∧ k.statics = some a ∧ H[a]? = some cell ∧ cell.vm.isStatics = true ∧ cell.cls = c ∧ f.slot < cell.slots.size ∧ k.staticTypes[f.slot]? = some f.type ∧ ¬ A a
theorem vx_L.moved {C n d : String} {A : Nat → Prop} {u U : State} {H : Heap} (hvm : u.vm.Alike U.vm) (h : vx_L C n d A u H) : vx_L C n d A U H := by
  obtain ⟨c, k, i, f, a, cell, h1, h2, h3, h4, h5, h6, h7, h8, h9, h10⟩ := h
  obtain ⟨k', hi', he⟩ := State.fieldFound?_setVm hvm h2
  exact ⟨c, k', i, f, a, cell, by rw [hvm.findClass]; exact h1, hi', h3, by rw [he]; exact h4, h5, h6, h7, h8, by rw [he]; exact h9, h10⟩
theorem vx_L.kept {C n d : String} {A : Nat → Prop} {U : State} {H H1 : Heap} (h : vx_L C n d A U H) (hq : ∀ a : Nat, a < H.size → ¬ A a → H1[a]? = H[a]?) : vx_L C n d A U H1 := by
  obtain ⟨c, k, i, f, a, cell, h1, h2, h3, h4, h5, h6, h7, h8, h9, h10⟩ := h
  exact ⟨c, k, i, f, a, cell, h1, h2, h3, h4, by rw [hq a (Array.getElem?_eq_some_iff.mp h5).1 h10]; exact h5, h6, h7, h8, h9, h10⟩
theorem vx_L.narrow {C n d : String} {A B : Nat → Prop} {U : State} {H : Heap} (h : vx_L C n d A U H) (hAB : ∀ q, B q → A q) : vx_L C n d B U H := by
  obtain ⟨c, k, i, f, a, cell, h1, h2, h3, h4, h5, h6, h7, h8, h9, h10⟩ := h
  exact ⟨c, k, i, f, a, cell, h1, h2, h3, h4, h5, h6, h7, h8, h9, fun z => h10 (hAB _ z)⟩
theorem vx_L.word {C n d : String} {A : Nat → Prop} {s : State} {args : Array Value} (h : vx_L C n d A s s.heap) : (Cond.laysStatic C n d).before args s = true := by
  obtain ⟨c, k, i, f, a, cell, h1, h2, h3, h4, h5, h6, h7, h8, h9, -⟩ := h
  show (Cond.laysStatic C n d).holds args s none s [] = true
  exact Cond.laysStatic_of h1 h2 h3 h4 h5 h6 h7 h8 h9
/-- .. and what it holds: null or some reference -/
def vx_Zq (C n d : String) (A : Nat → Prop) (U : State) (H : Heap) : Prop := va_Zq C n d A U H ∧ vx_L C n d A U H
theorem vx_Zq.moved {C n d : String} {A : Nat → Prop} {u U : State} {H : Heap} (hvm : u.vm.Alike U.vm) (h : vx_Zq C n d A u H) : vx_Zq C n d A U H := ⟨va_Zq.moved hvm h.1, vx_L.moved hvm h.2⟩
theorem vx_Zq.kept {C n d : String} {A : Nat → Prop} {U : State} {H H1 : Heap} (h : vx_Zq C n d A U H) (hq : ∀ a : Nat, a < H.size → ¬ A a → H1[a]? = H[a]?) : vx_Zq C n d A U H1 := ⟨va_Zq.kept h.1 hq, vx_L.kept h.2 hq⟩
theorem vx_Zq.narrow {C n d : String} {A B : Nat → Prop} {U : State} {H : Heap} (h : vx_Zq C n d A U H) (hAB : ∀ q, B q → A q) : vx_Zq C n d B U H := ⟨va_Zq.narrow h.1 hAB, vx_L.narrow h.2 hAB⟩
theorem vx_Zqof {args : Array Value} {s : State} {C n d : String} {A : Nat → Prop} (hl : (Cond.laysStatic C n d).before args s = true) (hini : (Cond.initialized C).before args s = true) (h : (Cond.isRef (.static C n d)).before args s = true) (hA : ∀ a : Nat, a < s.heap.size → ¬ A a) : vx_Zq C n d A s s.heap := by
  refine ⟨va_Zqof hl hini h hA, ?_⟩
  obtain ⟨c, k, i, f, a, cell, h1, h2, h3, h4, h5, h6, h7, h8, h9⟩ := Cond.laysStatic_spec hl
  exact ⟨c, k, i, f, a, cell, h1, h2, h3, h4, h5, h6, h7, h8, h9, hA a (Array.getElem?_eq_some_iff.mp h5).1⟩
theorem vx_isRef {C n d : String} {v : Value} {A : Nat → Prop} {s : State} {args : Array Value} (h : va_Z C n d v A s s.heap) (hv : v.isRef = true) : (Cond.isRef (.static C n d)).before args s = true := by
  obtain ⟨cf, kf, fi, f, a, cell, h1, h2, h3, h4, h5, h6, h7, -⟩ := h
  have he : (Term.static C n d).eval args s none [] s = some v := by
    simp [Term.eval, State.fieldNamed?, h1, h2, h4, h5, h6, h7]
  simp only [Cond.before, Cond.holds, Cond.value, he]
  cases v <;> simp_all [Value.isRef]
theorem vx_isRefq {C n d : String} {A : Nat → Prop} {s : State} {args : Array Value} (h : va_Zq C n d A s s.heap) : (Cond.isRef (.static C n d)).before args s = true := by
  rcases h with h | ⟨t, h⟩
  · exact vx_isRef h rfl
  · exact vx_isRef h rfl
/-- the same frame, seen from here: as if the method were called anew in this heap -/
theorem vx_rebase {T : State} (X : Stand p l e R s m args below meth c T locs cells slots) {R' : Room} (hf : R'.frames ≤ R.frames) (hl : R'.locals ≤ R.locals) (hc : cells + R'.cells ≤ R.cells) (hs : slots + R'.slots ≤ R.slots) :
    Stand p l e R' ((T.setVm s.vm).setFrames (.invoking m args :: below)) m args below meth c T [] 0 0 := by
  have htop : (T.setVm s.vm).topJava?.isSome := X.here.top
  have hF : ((T.setVm s.vm).setFrames (.invoking m args :: below)).frames = .invoking m args :: below := State.frames_setFrames _ (State.cur_lt_of_top htop)
  obtain ⟨g₀, hg0⟩ := Option.isSome_iff_exists.mp htop
  obtain ⟨r, hr⟩ := State.topJava?_eq_some.mp hg0
  have hl9 : e.platform.stackLimits (T.setVm s.vm).me = e.platform.stackLimits s.me := X.limits
  have hb9 : (T.setVm s.vm).me.stackBytes = s.me.stackBytes := X.bytes
  refine ⟨X.admits, X.cas, X.clock, hF, ?_, X.hears, X.method, X.code, X.here, X.tail, X.warmed, ?_, ?_, ?_⟩
  · have h := X.room
    have hU : ((T.setVm s.vm).setFrames (.invoking m args :: below)).localsInUse = s.localsInUse := by
      rw [State.localsInUse_invoking hF (meth := meth) (c := c) X.method X.code, State.localsInUse_invoking X.frames X.method X.code]
    simp only [State.hasRoom, Bool.and_eq_true, decide_eq_true_eq] at h ⊢
    obtain ⟨⟨⟨⟨h1, h2, h3, h4, h5, h6⟩, h7⟩, h8⟩, h9⟩ := h
    rw [X.frames, List.length_cons] at h2 h3
    have q1 := X.heapSize
    have q2 := X.used
    simp only [hF, hU, List.length_cons, State.stackLimits_setFrames, State.stackBytes_setFrames, hl9, hb9]
    refine ⟨⟨⟨⟨by omega, by omega, by omega, by omega, by omega, h6⟩, ?_⟩, ?_⟩, X.book⟩
    · show T.heap.size + R'.cells ≤ e.platform.maxCells
      omega
    · show T.slotsUsed + R'.slots ≤ e.platform.maxSlots
      omega
  · rw [State.stackLimits_setFrames]; rfl
  · rw [State.stackBytes_setFrames]; rfl
  · refine ⟨?_, Nat.le_refl _, Nat.le_refl _, ?_, ?_, fun a c9 h9 => ⟨c9, h9, rfl, rfl, fun _ _ => rfl⟩⟩
    · obtain ⟨t, ht, -⟩ := State.frames_cons hr
      show T.setVm s.vm = { ((T.setVm s.vm).setFrames (.invoking m args :: below)).setFrames (T.setVm s.vm).frames with heap := T.heap, slotsUsed := T.slotsUsed }
      rw [State.setFrames_setFrames, State.setFrames_self ht]
      rfl
    · show T.slotsUsed = T.slotsUsed + ((T.heap.toList.drop T.heap.size).map (·.slots.size)).sum
      rw [List.drop_eq_nil_of_le (Nat.le_of_eq Array.length_toList)]
      rfl
    · show ((T.heap.toList.drop T.heap.size).map (·.slots.size)).sum ≤ 0
      rw [List.drop_eq_nil_of_le (Nat.le_of_eq Array.length_toList)]
      exact Nat.le_refl _
/-- 'throw new E()': new; dup; invokespecial; athrow -/
theorem vx_throw0 {cc : ByteArray} {pc : Nat} (hexec : p.tables.exec = Jvm.exec) (hb : c.code = cc) (hl : l.stackTraces = false) {own cls : String} {names : List String} {ik ic mc ms : Nat} {A : Nat → Prop}
    (hown : s.vm.findClass own = some m.cls) (hcls : Bundle.fit cls = true) (hnames : ∀ n ∈ names, Bundle.fit n = true)
    (hk : (Cond.classLink own ik cls).before args s = true) (hini : (Cond.initialized cls).before args s = true) (hat : ∀ w ∈ vx_at0 own ic cls names, w.before args s = true)
    (hgood : ∀ w ∈ Cond.classLink own ik cls :: Cond.initialized cls :: vx_at0 own ic cls names, vx_ot w = true)
    (hU : vx_Zq Bundle.tN "UNASSIGNED_STACK" Bundle.steD A s s.heap) (hN : vx_Zq Bundle.tN "SUPPRESSED_SENTINEL" Bundle.listD A s s.heap) (hS : va_S A s.heap H locs) (hsize : ls.size = c.maxLocals)
    (d0 : decode cc pc = .ok (.new ik, 3)) (d3 : decode cc (pc + 3) = .ok (.dup, 1)) (d4 : decode cc (pc + 4) = .ok (.invokespecial ic, 3)) (d7 : decode cc (pc + 7) = .ok (.athrow, 1))
    (hout : ∀ x ∈ c.exceptionTable.toList, covers x (pc + 7) = false)
    (hRframes : names.length + 3 < R.frames) (hRlocals : (rest.map fun v => v.category).sum + (13 * (names.length + 1) + 42) ≤ R.locals) (hRcells : cells + 1 ≤ R.cells) (hRslots : slots + 6 ≤ R.slots) (hlocks : meth.locks = false)
    (hx : ∀ t : State, s.vm.Alike t.vm → H.size ≤ t.heap.size → (∀ q : Nat, q < H.size → t.heap[q]? = H[q]?) → XC cls s t)
    (hf : ∀ z ∈ locs, free z.base) (hc : cells + 1 ≤ mc) (hs : slots + 6 ≤ ms) :
    W p l e R s m args below meth c H locs cells slots (vx_MQ below Qc XC args s mc ms free) (F0 m pc ls rest) := by
  intro T hT X
  have htr : e.platform.stackTraces = false := (show e.platform.stackTraces = l.stackTraces by rw [X.admits.platform]).trans hl
  have Y := vx_rebase X (R' := { frames := R.frames, locals := R.locals, cells := 1, slots := 6 }) (Nat.le_refl _) (Nat.le_refl _) hRcells hRslots
  obtain ⟨s', hA⟩ : ∃ z, z = (T.setVm s.vm).setFrames (.invoking m args :: below) := ⟨_, rfl⟩
  rw [← hA] at Y
  have hvm : s'.vm = s.vm := by rw [hA]; rfl
  have hhp : s'.heap = H := by rw [hA]; exact hT
  have hW0 : s.WarmedH s'.vm := by rw [hvm]; exact State.WarmedH.refl s
  have hat' : ∀ w ∈ vx_at0 own ic cls names, w.before args s' = true := fun w hw => vx_ot_at hW0 hvm.symm (hgood w (List.mem_cons_of_mem _ (List.mem_cons_of_mem _ hw))) (hat w hw)
  have hk' : (Cond.classLink own ik cls).before args s' = true := vx_ot_at hW0 hvm.symm (hgood _ List.mem_cons_self) hk
  have hini' : (Cond.initialized cls).before args s' = true := vx_ot_at hW0 hvm.symm (hgood _ (List.mem_cons_of_mem _ List.mem_cons_self)) hini
  have hU' : vx_Zq Bundle.tN "UNASSIGNED_STACK" Bundle.steD A s' s'.heap := by rw [hhp]; exact vx_Zq.moved hW0.alike (hU.kept hS.2.1)
  have hN' : vx_Zq Bundle.tN "SUPPRESSED_SENTINEL" Bundle.listD A s' s'.heap := by rw [hhp]; exact vx_Zq.moved hW0.alike (hN.kept hS.2.1)
  have h : ∀ w ∈ Bundle.ownAtoms0 own ic cls names, w.before args s' = true := vx_own hat' (vx_isRefq hU'.1) (vx_isRefq hN'.1) hU'.2.word hN'.2.word
  have hown' : s'.vm.findClass own = some m.cls := by rw [hvm]; exact hown
  have hins : (Cond.instantiable cls 6).before args s' = true := h _ (by simp [Bundle.ownAtoms0])
  obtain ⟨vm₁, cX, kX, hfX, hkX, -, -, X₁, st1⟩ := Y.newCold hexec (own := own) (C := cls) (index := ik) (n := 6) hown' hk' hins hini'
    (g := F0 m pc ls rest) rfl (by rw [hb]; exact d0) (Nat.le_refl _) (Nat.le_refl _)
  generalize hT1 : (T.setVm vm₁).pushCell { cls := cX, slots := kX.instanceTypes.map defaultValue, vm := .none } = T1 at X₁ st1
  have hcat : (Value.ref T.heap.size).category = 1 := rfl
  have hcellA : T1.heap[T.heap.size]? = some (freshCell cX kX) := by rw [← hT1]; exact State.heap_pushCell_size _ _
  have d3' : decode c.code (pc + 3) = .ok (.dup, 1) := by rw [hb]; exact d3
  obtain ⟨U, hsteps, hrun, hend, hW, hsame, ce, hce, hO⟩ := X₁.ctorThrow0 hexec htr (own := own) (cls := cls) (names := names) (ic := ic) hown' hcls hnames h (fun x hx => nomatch hx) hfX hkX hcellA (by rw [hhp, hT]; exact Nat.le_refl _)
    (g := { method := m, pc := pc + 4, locals := ls, stack := .ref T.heap.size :: .ref T.heap.size :: rest, locked := none }) rfl hsize rfl rfl (rest := rest) rfl
    (by rw [hb]; exact d4) (by rw [hb]; exact d7) hout hRframes (by simp only [List.map_cons, List.sum_cons, hcat]; omega) hlocks
  obtain ⟨f1, f2⟩ := vx_frame hsame
  rw [hhp] at f1 f2
  have hWs : s.WarmedH U.vm := State.WarmedH.trans hW0 hW
  have hcl : s.vm.findClass cls = some ce.cls := by
    have h9 := hO.cls
    rw [hvm] at h9
    exact h9
  have hall : s.sameButNew ({ U with vm := s.vm } : State) locs mc ms := by
    subst hA
    obtain ⟨e1, e2⟩ := hsame
    rw [State.setFrames_setFrames] at e1
    have h2 : (T.setVm s.vm).sameButNew ({ U with vm := s.vm } : State) [] (0 + 1) (0 + 6) := ⟨e1, e2⟩
    have h3 := X.same.trans h2
    rw [List.append_nil] at h3
    exact h3.mono hc hs
  refine ⟨U, ?_, .threw T.heap.size, hrun, hend, Or.inr ⟨T.heap.size, rfl, cls, ce, locs, hx U hWs.alike f1 (fun q hq => f2 q hq (fun z hz => nomatch hz)), hce, hO.vm, hcl, hWs, hall, hf⟩⟩
  refine st1 _ ?_
  show Steps p.tables e below (T1.setTop { method := m, pc := pc + 3, locals := ls, stack := .ref T.heap.size :: rest, locked := none }) _
  jvm_step X₁.here [X₁.here.top, hexec, d3', Value.category]
  exact hsteps
/-- 'throw new E("text")': new; dup; ldc; invokespecial; athrow -/
theorem vx_throwS {cc : ByteArray} {pc : Nat} (hexec : p.tables.exec = Jvm.exec) (hb : c.code = cc) (hl : l.stackTraces = false) {own cls text : String} {names : List String} {ik is ic mc ms sa : Nat} {A : Nat → Prop}
    (hown : s.vm.findClass own = some m.cls) (hcls : Bundle.fit cls = true) (hnames : ∀ n ∈ names, Bundle.fit n = true)
    (hk : (Cond.classLink own ik cls).before args s = true) (hini : (Cond.initialized cls).before args s = true) (hstr : vk_R own is text sa s) (hat : ∀ w ∈ vx_atS own ic cls names, w.before args s = true)
    (hgood : ∀ w ∈ Cond.classLink own ik cls :: Cond.initialized cls :: vx_atS own ic cls names, vx_ot w = true)
    (hU : vx_Zq Bundle.tN "UNASSIGNED_STACK" Bundle.steD A s s.heap) (hN : vx_Zq Bundle.tN "SUPPRESSED_SENTINEL" Bundle.listD A s s.heap) (hS : va_S A s.heap H locs) (hsize : ls.size = c.maxLocals)
    (d0 : decode cc pc = .ok (.new ik, 3)) (d3 : decode cc (pc + 3) = .ok (.dup, 1)) (d4 : decode cc (pc + 4) = .ok (.ldc is, 2)) (d6 : decode cc (pc + 6) = .ok (.invokespecial ic, 3)) (d9 : decode cc (pc + 9) = .ok (.athrow, 1))
    (hout : ∀ x ∈ c.exceptionTable.toList, covers x (pc + 9) = false)
    (hRframes : names.length + 3 < R.frames) (hRlocals : (rest.map fun v => v.category).sum + (13 * (names.length + 1) + 43) ≤ R.locals) (hRcells : cells + 1 ≤ R.cells) (hRslots : slots + 6 ≤ R.slots) (hlocks : meth.locks = false)
    (hx : ∀ t : State, s.vm.Alike t.vm → H.size ≤ t.heap.size → (∀ q : Nat, q < H.size → t.heap[q]? = H[q]?) → XC cls s t)
    (hf : ∀ z ∈ locs, free z.base) (hc : cells + 1 ≤ mc) (hs : slots + 6 ≤ ms) :
    W p l e R s m args below meth c H locs cells slots (vx_MQ below Qc XC args s mc ms free) (F0 m pc ls rest) := by
  intro T hT X
  have htr : e.platform.stackTraces = false := (show e.platform.stackTraces = l.stackTraces by rw [X.admits.platform]).trans hl
  have Y := vx_rebase X (R' := { frames := R.frames, locals := R.locals, cells := 1, slots := 6 }) (Nat.le_refl _) (Nat.le_refl _) hRcells hRslots
  obtain ⟨s', hA⟩ : ∃ z, z = (T.setVm s.vm).setFrames (.invoking m args :: below) := ⟨_, rfl⟩
  rw [← hA] at Y
  have hvm : s'.vm = s.vm := by rw [hA]; rfl
  have hhp : s'.heap = H := by rw [hA]; exact hT
  have hW0 : s.WarmedH s'.vm := by rw [hvm]; exact State.WarmedH.refl s
  have hat' : ∀ w ∈ vx_atS own ic cls names, w.before args s' = true := fun w hw => vx_ot_at hW0 hvm.symm (hgood w (List.mem_cons_of_mem _ (List.mem_cons_of_mem _ hw))) (hat w hw)
  have hk' : (Cond.classLink own ik cls).before args s' = true := vx_ot_at hW0 hvm.symm (hgood _ List.mem_cons_self) hk
  have hini' : (Cond.initialized cls).before args s' = true := vx_ot_at hW0 hvm.symm (hgood _ (List.mem_cons_of_mem _ List.mem_cons_self)) hini
  have hU' : vx_Zq Bundle.tN "UNASSIGNED_STACK" Bundle.steD A s' s'.heap := by rw [hhp]; exact vx_Zq.moved hW0.alike (hU.kept hS.2.1)
  have hN' : vx_Zq Bundle.tN "SUPPRESSED_SENTINEL" Bundle.listD A s' s'.heap := by rw [hhp]; exact vx_Zq.moved hW0.alike (hN.kept hS.2.1)
  have h : ∀ w ∈ Bundle.ownAtoms own ic cls names, w.before args s' = true := vx_own hat' (vx_isRefq hU'.1) (vx_isRefq hN'.1) hU'.2.word hN'.2.word
  have hown' : s'.vm.findClass own = some m.cls := by rw [hvm]; exact hown
  have hins : (Cond.instantiable cls 6).before args s' = true := h _ (by simp [Bundle.ownAtoms])
  obtain ⟨vm₁, cX, kX, hfX, hkX, -, -, X₁, st1⟩ := Y.newCold hexec (own := own) (C := cls) (index := ik) (n := 6) hown' hk' hins hini'
    (g := F0 m pc ls rest) rfl (by rw [hb]; exact d0) (Nat.le_refl _) (Nat.le_refl _)
  generalize hT1 : (T.setVm vm₁).pushCell { cls := cX, slots := kX.instanceTypes.map defaultValue, vm := .none } = T1 at X₁ st1
  have hcat : (Value.ref T.heap.size).category = 1 := rfl
  have hcellA : T1.heap[T.heap.size]? = some (freshCell cX kX) := by rw [← hT1]; exact State.heap_pushCell_size _ _
  have d3' : decode c.code (pc + 3) = .ok (.dup, 1) := by rw [hb]; exact d3
  have d4' : decode c.code (pc + 4) = .ok (.ldc is, 2) := by rw [hb]; exact d4
  have hstr' : vk_R own is text sa s' := vk_R.warm hW0 hstr
  obtain ⟨U, hsteps, hrun, hend, hW, hsame, ce, hce, hO⟩ := X₁.ctorThrowS hexec htr (own := own) (cls := cls) (names := names) (ic := ic) hown' hcls hnames h (fun x hx => nomatch hx) hfX hkX hcellA (by rw [hhp, hT]; exact Nat.le_refl _) (msg := .ref sa) rfl
    (g := { method := m, pc := pc + 6, locals := ls, stack := .ref sa :: .ref T.heap.size :: .ref T.heap.size :: rest, locked := none }) rfl hsize rfl rfl (rest := rest) rfl
    (by rw [hb]; exact d6) (by rw [hb]; exact d9) hout hRframes (by simp only [List.map_cons, List.sum_cons, hcat]; omega) hlocks
  obtain ⟨f1, f2⟩ := vx_frame hsame
  rw [hhp] at f1 f2
  have hWs : s.WarmedH U.vm := State.WarmedH.trans hW0 hW
  have hcl : s.vm.findClass cls = some ce.cls := by
    have h9 := hO.cls
    rw [hvm] at h9
    exact h9
  have hall : s.sameButNew ({ U with vm := s.vm } : State) locs mc ms := by
    subst hA
    obtain ⟨e1, e2⟩ := hsame
    rw [State.setFrames_setFrames] at e1
    have h2 : (T.setVm s.vm).sameButNew ({ U with vm := s.vm } : State) [] (0 + 1) (0 + 6) := ⟨e1, e2⟩
    have h3 := X.same.trans h2
    rw [List.append_nil] at h3
    exact h3.mono hc hs
  refine ⟨U, ?_, .threw T.heap.size, hrun, hend, Or.inr ⟨T.heap.size, rfl, cls, ce, locs, hx U hWs.alike f1 (fun q hq => f2 q hq (fun z hz => nomatch hz)), hce, hO.vm, hcl, hWs, hall, hf⟩⟩
  refine st1 _ ?_
  show Steps p.tables e below (T1.setTop { method := m, pc := pc + 3, locals := ls, stack := .ref T.heap.size :: rest, locked := none }) _
  jvm_step X₁.here [X₁.here.top, hexec, d3', Value.category]
  exact X₁.ldcString hexec (own := own) (text := text) (index := is) (a := sa) hown' hstr'.1 hstr'.2
    (g := { method := m, pc := pc + 4, locals := ls, stack := .ref T.heap.size :: .ref T.heap.size :: rest, locked := none }) rfl d4' _ hsteps
/-- 'throw new E("text")', the text by a wide index -/
theorem vx_throwSW {cc : ByteArray} {pc : Nat} (hexec : p.tables.exec = Jvm.exec) (hb : c.code = cc) (hl : l.stackTraces = false) {own cls text : String} {names : List String} {ik is ic mc ms sa : Nat} {A : Nat → Prop}
    (hown : s.vm.findClass own = some m.cls) (hcls : Bundle.fit cls = true) (hnames : ∀ n ∈ names, Bundle.fit n = true)
    (hk : (Cond.classLink own ik cls).before args s = true) (hini : (Cond.initialized cls).before args s = true) (hstr : vk_R own is text sa s) (hat : ∀ w ∈ vx_atS own ic cls names, w.before args s = true)
    (hgood : ∀ w ∈ Cond.classLink own ik cls :: Cond.initialized cls :: vx_atS own ic cls names, vx_ot w = true)
    (hU : vx_Zq Bundle.tN "UNASSIGNED_STACK" Bundle.steD A s s.heap) (hN : vx_Zq Bundle.tN "SUPPRESSED_SENTINEL" Bundle.listD A s s.heap) (hS : va_S A s.heap H locs) (hsize : ls.size = c.maxLocals)
    (d0 : decode cc pc = .ok (.new ik, 3)) (d3 : decode cc (pc + 3) = .ok (.dup, 1)) (d4 : decode cc (pc + 4) = .ok (.ldc_w is, 3)) (d7 : decode cc (pc + 7) = .ok (.invokespecial ic, 3)) (d10 : decode cc (pc + 10) = .ok (.athrow, 1))
    (hout : ∀ x ∈ c.exceptionTable.toList, covers x (pc + 10) = false)
    (hRframes : names.length + 3 < R.frames) (hRlocals : (rest.map fun v => v.category).sum + (13 * (names.length + 1) + 43) ≤ R.locals) (hRcells : cells + 1 ≤ R.cells) (hRslots : slots + 6 ≤ R.slots) (hlocks : meth.locks = false)
    (hx : ∀ t : State, s.vm.Alike t.vm → H.size ≤ t.heap.size → (∀ q : Nat, q < H.size → t.heap[q]? = H[q]?) → XC cls s t)
    (hf : ∀ z ∈ locs, free z.base) (hc : cells + 1 ≤ mc) (hs : slots + 6 ≤ ms) :
    W p l e R s m args below meth c H locs cells slots (vx_MQ below Qc XC args s mc ms free) (F0 m pc ls rest) := by
  intro T hT X
  have htr : e.platform.stackTraces = false := (show e.platform.stackTraces = l.stackTraces by rw [X.admits.platform]).trans hl
  have Y := vx_rebase X (R' := { frames := R.frames, locals := R.locals, cells := 1, slots := 6 }) (Nat.le_refl _) (Nat.le_refl _) hRcells hRslots
  obtain ⟨s', hA⟩ : ∃ z, z = (T.setVm s.vm).setFrames (.invoking m args :: below) := ⟨_, rfl⟩
  rw [← hA] at Y
  have hvm : s'.vm = s.vm := by rw [hA]; rfl
  have hhp : s'.heap = H := by rw [hA]; exact hT
  have hW0 : s.WarmedH s'.vm := by rw [hvm]; exact State.WarmedH.refl s
  have hat' : ∀ w ∈ vx_atS own ic cls names, w.before args s' = true := fun w hw => vx_ot_at hW0 hvm.symm (hgood w (List.mem_cons_of_mem _ (List.mem_cons_of_mem _ hw))) (hat w hw)
  have hk' : (Cond.classLink own ik cls).before args s' = true := vx_ot_at hW0 hvm.symm (hgood _ List.mem_cons_self) hk
  have hini' : (Cond.initialized cls).before args s' = true := vx_ot_at hW0 hvm.symm (hgood _ (List.mem_cons_of_mem _ List.mem_cons_self)) hini
  have hU' : vx_Zq Bundle.tN "UNASSIGNED_STACK" Bundle.steD A s' s'.heap := by rw [hhp]; exact vx_Zq.moved hW0.alike (hU.kept hS.2.1)
  have hN' : vx_Zq Bundle.tN "SUPPRESSED_SENTINEL" Bundle.listD A s' s'.heap := by rw [hhp]; exact vx_Zq.moved hW0.alike (hN.kept hS.2.1)
  have h : ∀ w ∈ Bundle.ownAtoms own ic cls names, w.before args s' = true := vx_own hat' (vx_isRefq hU'.1) (vx_isRefq hN'.1) hU'.2.word hN'.2.word
  have hown' : s'.vm.findClass own = some m.cls := by rw [hvm]; exact hown
  have hins : (Cond.instantiable cls 6).before args s' = true := h _ (by simp [Bundle.ownAtoms])
  obtain ⟨vm₁, cX, kX, hfX, hkX, -, -, X₁, st1⟩ := Y.newCold hexec (own := own) (C := cls) (index := ik) (n := 6) hown' hk' hins hini'
    (g := F0 m pc ls rest) rfl (by rw [hb]; exact d0) (Nat.le_refl _) (Nat.le_refl _)
  generalize hT1 : (T.setVm vm₁).pushCell { cls := cX, slots := kX.instanceTypes.map defaultValue, vm := .none } = T1 at X₁ st1
  have hcat : (Value.ref T.heap.size).category = 1 := rfl
  have hcellA : T1.heap[T.heap.size]? = some (freshCell cX kX) := by rw [← hT1]; exact State.heap_pushCell_size _ _
  have d3' : decode c.code (pc + 3) = .ok (.dup, 1) := by rw [hb]; exact d3
  have d4' : decode c.code (pc + 4) = .ok (.ldc_w is, 3) := by rw [hb]; exact d4
  have hstr' : vk_R own is text sa s' := vk_R.warm hW0 hstr
  obtain ⟨U, hsteps, hrun, hend, hW, hsame, ce, hce, hO⟩ := X₁.ctorThrowS hexec htr (own := own) (cls := cls) (names := names) (ic := ic) hown' hcls hnames h (fun x hx => nomatch hx) hfX hkX hcellA (by rw [hhp, hT]; exact Nat.le_refl _) (msg := .ref sa) rfl
    (g := { method := m, pc := pc + 7, locals := ls, stack := .ref sa :: .ref T.heap.size :: .ref T.heap.size :: rest, locked := none }) rfl hsize rfl rfl (rest := rest) rfl
    (by rw [hb]; exact d7) (by rw [hb]; exact d10) hout hRframes (by simp only [List.map_cons, List.sum_cons, hcat]; omega) hlocks
  obtain ⟨f1, f2⟩ := vx_frame hsame
  rw [hhp] at f1 f2
  have hWs : s.WarmedH U.vm := State.WarmedH.trans hW0 hW
  have hcl : s.vm.findClass cls = some ce.cls := by
    have h9 := hO.cls
    rw [hvm] at h9
    exact h9
  have hall : s.sameButNew ({ U with vm := s.vm } : State) locs mc ms := by
    subst hA
    obtain ⟨e1, e2⟩ := hsame
    rw [State.setFrames_setFrames] at e1
    have h2 : (T.setVm s.vm).sameButNew ({ U with vm := s.vm } : State) [] (0 + 1) (0 + 6) := ⟨e1, e2⟩
    have h3 := X.same.trans h2
    rw [List.append_nil] at h3
    exact h3.mono hc hs
  refine ⟨U, ?_, .threw T.heap.size, hrun, hend, Or.inr ⟨T.heap.size, rfl, cls, ce, locs, hx U hWs.alike f1 (fun q hq => f2 q hq (fun z hz => nomatch hz)), hce, hO.vm, hcl, hWs, hall, hf⟩⟩
  refine st1 _ ?_
  show Steps p.tables e below (T1.setTop { method := m, pc := pc + 3, locals := ls, stack := .ref T.heap.size :: rest, locked := none }) _
  jvm_step X₁.here [X₁.here.top, hexec, d3', Value.category]
  exact X₁.ldcStringW hexec (own := own) (text := text) (index := is) (a := sa) hown' hstr'.1 hstr'.2
    (g := { method := m, pc := pc + 4, locals := ls, stack := .ref T.heap.size :: .ref T.heap.size :: rest, locked := none }) rfl d4' _ hsteps
end Ends
section Bodies
variable {l : Launch}
theorem vx_ofW {y : MethodName} {ws ws' : List Cond} {rm : Room} {Pc : Array Value → State → Prop} {Qc : Array Value → State → Outcome → State → Prop} {XC : String → State → State → Prop} {mc ms : Nat} {free : Addr → Prop} {cc : ByteArray} {maxL : Nat} {ret : Option FieldType}
    (hy : plainName y.cls = true) (hw : ws = Cond.code y cc maxL ret :: ws')
    (body : ∀ p e s m args below meth c s₁, BodyLoose p l y (headSpec ws rm) cc maxL ret e s m args below meth c s₁ → c.maxLocals = maxL → (∀ x ∈ c.exceptionTable.toList, False) → Pc args s →
      W p l e (headSpec ws rm).room s m args below meth c s.heap [] 0 0 (vx_MQ below Qc XC args s mc ms free) (entryFrame m args maxL)) : vx_Met l y ws rm Pc Qc XC mc ms free := by
  refine MetFree.of_bodyS (code := cc) (maxLocals := maxL) (ret := ret) hy ?_ ?_
  · intro args s m h hn
    obtain ⟨meth, c, h1, h2, h3, h4, h5, h6, -, -⟩ := Cond.code_spec hn (atoms_spec (ws := ws) h _ (by rw [hw]; exact List.mem_cons_self))
    exact ⟨meth, c, h1, h2, h3, h4, h5, h6⟩
  · intro p e s m args below meth c s₁ B hml hP _
    have hh0 : s₁.heap = s.heap := by rw [B.state]; rfl
    have ht : ∀ x ∈ c.exceptionTable.toList, False := by
      obtain ⟨meth9, c9, h1, h2, -, -, -, -, h7, -⟩ := Cond.code_spec B.named (atoms_spec (ws := ws) B.pre _ (by rw [hw]; exact List.mem_cons_self))
      cases Option.some.inj (h1.symm.trans B.method)
      cases Option.some.inj (h2.symm.trans (Stand.of_body B).code)
      intro x hx
      rw [Array.isEmpty_iff.mp h7] at hx
      cases hx
    obtain ⟨t, a1, o, b1, b2, b3⟩ := body p e s m args below meth c s₁ B hml ht hP s₁ hh0 (Stand.of_body B)
    exact ⟨t, o, a1, b1, b2, b3⟩
/-- the table of a body with handlers -/
theorem vx_table {p : Program} {x y : MethodName} {S : Spec} {cc bytes : ByteArray} {maxL maxL' : Nat} {ret ret' : Option FieldType} {e : Env} {s s₁ : State} {m : MethodId} {args : Array Value} {below : List Frame} {meth : Method} {c : Code} {hh : List (Nat × Nat × Nat × Nat)}
    (B : BodyLoose p l y S cc maxL ret e s m args below meth c s₁) (h : (Cond.codeWith y bytes maxL' ret' hh).before args s = true) : c.exceptionTable.toList = tableOf hh := by
  obtain ⟨m9, meth9, c9, hn9, h1, h2, -, -, h6, -⟩ := Cond.codeWith_spec h
  cases Option.some.inj (hn9.symm.trans B.named)
  cases Option.some.inj (h1.symm.trans B.method)
  cases Option.some.inj (h2.symm.trans (Stand.of_body B).code)
  rw [← h6, table_eq]
end Bodies
end VXA
/-! ===== END ===== -/
/-! ===== BEGIN a static call of a method with an exception table ===== -/
section VXS
variable {p : Program} {l : Launch} {e : Env} {R : Room} {s : State} {m : MethodId} {args : Array Value} {below : List Frame} {meth : Method} {c : Code} {T : State} {H : Heap} {locs : List Loc} {cells slots : Nat}
abbrev vx_CSW (R : Room) (s : State) (args : Array Value) (own : String) (index : Nat) (y : MethodName) (bytes : ByteArray) (maxL : Nat) (ret : Option FieldType) (hh : List (Nat × Nat × Nat × Nat)) (ws : List Cond) (rm : Room) (mc ms n : Nat) : Prop :=
  (rm.cells = mc ∧ rm.slots = ms ∧ rm.frames + 1 ≤ R.frames ∧ 8 + (maxL + 11) + rm.locals ≤ R.locals ∧ (∀ w ∈ ws, ∀ (a' : Array Value) (U : State), s.WarmedH U.vm → w.before a' U = true) ∧ Cond.codeWith y bytes maxL ret hh ∈ ws) ∧
  (Cond.codeWith y bytes maxL ret hh).before args s = true ∧ (Cond.initialized y.cls).before args s = true ∧ (y.cls ≠ "java/lang/invoke/MethodHandle" ∧ y.cls ≠ "java/lang/invoke/VarHandle") ∧
  (∀ sig, parseMethodDescriptor y.desc = some sig → n = sig.parameters.length) ∧ (Cond.methodLink own index y).before args s = true ∧ (Cond.static y).before args s = true
theorem vx_cwSW {own : String} {index maxL mc ms : Nat} {y : MethodName} {bytes : ByteArray} {ret : Option FieldType} {hh : List (Nat × Nat × Nat × Nat)} {Ts ws ws' : List Cond} {rm : Room} (n : Nat) (ht : ∀ w ∈ Ts, w.before args s = true) (hT : GoodIn Ts (va_wsS own index y ws)) (hw : ws = Cond.codeWith y bytes maxL ret hh :: ws') (hrc : rm.cells = mc) (hrs : rm.slots = ms)
    (hd : y.cls ≠ "java/lang/invoke/MethodHandle" ∧ y.cls ≠ "java/lang/invoke/VarHandle" ∧ (parseMethodDescriptor y.desc).map (fun d => d.parameters.length) = some n) (hR : rm.frames + 1 ≤ R.frames ∧ 8 + (maxL + 11) + rm.locals ≤ R.locals) :
    vx_CSW R s args own index y bytes maxL ret hh ws rm mc ms n := by
  have ok : ∀ w ∈ va_wsS own index y ws, w.before args s = true := fun w h => ht w (hT w h).1
  have hG : GoodIn Ts ws := fun w h => hT w (by unfold va_wsS; exact List.mem_append_right _ h)
  have hc : Cond.codeWith y bytes maxL ret hh ∈ ws := by rw [hw]; exact List.mem_cons_self
  refine ⟨⟨hrc, hrs, hR.1, hR.2, pay_in ht hG, hc⟩, ht _ (hG _ hc).1, ok _ (by simp [va_wsS]), ⟨hd.1, hd.2.1⟩, fun sig h => ?_, ok _ (by simp [va_wsS]), ok _ (by simp [va_wsS])⟩
  have h2 := hd.2.2
  rw [h] at h2
  exact (Option.some.inj h2).symm
theorem vx_callSW (X : Stand p l e R s m args below meth c T locs cells slots) (hexec : p.tables.exec = Jvm.exec) {own : String} {index : Nat} {y : MethodName} {bytes : ByteArray} {maxL : Nat} {ret : Option FieldType} {hh : List (Nat × Nat × Nat × Nat)}
    (hown : s.vm.findClass own = some m.cls) (hlink : (Cond.methodLink own index y).before args s = true) (hstat : (Cond.static y).before args s = true) (hinit : (Cond.initialized y.cls).before args s = true)
    (hcode : (Cond.codeWith y bytes maxL ret hh).before args s = true) (hy : y.cls ≠ "java/lang/invoke/MethodHandle" ∧ y.cls ≠ "java/lang/invoke/VarHandle")
    {W9 : Nat} {Pre : Pt → Array Value → Prop} {Post : Pt → Array Value → Option Value → Pt → Prop} (hK : Back l R p e below s args y 3 W9 Pre Post)
    {g : JFrame} (hg : g.method = m) (hsize : g.locals.size = c.maxLocals) {argsL rest : List Value} (hlen : ∀ sig, parseMethodDescriptor y.desc = some sig → argsL.length = sig.parameters.length)
    (hstack : g.stack = argsL.reverse ++ rest) (hW : 2 * g.monitorRoom + (rest.map fun v => v.category).sum ≤ W9) (hdg : decode c.code g.pc = .ok (.invokestatic index, 3))
    (hpre : ∀ vm₁, s.WarmedH vm₁ → Pre ⟨T.setVm vm₁, locs, cells, slots⟩ argsL.toArray) :
    ∃ (v : Option Value) (vm₁ : Vm) (B : Pt), s.WarmedH vm₁ ∧ Stand p l e R s m args below meth c B.U B.locs B.cells B.slots ∧ Post ⟨T.setVm vm₁, locs, cells, slots⟩ argsL.toArray v B ∧
      ∀ target, Steps p.tables e below (B.U.setTop { g with pc := g.pc + 3, stack := v.toList ++ rest }) target → Steps p.tables e below (T.setTop g) target := by
  obtain ⟨mk, methM, cM, hnamed, hmethM, -, -, -, -, -, -, hsigM⟩ := Cond.codeWith_spec hcode
  have hstatic : methM.isStatic = true := Cond.static_spec hnamed hmethM hstat
  obtain ⟨kP, hkP, -⟩ := className_of_methodNamed hnamed
  have hinitP : kP.init = .initialized := Cond.initialized_spec (findClass_of_methodNamed hnamed) hkP hinit
  obtain ⟨vm₁, X₁, hstep₁⟩ := X.invokestatic hexec hown hlink hnamed hmethM hstatic hkP hinitP hy (g := g) hg (argsL := argsL) (rest := rest) (hlen _ hsigM) hstack hdg
  obtain ⟨v, B, X', hpost, hsteps⟩ := hK m meth c ⟨T.setVm vm₁, locs, cells, slots⟩ { g with stack := rest } (.invokestatic index) mk argsL.toArray X₁ hg hsize hdg hW (X₁.named hnamed) (hpre vm₁ X₁.warmed)
  exact ⟨v, vm₁, B, X₁.warmed, X', hpost, fun target h => hstep₁ _ fun acts => by rw [doInvoke_state]; exact hsteps.trans h⟩
theorem vx_runSW {y : MethodName} {bytes cc : ByteArray} {maxL nL mc ms n index : Nat} {ret : Option FieldType} {hh : List (Nat × Nat × Nat × Nat)} {ws : List Cond} {rm : Room} {Pc : Array Value → State → Prop} {Qc : Array Value → State → Outcome → State → Prop} {free : Addr → Prop} {Ts : List Cond} {own : String} {As rest : List Value} {g : JFrame}
    (S : CallFix p m c cc nL s args Ts own) (hM : Met l y ws rm Pc Qc mc ms free) (cw : vx_CSW R s args own index y bytes maxL ret hh ws rm mc ms n) (hp : PreS s H Pc As)
    (hg : g.method = m) (hn : As.length = n) (hsize : g.locals.size = nL) (hstack : g.stack = As.reverse ++ rest) (hW : 2 * g.monitorRoom + (rest.map fun v => v.category).sum ≤ 8) (hdg : decode cc g.pc = .ok (.invokestatic index, 3)) (hf : cells + mc ≤ R.cells ∧ slots + ms ≤ R.slots) :
    va_Run p l e R s m args below meth c H locs cells slots mc ms g rest (Qc As.toArray) (free) := by
  obtain ⟨⟨hrc, hrs, hfr, hlo, hws, hcw⟩, hcode, hini, hy, hlen, hl, hstt⟩ := cw
  have hK : Back l R p e below s args y 3 8 (PreOf R mc ms Pc) (PostOf Qc mc ms free) := va_backW (hh := hh) (bytes := bytes) (maxL := maxL) (ret := ret) hM hp.1 hrc hrs hfr hlo hws hcw (fun a' U hW => word_at hW (Or.inl (by first | rfl | simp [Cond.onTables, Cond.keeps, Cond.steady])) hini)
  obtain ⟨hx, hb, hml, ho, -⟩ := S
  intro T hT X
  obtain ⟨v, vm₁, ⟨U', l2, c2, s2⟩, hW₁, X', ⟨g', mk, t, L, e1, e2, hq, h1, hL, h2, h3⟩, st⟩ := vx_callSW X hx (hh := hh) (bytes := bytes) (maxL := maxL) (ret := ret) ho hl hstt hini hcode hy hK hg (hsize.trans hml.symm) (argsL := As) (rest := rest) (fun sig h => hn.trans (hlen sig h)) hstack hW (by rw [hb]; exact hdg)
    (fun vm₁ hW₁ => ⟨hf.1, hf.2, hp.2 (T.setVm vm₁) hT hW₁⟩)
  dsimp only [Pt.U, Pt.locs, Pt.cells, Pt.slots] at X' e1 e2 h1 h2 h3 st
  subst h1; subst h2; subst h3
  exact ⟨v, (T.setVm vm₁).calling g' mk As.toArray, t, U', L, hT, X', hL, e1, e2, hq, st⟩
/-- not caught here, past rows that name other classes: it goes on to the caller -/
theorem vx_outP {p : Program} {l : Launch} {e : Env} {R : Room} {s : State} {m : MethodId} {args : Array Value} {below : List Frame} {meth : Method} {c : Code} {H : Heap} {locs : List Loc} {cells slots : Nat} {free : Addr → Prop} {ls : Array Slot} {rest : List Value} {Qc : Array Value → State → Outcome → State → Prop} {XC : String → State → State → Prop}
    {pc : Nat} {own E : String} {ce : Cell} {q : Addr} {mc ms : Nat} (hown : s.vm.findClass own = some m.cls) (hlocks : meth.locks = false)
    (hpass : ∀ z ∈ c.exceptionTable.toList, covers z pc = false ∨ (z.catchType ≠ 0 ∧ ∃ nm : String, (Cond.classLink own z.catchType nm).before args s = true ∧ va_Nc E nm s)) (hcell : H[q]? = some ce) (hv : ce.vm = .none) (hcl : s.vm.findClass E = some ce.cls)
    (hx : ∀ t : State, t.heap = H → s.vm.Alike t.vm → XC E s t) (hf : ∀ z ∈ locs, free z.base) (hc : cells ≤ mc) (hs : slots ≤ ms) :
    vx_W p l e R s m args below meth c H locs cells slots (vx_MQ below Qc XC args s mc ms free) (F0 m pc ls rest) q := by
  intro T hT X
  have hpl : e.platform.magicAccessors = ({} : Platform).magicAccessors := by rw [X.admits.platform]
  obtain ⟨vm', hW', X', st⟩ := X.outThrough hlocks q (g := F0 m pc ls rest) rfl rfl rfl (cell := ce) (by rw [hT]; exact hcell) (by rw [hv]; rfl)
    (by obtain ⟨k9, h9, -⟩ := Vm.findClass_spec hcl; exact ⟨k9, h9⟩) (fun z hz => by
      rcases hpass z hz with h | ⟨hz0, nm, hl1, hn1⟩
      · exact Or.inl h
      · obtain ⟨c6, hc6, hcl6⟩ := Cond.classLink_spec hown hl1 e.platform hpl
        obtain ⟨a8, b8, h1, h2, h3⟩ := hn1
        cases Option.some.inj (h1.symm.trans hcl)
        cases Option.some.inj (h2.symm.trans hc6)
        exact Or.inr ⟨hz0, _, hcl6, h3⟩)
  obtain ⟨g₀, hfr⟩ := X'.frames_eq
  have hcell9 : ((T.setVm vm').setFrames (.throwing q :: below)).heap[q]? = some ce := by
    show T.heap[q]? = some ce
    rw [hT]; exact hcell
  have hend : Ended ((T.setVm vm').setFrames (.throwing q :: below)) below (.threw q) := State.frames_setFrames _ (State.cur_lt_of_frames hfr)
  refine ⟨(T.setVm vm').setFrames (.throwing q :: below), ?_, .threw q, X'.here.running, hend, Or.inr ⟨q, rfl, E, ce, locs, hx _ hT (X'.ends _).1.alike, hcell9, hv, hcl, (X'.ends _).1, (X'.ends _).2.mono hc hs, hf⟩⟩
  rw [X.pushThrowing_eq]
  exact st
/-- a thing of a world lies in the heap -/
theorem vx_lt {D : va_G} {cl : List vw_C} {ws : va_W} {H1 : Heap} (h : va_P D cl ws H1) {k : Nat} {q : Nat × va_E} (hk : ws[k]? = some q) : q.1 < H1.size := (h k q hk).lt
end VXS
/-! ===== END ===== -/
/-! ===== BEGIN methods with a table of their own: called by a name, returning or throwing ===== -/
section VXH
/-! vx_backW, vx_callVX, vx_callSX, vx_callVW, vx_runVW, vx_runVX, vx_runSX, vx_ofWH follow the same proofs as their sisters above (Free/Laws.lean, Shelf42/LK1.lean); vx_outP calls Shelf42/NT130.lean (outThrough). -/
section
variable {l : Launch} {R : Room} {p : Program} {e : Env} {below : List Frame} {s : State} {sargs : Array Value} {y : MethodName} {len W9 : Nat}
theorem vx_backW {ws : List Cond} {rm : Room} {Pc : Array Value → State → Prop} {Qc : Array Value → State → Outcome → State → Prop} {XC : String → State → State → Prop} {mc ms : Nat} {free : Addr → Prop} {bytes : ByteArray} {maxL : Nat} {ret : Option FieldType} {hh : List (Nat × Nat × Nat × Nat)}
    (hM : vx_Met l y ws rm Pc Qc XC mc ms free) (hblind : FrameBlind Pc) (hrc : rm.cells = mc) (hrs : rm.slots = ms)
    (hframes : rm.frames + 1 ≤ R.frames) (hlocals : W9 + (maxL + 11) + rm.locals ≤ R.locals)
    (hws : ∀ w ∈ ws, ∀ a' U, s.WarmedH U.vm → w.before a' U = true) (hcode : Cond.codeWith y bytes maxL ret hh ∈ ws) (hinit : ∀ a' U, s.WarmedH U.vm → (Cond.initialized y.cls).before a' U = true) :
    vx_Back l R p e below s sargs y len W9 (PreOf R mc ms Pc) (PostOf Qc mc ms free) (vx_Post XC mc ms free) := by
  intro m meth c A g ig mk a X hg hsize hdg hW hn hp
  have h1 : (headSpec ws rm).pre.before a A.U = true := atoms_intro fun w hw => hws w hw _ _ X.warmed
  have h2 : (Cond.codeWith y bytes maxL ret hh).before a A.U = true := hws _ hcode _ _ X.warmed
  have h3 : (Cond.initialized y.cls).before a A.U = true := hinit _ _ X.warmed
  have h4 : A.cells + (headSpec ws rm).room.cells ≤ R.cells := by rw [show (headSpec ws rm).room.cells = mc from hrc]; exact hp.1
  have h5 : A.slots + (headSpec ws rm).room.slots ≤ R.slots := by rw [show (headSpec ws rm).room.slots = ms from hrs]; exact hp.2.1
  have hPc : Pc a (A.U.calling g mk a) := hblind _ _ _ _ hp.2.2
  obtain ⟨U, Ls, c0, s0⟩ := A
  dsimp only [Pt.U, Pt.locs, Pt.cells, Pt.slots] at h1 h2 h3 h4 h5 X hn hPc ⊢
  obtain ⟨m9, methY, cY, hn9, hmY, hcY, -, hlY, -⟩ := Cond.codeWith_spec h2
  cases Option.some.inj (hn9.symm.trans hn)
  obtain ⟨kY, hkY, -⟩ := className_of_methodNamed hn
  have hinitY : kY.init = .initialized := Cond.initialized_spec (findClass_of_methodNamed hn) hkY h3
  have h : At U g.method c below := by rw [hg]; exact X.here
  have hlocals9 : W9 + (maxL + 11) + (headSpec ws rm).room.locals ≤ R.locals := hlocals
  have happ : (headSpec ws rm).appliesLoose y e.platform (U.calling g mk a) = true :=
    Spec.appliesLoose_calling (g := g) h hdg hn hkY hinitY
      (X.room_calling (g := g) (R' := (headSpec ws rm).room) hsize hmY hcY hframes (by rw [hlY]; omega) h4 h5) h1
  obtain ⟨mid, hmid⟩ := h.above
  have hfr : (U.setTop g).frames = (.java g :: mid) ++ below := by rw [State.frames_setTop' g h.top, hmid]; rfl
  obtain ⟨o, s₂, hsteps, -, hend, hq⟩ := Steps.callFree hM p X.admits X.cas X.clock (acts := []) hfr happ hPc trivial
  have hq' : vx_Q Qc XC mc ms free a (U.calling g mk a) o s₂ := hq
  rw [State.frames_setTop' g h.top] at hend
  obtain ⟨g₀, hg0⟩ := Option.isSome_iff_exists.mp h.top
  obtain ⟨r, hr⟩ := State.topJava?_eq_some.mp hg0
  have hr' : (({ U with heap := s₂.heap, slotsUsed := s₂.slotsUsed } : State).setVm s₂.vm).frames = .java g₀ :: r := hr
  rcases hq' with ⟨hqc, L, hfe, hL⟩ | ⟨q, rfl, E, ce, L, hx, hce, hcv, hcl, hW₂, hsm, hL⟩
  · obtain ⟨⟨v, rfl⟩, hW₂, e2, q2, q3, q4, q5, q6⟩ := id hfe
    have e3 : s₂ = ({ (U.calling g mk a).setFrames s₂.frames with heap := s₂.heap, slotsUsed := s₂.slotsUsed } : State).setVm s₂.vm := by
      have : s₂ = ({ s₂ with vm := (U.calling g mk a).vm } : State).setVm s₂.vm := rfl
      rw [e2] at this
      exact this
    obtain ⟨c₂, i₂, len₂, hc₂, hd₂, hf₂⟩ := hend
    have hW' : U.WarmedH s₂.vm := hW₂
    have hcc : c₂ = c := by
      have h1 : s₂.code? g.method = U.code? g.method := by
        rw [State.code?_eq, State.code?_eq, hW'.alike.method?]
      exact Option.some.inj (hc₂.symm.trans (h1.trans h.code))
    subst hcc
    have hlen : len₂ = len := by rw [hdg] at hd₂; cases hd₂; rfl
    subst hlen
    have hs₂ : s₂ = (({ U with heap := s₂.heap, slotsUsed := s₂.slotsUsed } : State).setVm s₂.vm).setTop { g with pc := g.pc + len₂, stack := v.toList ++ g.stack } := by
      refine e3.trans ?_
      rw [hf₂, State.calling_eq h.top, State.setFrames_setFrames, State.setTop_of_frames _ hr', hr]
      rfl
    have hsame : U.sameButNew ({ U with heap := s₂.heap, slotsUsed := s₂.slotsUsed } : State) L mc ms := by
      refine ⟨?_, q2, q3, q4, q5, q6⟩
      obtain ⟨t, ht, -⟩ := State.frames_cons hr
      show ({ U with heap := s₂.heap, slotsUsed := s₂.slotsUsed } : State) = { U.setFrames U.frames with heap := s₂.heap, slotsUsed := s₂.slotsUsed }
      rw [State.setFrames_self ht]
    subst hg
    refine Or.inl ⟨v, ⟨(({ U with heap := s₂.heap, slotsUsed := s₂.slotsUsed } : State).setVm s₂.vm), Ls ++ L, c0 + mc, s0 + ms⟩,
      ⟨X.admits, X.cas, X.clock, X.frames, X.room, X.hears, X.method, X.code, (X.here.setHeapUsed s₂.heap s₂.slotsUsed).setVm hW'.alike, X.tail, State.WarmedH.trans X.warmed hW', X.limits, X.bytes, X.same.trans (hsame.setVm s.vm)⟩,
      ⟨g, mk, s₂, L, rfl, rfl, hqc, rfl, hL, rfl, rfl⟩, ?_⟩
    show Steps p.tables e below _ ((({ U with heap := s₂.heap, slotsUsed := s₂.slotsUsed } : State).setVm s₂.vm).setTop { g with pc := g.pc + len₂, stack := v.toList ++ g.stack })
    rw [← hs₂]
    exact hsteps
  · obtain ⟨e2, q2, q3, q4, q5, q6⟩ := id hsm
    have e3 : s₂ = ({ (U.calling g mk a).setFrames s₂.frames with heap := s₂.heap, slotsUsed := s₂.slotsUsed } : State).setVm s₂.vm := by
      have : s₂ = ({ s₂ with vm := (U.calling g mk a).vm } : State).setVm s₂.vm := rfl
      rw [e2] at this
      exact this
    have hf₂ : s₂.frames = .throwing q :: .java g :: U.frames.tail := hend
    have hW' : U.WarmedH s₂.vm := hW₂
    have hs₂ : s₂ = ((({ U with heap := s₂.heap, slotsUsed := s₂.slotsUsed } : State).setVm s₂.vm).setTop g).pushFrame (.throwing q) := by
      refine e3.trans ?_
      rw [hf₂, State.calling_eq h.top, State.setFrames_setFrames, State.pushFrame, State.frames_setTop _ hr', State.setTop_of_frames _ hr', State.setFrames_setFrames, hr]
      rfl
    have hsame : U.sameButNew ({ U with heap := s₂.heap, slotsUsed := s₂.slotsUsed } : State) L mc ms := by
      refine ⟨?_, q2, q3, q4, q5, q6⟩
      obtain ⟨t, ht, -⟩ := State.frames_cons hr
      show ({ U with heap := s₂.heap, slotsUsed := s₂.slotsUsed } : State) = { U.setFrames U.frames with heap := s₂.heap, slotsUsed := s₂.slotsUsed }
      rw [State.setFrames_self ht]
    subst hg
    refine Or.inr ⟨q, ⟨(({ U with heap := s₂.heap, slotsUsed := s₂.slotsUsed } : State).setVm s₂.vm), Ls ++ L, c0 + mc, s0 + ms⟩,
      ⟨X.admits, X.cas, X.clock, X.frames, X.room, X.hears, X.method, X.code, (X.here.setHeapUsed s₂.heap s₂.slotsUsed).setVm hW'.alike, X.tail, State.WarmedH.trans X.warmed hW', X.limits, X.bytes, X.same.trans (hsame.setVm s.vm)⟩,
      ⟨g, mk, s₂, L, E, ce, rfl, rfl, hx, hce, hcv, hcl, rfl, hL, rfl, rfl⟩, ?_⟩
    show Steps p.tables e below _ (((({ U with heap := s₂.heap, slotsUsed := s₂.slotsUsed } : State).setVm s₂.vm).setTop g).pushFrame (.throwing q))
    rw [← hs₂]
    exact hsteps
end
variable {p : Program} {l : Launch} {e : Env} {R : Room} {s : State} {m : MethodId} {args : Array Value} {below : List Frame} {meth : Method} {c : Code} {T : State} {H : Heap} {locs : List Loc} {cells slots : Nat}
theorem vx_callVX (X : Stand p l e R s m args below meth c T locs cells slots) (hexec : p.tables.exec = Jvm.exec) {own C : String} {index : Nat} {y : MethodName} {bytes : ByteArray} {maxL : Nat} {ret : Option FieldType} {hh : List (Nat × Nat × Nat × Nat)}
    (hown : s.vm.findClass own = some m.cls) (hlink : (Cond.methodLink own index y).before args s = true) (hinst : (Cond.instanceMethod y).before args s = true) (hsel : (Cond.selects C y y).before args s = true)
    (hcode : (Cond.codeWith y bytes maxL ret hh).before args s = true) (hy : y.cls ≠ "java/lang/invoke/MethodHandle" ∧ y.cls ≠ "java/lang/invoke/VarHandle")
    {W9 : Nat} {Pre : Pt → Array Value → Prop} {Post : Pt → Array Value → Option Value → Pt → Prop} {PostX : Pt → Array Value → Addr → Pt → Prop} (hK : vx_Back l R p e below s args y 3 W9 Pre Post PostX)
    {b : Addr} {cellB : Cell} (hcell : T.heap[b]? = some cellB) (hobj : cellB.vm.isStatics = false) (hcls : s.vm.findClass C = some cellB.cls)
    {g : JFrame} (hg : g.method = m) (hsize : g.locals.size = c.maxLocals) {argsL rest : List Value} (hlen : ∀ sig, parseMethodDescriptor y.desc = some sig → argsL.length = sig.parameters.length)
    (hstack : g.stack = argsL.reverse ++ .ref b :: rest) (hW : 2 * g.monitorRoom + (rest.map fun v => v.category).sum ≤ W9) (hdg : decode c.code g.pc = .ok (.invokevirtual index, 3))
    (hpre : ∀ vm₁, s.WarmedH vm₁ → Pre ⟨T.setVm vm₁, locs, cells, slots⟩ (Value.ref b :: argsL).toArray) :
    (∃ (v : Option Value) (vm₁ : Vm) (B : Pt), s.WarmedH vm₁ ∧ Stand p l e R s m args below meth c B.U B.locs B.cells B.slots ∧ Post ⟨T.setVm vm₁, locs, cells, slots⟩ (Value.ref b :: argsL).toArray v B ∧
      ∀ target, Steps p.tables e below (B.U.setTop { g with pc := g.pc + 3, stack := v.toList ++ rest }) target → Steps p.tables e below (T.setTop g) target) ∨
    (∃ (q : Addr) (vm₁ : Vm) (B : Pt), s.WarmedH vm₁ ∧ Stand p l e R s m args below meth c B.U B.locs B.cells B.slots ∧ PostX ⟨T.setVm vm₁, locs, cells, slots⟩ (Value.ref b :: argsL).toArray q B ∧
      Steps p.tables e below (T.setTop g) ((B.U.setTop { g with stack := rest }).pushFrame (.throwing q))) := by
  obtain ⟨mk, methM, hnamed, hmethM, hstM, habM⟩ := Cond.instanceMethod_spec hinst
  obtain ⟨m8, methM', cM, hn8, hmethM', -, -, -, -, -, -, hsigM⟩ := Cond.codeWith_spec hcode
  cases Option.some.inj (hn8.symm.trans hnamed)
  cases hmethM.symm.trans hmethM'
  obtain ⟨c2, r2, m2, q1, q2, q3, q4, kP, hkP, hkPi⟩ := Cond.selects_spec hsel
  cases hcls.symm.trans q1
  cases (State.methodFound?_of_named hnamed hy).symm.trans q2
  cases hnamed.symm.trans q3
  have hselP : selectMethod e.platform s.vm cellB.cls mk = .method mk := by rw [Launch.admits_selectMethod X.admits]; exact q4
  obtain ⟨vm₁, X₁, hstep₁⟩ := X.invokevirtual hexec hown hlink hnamed hmethM hstM hkP hkPi hy (a := b) (cell := cellB) hcell
    (fun z h => by rw [h] at hobj; cases hobj) hselP hmethM habM hkP hkPi (g := g) hg (argsL := argsL) (rest := rest) (hlen _ hsigM) hstack hdg
  rcases hK m meth c ⟨T.setVm vm₁, locs, cells, slots⟩ { g with stack := rest } (.invokevirtual index) mk (Value.ref b :: argsL).toArray X₁ hg hsize hdg hW (X₁.named hnamed) (hpre vm₁ X₁.warmed) with ⟨v, B, X', hpost, hsteps⟩ | ⟨q, B, X', hpost, hsteps⟩
  · exact Or.inl ⟨v, vm₁, B, X₁.warmed, X', hpost, fun target h => hstep₁ _ fun acts => by rw [doInvoke_state]; exact hsteps.trans h⟩
  · exact Or.inr ⟨q, vm₁, B, X₁.warmed, X', hpost, hstep₁ _ fun acts => by rw [doInvoke_state]; exact hsteps⟩
theorem vx_callSX (X : Stand p l e R s m args below meth c T locs cells slots) (hexec : p.tables.exec = Jvm.exec) {own : String} {index : Nat} {y : MethodName} {bytes : ByteArray} {maxL : Nat} {ret : Option FieldType} {hh : List (Nat × Nat × Nat × Nat)}
    (hown : s.vm.findClass own = some m.cls) (hlink : (Cond.methodLink own index y).before args s = true) (hstat : (Cond.static y).before args s = true) (hinit : (Cond.initialized y.cls).before args s = true)
    (hcode : (Cond.codeWith y bytes maxL ret hh).before args s = true) (hy : y.cls ≠ "java/lang/invoke/MethodHandle" ∧ y.cls ≠ "java/lang/invoke/VarHandle")
    {W9 : Nat} {Pre : Pt → Array Value → Prop} {Post : Pt → Array Value → Option Value → Pt → Prop} {PostX : Pt → Array Value → Addr → Pt → Prop} (hK : vx_Back l R p e below s args y 3 W9 Pre Post PostX)
    {g : JFrame} (hg : g.method = m) (hsize : g.locals.size = c.maxLocals) {argsL rest : List Value} (hlen : ∀ sig, parseMethodDescriptor y.desc = some sig → argsL.length = sig.parameters.length)
    (hstack : g.stack = argsL.reverse ++ rest) (hW : 2 * g.monitorRoom + (rest.map fun v => v.category).sum ≤ W9) (hdg : decode c.code g.pc = .ok (.invokestatic index, 3))
    (hpre : ∀ vm₁, s.WarmedH vm₁ → Pre ⟨T.setVm vm₁, locs, cells, slots⟩ argsL.toArray) :
    (∃ (v : Option Value) (vm₁ : Vm) (B : Pt), s.WarmedH vm₁ ∧ Stand p l e R s m args below meth c B.U B.locs B.cells B.slots ∧ Post ⟨T.setVm vm₁, locs, cells, slots⟩ argsL.toArray v B ∧
      ∀ target, Steps p.tables e below (B.U.setTop { g with pc := g.pc + 3, stack := v.toList ++ rest }) target → Steps p.tables e below (T.setTop g) target) ∨
    (∃ (q : Addr) (vm₁ : Vm) (B : Pt), s.WarmedH vm₁ ∧ Stand p l e R s m args below meth c B.U B.locs B.cells B.slots ∧ PostX ⟨T.setVm vm₁, locs, cells, slots⟩ argsL.toArray q B ∧
      Steps p.tables e below (T.setTop g) ((B.U.setTop { g with stack := rest }).pushFrame (.throwing q))) := by
  obtain ⟨mk, methM, cM, hnamed, hmethM, -, -, -, -, -, -, hsigM⟩ := Cond.codeWith_spec hcode
  have hstatic : methM.isStatic = true := Cond.static_spec hnamed hmethM hstat
  obtain ⟨kP, hkP, -⟩ := className_of_methodNamed hnamed
  have hinitP : kP.init = .initialized := Cond.initialized_spec (findClass_of_methodNamed hnamed) hkP hinit
  obtain ⟨vm₁, X₁, hstep₁⟩ := X.invokestatic hexec hown hlink hnamed hmethM hstatic hkP hinitP hy (g := g) hg (argsL := argsL) (rest := rest) (hlen _ hsigM) hstack hdg
  rcases hK m meth c ⟨T.setVm vm₁, locs, cells, slots⟩ { g with stack := rest } (.invokestatic index) mk argsL.toArray X₁ hg hsize hdg hW (X₁.named hnamed) (hpre vm₁ X₁.warmed) with ⟨v, B, X', hpost, hsteps⟩ | ⟨q, B, X', hpost, hsteps⟩
  · exact Or.inl ⟨v, vm₁, B, X₁.warmed, X', hpost, fun target h => hstep₁ _ fun acts => by rw [doInvoke_state]; exact hsteps.trans h⟩
  · exact Or.inr ⟨q, vm₁, B, X₁.warmed, X', hpost, hstep₁ _ fun acts => by rw [doInvoke_state]; exact hsteps⟩
theorem vx_callVW (X : Stand p l e R s m args below meth c T locs cells slots) (hexec : p.tables.exec = Jvm.exec) {own C : String} {index : Nat} {y : MethodName} {bytes : ByteArray} {maxL : Nat} {ret : Option FieldType} {hh : List (Nat × Nat × Nat × Nat)}
    (hown : s.vm.findClass own = some m.cls) (hlink : (Cond.methodLink own index y).before args s = true) (hinst : (Cond.instanceMethod y).before args s = true) (hsel : (Cond.selects C y y).before args s = true)
    (hcode : (Cond.codeWith y bytes maxL ret hh).before args s = true) (hy : y.cls ≠ "java/lang/invoke/MethodHandle" ∧ y.cls ≠ "java/lang/invoke/VarHandle")
    {W9 : Nat} {Pre : Pt → Array Value → Prop} {Post : Pt → Array Value → Option Value → Pt → Prop} (hK : Back l R p e below s args y 3 W9 Pre Post)
    {b : Addr} {cellB : Cell} (hcell : T.heap[b]? = some cellB) (hobj : cellB.vm.isStatics = false) (hcls : s.vm.findClass C = some cellB.cls)
    {g : JFrame} (hg : g.method = m) (hsize : g.locals.size = c.maxLocals) {argsL rest : List Value} (hlen : ∀ sig, parseMethodDescriptor y.desc = some sig → argsL.length = sig.parameters.length)
    (hstack : g.stack = argsL.reverse ++ .ref b :: rest) (hW : 2 * g.monitorRoom + (rest.map fun v => v.category).sum ≤ W9) (hdg : decode c.code g.pc = .ok (.invokevirtual index, 3))
    (hpre : ∀ vm₁, s.WarmedH vm₁ → Pre ⟨T.setVm vm₁, locs, cells, slots⟩ (Value.ref b :: argsL).toArray) :
    ∃ (v : Option Value) (vm₁ : Vm) (B : Pt), s.WarmedH vm₁ ∧ Stand p l e R s m args below meth c B.U B.locs B.cells B.slots ∧ Post ⟨T.setVm vm₁, locs, cells, slots⟩ (Value.ref b :: argsL).toArray v B ∧
      ∀ target, Steps p.tables e below (B.U.setTop { g with pc := g.pc + 3, stack := v.toList ++ rest }) target → Steps p.tables e below (T.setTop g) target := by
  obtain ⟨mk, methM, hnamed, hmethM, hstM, habM⟩ := Cond.instanceMethod_spec hinst
  obtain ⟨m8, methM', cM, hn8, hmethM', -, -, -, -, -, -, hsigM⟩ := Cond.codeWith_spec hcode
  cases Option.some.inj (hn8.symm.trans hnamed)
  cases hmethM.symm.trans hmethM'
  obtain ⟨c2, r2, m2, q1, q2, q3, q4, kP, hkP, hkPi⟩ := Cond.selects_spec hsel
  cases hcls.symm.trans q1
  cases (State.methodFound?_of_named hnamed hy).symm.trans q2
  cases hnamed.symm.trans q3
  have hselP : selectMethod e.platform s.vm cellB.cls mk = .method mk := by rw [Launch.admits_selectMethod X.admits]; exact q4
  obtain ⟨vm₁, X₁, hstep₁⟩ := X.invokevirtual hexec hown hlink hnamed hmethM hstM hkP hkPi hy (a := b) (cell := cellB) hcell
    (fun z h => by rw [h] at hobj; cases hobj) hselP hmethM habM hkP hkPi (g := g) hg (argsL := argsL) (rest := rest) (hlen _ hsigM) hstack hdg
  obtain ⟨v, B, X', hpost, hsteps⟩ := hK m meth c ⟨T.setVm vm₁, locs, cells, slots⟩ { g with stack := rest } (.invokevirtual index) mk (Value.ref b :: argsL).toArray X₁ hg hsize hdg hW (X₁.named hnamed) (hpre vm₁ X₁.warmed)
  exact ⟨v, vm₁, B, X₁.warmed, X', hpost, fun target h => hstep₁ _ fun acts => by rw [doInvoke_state]; exact hsteps.trans h⟩
abbrev vx_CVW (R : Room) (s : State) (args : Array Value) (own C : String) (index : Nat) (y : MethodName) (bytes : ByteArray) (maxL : Nat) (ret : Option FieldType) (hh : List (Nat × Nat × Nat × Nat)) (ws : List Cond) (rm : Room) (mc ms n : Nat) : Prop :=
  (rm.cells = mc ∧ rm.slots = ms ∧ rm.frames + 1 ≤ R.frames ∧ 8 + (maxL + 11) + rm.locals ≤ R.locals ∧ (∀ w ∈ ws, ∀ (a' : Array Value) (U : State), s.WarmedH U.vm → w.before a' U = true) ∧ Cond.codeWith y bytes maxL ret hh ∈ ws) ∧
  (Cond.codeWith y bytes maxL ret hh).before args s = true ∧ (Cond.initialized y.cls).before args s = true ∧ (y.cls ≠ "java/lang/invoke/MethodHandle" ∧ y.cls ≠ "java/lang/invoke/VarHandle") ∧
  (∀ sig, parseMethodDescriptor y.desc = some sig → n = sig.parameters.length) ∧ (Cond.methodLink own index y).before args s = true ∧ (Cond.instanceMethod y).before args s = true ∧ (Cond.selects C y y).before args s = true
theorem vx_cwVW {own C : String} {index maxL mc ms : Nat} {y : MethodName} {bytes : ByteArray} {ret : Option FieldType} {hh : List (Nat × Nat × Nat × Nat)} {Ts ws ws' : List Cond} {rm : Room} (n : Nat) (ht : ∀ w ∈ Ts, w.before args s = true) (hT : GoodIn Ts (wsV own index C y ws)) (hw : ws = Cond.codeWith y bytes maxL ret hh :: ws') (hrc : rm.cells = mc) (hrs : rm.slots = ms)
    (hd : y.cls = C ∧ y.cls ≠ "java/lang/invoke/MethodHandle" ∧ y.cls ≠ "java/lang/invoke/VarHandle" ∧ (parseMethodDescriptor y.desc).map (fun d => d.parameters.length) = some n) (hR : rm.frames + 1 ≤ R.frames ∧ 8 + (maxL + 11) + rm.locals ≤ R.locals) :
    vx_CVW R s args own C index y bytes maxL ret hh ws rm mc ms n := by
  obtain ⟨hC, hd⟩ := hd
  subst hC
  have ok : ∀ w ∈ wsV own index y.cls y ws, w.before args s = true := fun w h => ht w (hT w h).1
  have hG : GoodIn Ts ws := fun w h => hT w (by unfold wsV; exact List.mem_append_right _ h)
  have hc : Cond.codeWith y bytes maxL ret hh ∈ ws := by rw [hw]; exact List.mem_cons_self
  refine ⟨⟨hrc, hrs, hR.1, hR.2, pay_in ht hG, hc⟩, ht _ (hG _ hc).1, ok _ (by simp [wsV]), ⟨hd.1, hd.2.1⟩, fun sig h => ?_, ok _ (by simp [wsV]), ok _ (by simp [wsV]), ok _ (by simp [wsV])⟩
  have h2 := hd.2.2
  rw [h] at h2
  exact (Option.some.inj h2).symm
theorem vx_runVW {y : MethodName} {bytes cc : ByteArray} {maxL nL mc ms n index : Nat} {ret : Option FieldType} {hh : List (Nat × Nat × Nat × Nat)} {ws : List Cond} {rm : Room} {Pc : Array Value → State → Prop} {Qc : Array Value → State → Outcome → State → Prop} {free : Addr → Prop} {Ts : List Cond} {own C : String} {b : Addr} {As rest : List Value} {g : JFrame}
    (S : CallFix p m c cc nL s args Ts own) (hM : Met l y ws rm Pc Qc mc ms free) (cw : vx_CVW R s args own C index y bytes maxL ret hh ws rm mc ms n) (hp : PreV s H C b Pc As)
    (hg : g.method = m) (hn : As.length = n) (hsize : g.locals.size = nL) (hstack : g.stack = As.reverse ++ .ref b :: rest) (hW : 2 * g.monitorRoom + (rest.map fun v => v.category).sum ≤ 8) (hdg : decode cc g.pc = .ok (.invokevirtual index, 3)) (hf : cells + mc ≤ R.cells ∧ slots + ms ≤ R.slots) :
    va_Run p l e R s m args below meth c H locs cells slots mc ms g rest (Qc (Value.ref b :: As).toArray) free := by
  obtain ⟨⟨hrc, hrs, hfr, hlo, hws, hcw⟩, hcode, hini, hy, hlen, hl, hin, hse⟩ := cw
  have hK : Back l R p e below s args y 3 8 (PreOf R mc ms Pc) (PostOf Qc mc ms free) := va_backW (hh := hh) (bytes := bytes) (maxL := maxL) (ret := ret) hM hp.1 hrc hrs hfr hlo hws hcw (fun a' U hW => word_at hW (Or.inl (by first | rfl | simp [Cond.onTables, Cond.keeps, Cond.steady])) hini)
  obtain ⟨hx, hb, hml, ho, -⟩ := S
  obtain ⟨-, ⟨cellB, hcB, hoB, hclB⟩, hPc⟩ := hp
  intro T hT X
  obtain ⟨v, vm₁, ⟨U', l2, c2, s2⟩, hW₁, X', ⟨g', mk, t, L, e1, e2, hq, h1, hL, h2, h3⟩, st⟩ := vx_callVW X hx (C := C) (hh := hh) (bytes := bytes) (maxL := maxL) (ret := ret) ho hl hin hse hcode hy hK (by rw [hT]; exact hcB) hoB hclB hg (hsize.trans hml.symm) (argsL := As) (rest := rest) (fun sig h => hn.trans (hlen sig h)) hstack hW (by rw [hb]; exact hdg)
    (fun vm₁ hW₁ => ⟨hf.1, hf.2, hPc (T.setVm vm₁) hT hW₁⟩)
  dsimp only [Pt.U, Pt.locs, Pt.cells, Pt.slots] at X' e1 e2 h1 h2 h3 st
  subst h1; subst h2; subst h3
  exact ⟨v, (T.setVm vm₁).calling g' mk (Value.ref b :: As).toArray, t, U', L, hT, X', hL, e1, e2, hq, st⟩
section
variable {y : MethodName} {bytes cc : ByteArray} {maxL nL mc ms n index : Nat} {ret : Option FieldType} {ws : List Cond} {rm : Room} {Pc : Array Value → State → Prop} {Qc : Array Value → State → Outcome → State → Prop} {XC : String → State → State → Prop} {free : Addr → Prop} {Ts : List Cond} {own C : String} {b : Addr} {As rest : List Value} {g : JFrame}
theorem vx_runVX {hh : List (Nat × Nat × Nat × Nat)} (S : CallFix p m c cc nL s args Ts own) (hM : vx_Met l y ws rm Pc Qc XC mc ms free) (cw : vx_CVW R s args own C index y bytes maxL ret hh ws rm mc ms n) (hp : PreV s H C b Pc As)
    (hg : g.method = m) (hn : As.length = n) (hsize : g.locals.size = nL) (hstack : g.stack = As.reverse ++ .ref b :: rest) (hW : 2 * g.monitorRoom + (rest.map fun v => v.category).sum ≤ 8) (hdg : decode cc g.pc = .ok (.invokevirtual index, 3)) (hf : cells + mc ≤ R.cells ∧ slots + ms ≤ R.slots) :
    vx_Run p l e R s m args below meth c H locs cells slots mc ms g rest (Qc (Value.ref b :: As).toArray) XC free := by
  obtain ⟨⟨hrc, hrs, hfr, hlo, hws, hcw⟩, hcode, hini, hy, hlen, hl, hin, hse⟩ := cw
  have hK : vx_Back l R p e below s args y 3 8 (PreOf R mc ms Pc) (PostOf Qc mc ms free) (vx_Post XC mc ms free) := vx_backW (hh := hh) (bytes := bytes) (maxL := maxL) (ret := ret) hM hp.1 hrc hrs hfr hlo hws hcw (fun a' U hW => word_at hW (Or.inl (by first | rfl | simp [Cond.onTables, Cond.keeps, Cond.steady])) hini)
  obtain ⟨hx, hb, hml, ho, -⟩ := S
  obtain ⟨-, ⟨cellB, hcB, hoB, hclB⟩, hPc⟩ := hp
  intro T hT X
  rcases vx_callVX X hx (C := C) (hh := hh) (bytes := bytes) (maxL := maxL) (ret := ret) ho hl hin hse hcode hy hK (by rw [hT]; exact hcB) hoB hclB hg (hsize.trans hml.symm) (argsL := As) (rest := rest) (fun sig h => hn.trans (hlen sig h)) hstack hW (by rw [hb]; exact hdg)
    (fun vm₁ hW₁ => ⟨hf.1, hf.2, hPc (T.setVm vm₁) hT hW₁⟩) with ⟨v, vm₁, ⟨U', l2, c2, s2⟩, hW₁, X', ⟨g', mk, t, L, e1, e2, hq, h1, hL, h2, h3⟩, st⟩ | ⟨q, vm₁, ⟨U', l2, c2, s2⟩, hW₁, X', ⟨g', mk, t, L, E, ce, e1, e2, hq, hce, hcv, hcl, h1, hL, h2, h3⟩, st⟩
  · dsimp only [Pt.U, Pt.locs, Pt.cells, Pt.slots] at X' e1 e2 h1 h2 h3 st
    subst h1; subst h2; subst h3
    exact Or.inl ⟨v, (T.setVm vm₁).calling g' mk (Value.ref b :: As).toArray, t, U', L, hT, X', hL, e1, e2, hq, st⟩
  · dsimp only [Pt.U, Pt.locs, Pt.cells, Pt.slots] at X' e1 e2 h1 h2 h3 st hcl
    subst h1; subst h2; subst h3
    exact Or.inr ⟨q, (T.setVm vm₁).calling g' mk (Value.ref b :: As).toArray, t, U', L, E, ce, hT, X', hL, e1, e2, hq, hce, hcv, vx_cls hW₁ hcl, st⟩
theorem vx_runSX {hh : List (Nat × Nat × Nat × Nat)} (S : CallFix p m c cc nL s args Ts own) (hM : vx_Met l y ws rm Pc Qc XC mc ms free) (cw : vx_CSW R s args own index y bytes maxL ret hh ws rm mc ms n) (hp : PreS s H Pc As)
    (hg : g.method = m) (hn : As.length = n) (hsize : g.locals.size = nL) (hstack : g.stack = As.reverse ++ rest) (hW : 2 * g.monitorRoom + (rest.map fun v => v.category).sum ≤ 8) (hdg : decode cc g.pc = .ok (.invokestatic index, 3)) (hf : cells + mc ≤ R.cells ∧ slots + ms ≤ R.slots) :
    vx_Run p l e R s m args below meth c H locs cells slots mc ms g rest (Qc As.toArray) XC free := by
  obtain ⟨⟨hrc, hrs, hfr, hlo, hws, hcw⟩, hcode, hini, hy, hlen, hl, hstt⟩ := cw
  have hK : vx_Back l R p e below s args y 3 8 (PreOf R mc ms Pc) (PostOf Qc mc ms free) (vx_Post XC mc ms free) := vx_backW (hh := hh) (bytes := bytes) (maxL := maxL) (ret := ret) hM hp.1 hrc hrs hfr hlo hws hcw (fun a' U hW => word_at hW (Or.inl (by first | rfl | simp [Cond.onTables, Cond.keeps, Cond.steady])) hini)
  obtain ⟨hx, hb, hml, ho, -⟩ := S
  intro T hT X
  rcases vx_callSX X hx (hh := hh) (bytes := bytes) (maxL := maxL) (ret := ret) ho hl hstt hini hcode hy hK hg (hsize.trans hml.symm) (argsL := As) (rest := rest) (fun sig h => hn.trans (hlen sig h)) hstack hW (by rw [hb]; exact hdg)
    (fun vm₁ hW₁ => ⟨hf.1, hf.2, hp.2 (T.setVm vm₁) hT hW₁⟩) with ⟨v, vm₁, ⟨U', l2, c2, s2⟩, hW₁, X', ⟨g', mk, t, L, e1, e2, hq, h1, hL, h2, h3⟩, st⟩ | ⟨q, vm₁, ⟨U', l2, c2, s2⟩, hW₁, X', ⟨g', mk, t, L, E, ce, e1, e2, hq, hce, hcv, hcl, h1, hL, h2, h3⟩, st⟩
  · dsimp only [Pt.U, Pt.locs, Pt.cells, Pt.slots] at X' e1 e2 h1 h2 h3 st
    subst h1; subst h2; subst h3
    exact Or.inl ⟨v, (T.setVm vm₁).calling g' mk As.toArray, t, U', L, hT, X', hL, e1, e2, hq, st⟩
  · dsimp only [Pt.U, Pt.locs, Pt.cells, Pt.slots] at X' e1 e2 h1 h2 h3 st hcl
    subst h1; subst h2; subst h3
    exact Or.inr ⟨q, (T.setVm vm₁).calling g' mk As.toArray, t, U', L, E, ce, hT, X', hL, e1, e2, hq, hce, hcv, vx_cls hW₁ hcl, st⟩
end
end VXH
theorem vx_ofWH {l : Launch} {y : MethodName} {ws ws' : List Cond} {rm : Room} {Pc : Array Value → State → Prop} {Qc : Array Value → State → Outcome → State → Prop} {XC : String → State → State → Prop} {mc ms : Nat} {free : Addr → Prop} {cc : ByteArray} {maxL : Nat} {ret : Option FieldType} {hh : List (Nat × Nat × Nat × Nat)}
    (hy : plainName y.cls = true) (hw : ws = Cond.codeWith y cc maxL ret hh :: ws')
    (body : ∀ p e s m args below meth c s₁, BodyLoose p l y (headSpec ws rm) cc maxL ret e s m args below meth c s₁ → c.maxLocals = maxL → Pc args s →
      W p l e (headSpec ws rm).room s m args below meth c s.heap [] 0 0 (vx_MQ below Qc XC args s mc ms free) (entryFrame m args maxL)) : vx_Met l y ws rm Pc Qc XC mc ms free := by
  refine MetFree.of_bodyS (code := cc) (maxLocals := maxL) (ret := ret) hy ?_ ?_
  · intro args s m h hn
    obtain ⟨m9, meth, c, hn9, h1, h2, h3, h4, -, h5, h6, -⟩ := Cond.codeWith_spec (atoms_spec (ws := ws) h _ (by rw [hw]; exact List.mem_cons_self))
    cases hn.symm.trans hn9
    exact ⟨meth, c, h1, h2, h3, h4, h5, h6⟩
  · intro p e s m args below meth c s₁ B hml hP _
    have hh0 : s₁.heap = s.heap := by rw [B.state]; rfl
    obtain ⟨t, a1, o, b1, b2, b3⟩ := body p e s m args below meth c s₁ B hml hP s₁ hh0 (Stand.of_body B)
    exact ⟨t, o, a1, b1, b2, b3⟩
/-! ===== END ===== -/
end
section
-- ===== PART A: goes FIRST, ahead of the names: the tables' words, and 'selects' of the private methods out of them =====
/-- a private method of a class that the tables say can be made, by its rows of tables_1 -/
def lw_okq (q : MethodName × Nat) : Prop := (q.1.cls ≠ "java/lang/invoke/MethodHandle" ∧ q.1.cls ≠ "java/lang/invoke/VarHandle") ∧ Cond.instantiable q.1.cls q.2 ∈ tables_1 ∧ Cond.privateMethod q.1 ∈ tables_1 ∧ Cond.instanceMethod q.1 ∈ tables_1
theorem lw_p0 : lw_okq (⟨"java/lang/Throwable", "fillInStackTrace", "(I)Ljava/lang/Throwable;"⟩, 6) := ⟨⟨by decide +kernel, by decide +kernel⟩, List.mem_of_getElem? (i := 248) (by decide +kernel), List.mem_of_getElem? (i := 246) (by decide +kernel), List.mem_of_getElem? (i := 247) (by decide +kernel)⟩
theorem lw_p1 : lw_okq (⟨"WallFractions", "keep", "(I)V"⟩, 3) := ⟨⟨by decide +kernel, by decide +kernel⟩, List.mem_of_getElem? (i := 19) (by decide +kernel), List.mem_of_getElem? (i := 312) (by decide +kernel), List.mem_of_getElem? (i := 313) (by decide +kernel)⟩
theorem lw_p2 : lw_okq (⟨"WallFractions$Whole", "settle", "(I)V"⟩, 2) := ⟨⟨by decide +kernel, by decide +kernel⟩, List.mem_of_getElem? (i := 34) (by decide +kernel), List.mem_of_getElem? (i := 386) (by decide +kernel), List.mem_of_getElem? (i := 387) (by decide +kernel)⟩
theorem lw_p3 : lw_okq (⟨"WallFractions$Whole", "limbAt", "(I)J"⟩, 2) := ⟨⟨by decide +kernel, by decide +kernel⟩, List.mem_of_getElem? (i := 34) (by decide +kernel), List.mem_of_getElem? (i := 415) (by decide +kernel), List.mem_of_getElem? (i := 416) (by decide +kernel)⟩
theorem lw_p4 : lw_okq (⟨"WallFractions$Reckoner", "reduce", "()V"⟩, 7) := ⟨⟨by decide +kernel, by decide +kernel⟩, List.mem_of_getElem? (i := 87) (by decide +kernel), List.mem_of_getElem? (i := 427) (by decide +kernel), List.mem_of_getElem? (i := 428) (by decide +kernel)⟩
theorem lw_p5 : lw_okq (⟨"WallFractions$Measure", "gather", "()V"⟩, 9) := ⟨⟨by decide +kernel, by decide +kernel⟩, List.mem_of_getElem? (i := 93) (by decide +kernel), List.mem_of_getElem? (i := 441) (by decide +kernel), List.mem_of_getElem? (i := 442) (by decide +kernel)⟩
theorem lw_p6 : lw_okq (⟨"WallFractions$Measure", "leading", "(LWallFractions$Whole;J)J"⟩, 9) := ⟨⟨by decide +kernel, by decide +kernel⟩, List.mem_of_getElem? (i := 93) (by decide +kernel), List.mem_of_getElem? (i := 452) (by decide +kernel), List.mem_of_getElem? (i := 453) (by decide +kernel)⟩
theorem lw_p7 : lw_okq (⟨"WallFractions$Divider", "splitLong", "(LWallFractions$Whole;LWallFractions$Whole;LWallFractions$Whole;LWallFractions$Whole;)V"⟩, 2) := ⟨⟨by decide +kernel, by decide +kernel⟩, List.mem_of_getElem? (i := 74) (by decide +kernel), List.mem_of_getElem? (i := 473) (by decide +kernel), List.mem_of_getElem? (i := 474) (by decide +kernel)⟩
theorem lw_p8 : lw_okq (⟨"WallFractions$Divider", "takeOff", "(II)J"⟩, 2) := ⟨⟨by decide +kernel, by decide +kernel⟩, List.mem_of_getElem? (i := 74) (by decide +kernel), List.mem_of_getElem? (i := 481) (by decide +kernel), List.mem_of_getElem? (i := 482) (by decide +kernel)⟩
theorem lw_p9 : lw_okq (⟨"WallFractions$Divider", "guess", "(II)J"⟩, 2) := ⟨⟨by decide +kernel, by decide +kernel⟩, List.mem_of_getElem? (i := 74) (by decide +kernel), List.mem_of_getElem? (i := 485) (by decide +kernel), List.mem_of_getElem? (i := 486) (by decide +kernel)⟩
theorem lw_p10 : lw_okq (⟨"WallFractions$Divider", "putBack", "(II)V"⟩, 2) := ⟨⟨by decide +kernel, by decide +kernel⟩, List.mem_of_getElem? (i := 74) (by decide +kernel), List.mem_of_getElem? (i := 492) (by decide +kernel), List.mem_of_getElem? (i := 493) (by decide +kernel)⟩
theorem lw_p11 : lw_okq (⟨"WallFractions$Measure", "shift", "()V"⟩, 9) := ⟨⟨by decide +kernel, by decide +kernel⟩, List.mem_of_getElem? (i := 93) (by decide +kernel), List.mem_of_getElem? (i := 498) (by decide +kernel), List.mem_of_getElem? (i := 499) (by decide +kernel)⟩
theorem lw_p12 : lw_okq (⟨"WallFractions$Measure", "catchUp", "()V"⟩, 9) := ⟨⟨by decide +kernel, by decide +kernel⟩, List.mem_of_getElem? (i := 93) (by decide +kernel), List.mem_of_getElem? (i := 502) (by decide +kernel), List.mem_of_getElem? (i := 503) (by decide +kernel)⟩
theorem lw_p13 : lw_okq (⟨"WallFractions$Reckoner", "multiplyOut", "(LWallFractions$Fraction;)V"⟩, 7) := ⟨⟨by decide +kernel, by decide +kernel⟩, List.mem_of_getElem? (i := 87) (by decide +kernel), List.mem_of_getElem? (i := 556) (by decide +kernel), List.mem_of_getElem? (i := 557) (by decide +kernel)⟩
theorem lw_p14 : lw_okq (⟨"WallFractions$Reckoner", "goesUp", "(LWallFractions$Fraction;I)Z"⟩, 7) := ⟨⟨by decide +kernel, by decide +kernel⟩, List.mem_of_getElem? (i := 87) (by decide +kernel), List.mem_of_getElem? (i := 595) (by decide +kernel), List.mem_of_getElem? (i := 596) (by decide +kernel)⟩
theorem lw_p15 : lw_okq (⟨"WallFractions$Reckoner", "squareRoot", "(LWallFractions$Whole;LWallFractions$Whole;)V"⟩, 7) := ⟨⟨by decide +kernel, by decide +kernel⟩, List.mem_of_getElem? (i := 87) (by decide +kernel), List.mem_of_getElem? (i := 616) (by decide +kernel), List.mem_of_getElem? (i := 617) (by decide +kernel)⟩
def lw_privs_1 : List (MethodName × Nat) := [(⟨"java/lang/Throwable", "fillInStackTrace", "(I)Ljava/lang/Throwable;"⟩, 6), (⟨"WallFractions", "keep", "(I)V"⟩, 3), (⟨"WallFractions$Whole", "settle", "(I)V"⟩, 2), (⟨"WallFractions$Whole", "limbAt", "(I)J"⟩, 2), (⟨"WallFractions$Reckoner", "reduce", "()V"⟩, 7), (⟨"WallFractions$Measure", "gather", "()V"⟩, 9), (⟨"WallFractions$Measure", "leading", "(LWallFractions$Whole;J)J"⟩, 9), (⟨"WallFractions$Divider", "splitLong", "(LWallFractions$Whole;LWallFractions$Whole;LWallFractions$Whole;LWallFractions$Whole;)V"⟩, 2), (⟨"WallFractions$Divider", "takeOff", "(II)J"⟩, 2), (⟨"WallFractions$Divider", "guess", "(II)J"⟩, 2), (⟨"WallFractions$Divider", "putBack", "(II)V"⟩, 2), (⟨"WallFractions$Measure", "shift", "()V"⟩, 9), (⟨"WallFractions$Measure", "catchUp", "()V"⟩, 9), (⟨"WallFractions$Reckoner", "multiplyOut", "(LWallFractions$Fraction;)V"⟩, 7), (⟨"WallFractions$Reckoner", "goesUp", "(LWallFractions$Fraction;I)Z"⟩, 7), (⟨"WallFractions$Reckoner", "squareRoot", "(LWallFractions$Whole;LWallFractions$Whole;)V"⟩, 7)]
theorem lw_r1 : ∀ q ∈ lw_privs_1, lw_okq q := List.forall_mem_cons.mpr ⟨lw_p0, List.forall_mem_cons.mpr ⟨lw_p1, List.forall_mem_cons.mpr ⟨lw_p2, List.forall_mem_cons.mpr ⟨lw_p3, List.forall_mem_cons.mpr ⟨lw_p4, List.forall_mem_cons.mpr ⟨lw_p5, List.forall_mem_cons.mpr ⟨lw_p6, List.forall_mem_cons.mpr ⟨lw_p7, List.forall_mem_cons.mpr ⟨lw_p8, List.forall_mem_cons.mpr ⟨lw_p9, List.forall_mem_cons.mpr ⟨lw_p10, List.forall_mem_cons.mpr ⟨lw_p11, List.forall_mem_cons.mpr ⟨lw_p12, List.forall_mem_cons.mpr ⟨lw_p13, List.forall_mem_cons.mpr ⟨lw_p14, List.forall_mem_cons.mpr ⟨lw_p15, fun _ h => absurd h List.not_mem_nil⟩⟩⟩⟩⟩⟩⟩⟩⟩⟩⟩⟩⟩⟩⟩⟩
theorem lw_p16 : lw_okq (⟨"WallFractions", "partOf", "(II)LWallFractions$Whole;"⟩, 3) := ⟨⟨by decide +kernel, by decide +kernel⟩, List.mem_of_getElem? (i := 19) (by decide +kernel), List.mem_of_getElem? (i := 656) (by decide +kernel), List.mem_of_getElem? (i := 657) (by decide +kernel)⟩
theorem lw_p17 : lw_okq (⟨"WallFractions$Sharing", "rank", "(I)J"⟩, 7) := ⟨⟨by decide +kernel, by decide +kernel⟩, List.mem_of_getElem? (i := 156) (by decide +kernel), List.mem_of_getElem? (i := 750) (by decide +kernel), List.mem_of_getElem? (i := 751) (by decide +kernel)⟩
theorem lw_p18 : lw_okq (⟨"WallFractionsModel", "setLong", "(IJ)V"⟩, 6) := ⟨⟨by decide +kernel, by decide +kernel⟩, List.mem_of_getElem? (i := 755) (by decide +kernel), List.mem_of_getElem? (i := 761) (by decide +kernel), List.mem_of_getElem? (i := 762) (by decide +kernel)⟩
theorem lw_p19 : lw_okq (⟨"WallFractionsModel", "finish", "(II)Z"⟩, 6) := ⟨⟨by decide +kernel, by decide +kernel⟩, List.mem_of_getElem? (i := 755) (by decide +kernel), List.mem_of_getElem? (i := 797) (by decide +kernel), List.mem_of_getElem? (i := 798) (by decide +kernel)⟩
theorem lw_p20 : lw_okq (⟨"WallFractionsModel", "divisor", "(II)I"⟩, 6) := ⟨⟨by decide +kernel, by decide +kernel⟩, List.mem_of_getElem? (i := 755) (by decide +kernel), List.mem_of_getElem? (i := 801) (by decide +kernel), List.mem_of_getElem? (i := 802) (by decide +kernel)⟩
theorem lw_p21 : lw_okq (⟨"WallFractionsModel", "copy", "(II)V"⟩, 6) := ⟨⟨by decide +kernel, by decide +kernel⟩, List.mem_of_getElem? (i := 755) (by decide +kernel), List.mem_of_getElem? (i := 805) (by decide +kernel), List.mem_of_getElem? (i := 806) (by decide +kernel)⟩
theorem lw_p22 : lw_okq (⟨"WallFractionsModel", "isZero", "(I)Z"⟩, 6) := ⟨⟨by decide +kernel, by decide +kernel⟩, List.mem_of_getElem? (i := 755) (by decide +kernel), List.mem_of_getElem? (i := 809) (by decide +kernel), List.mem_of_getElem? (i := 810) (by decide +kernel)⟩
theorem lw_p23 : lw_okq (⟨"WallFractionsModel", "part", "(III)V"⟩, 6) := ⟨⟨by decide +kernel, by decide +kernel⟩, List.mem_of_getElem? (i := 755) (by decide +kernel), List.mem_of_getElem? (i := 813) (by decide +kernel), List.mem_of_getElem? (i := 814) (by decide +kernel)⟩
theorem lw_p24 : lw_okq (⟨"WallFractionsModel", "cell", "(II)I"⟩, 6) := ⟨⟨by decide +kernel, by decide +kernel⟩, List.mem_of_getElem? (i := 755) (by decide +kernel), List.mem_of_getElem? (i := 817) (by decide +kernel), List.mem_of_getElem? (i := 818) (by decide +kernel)⟩
theorem lw_p25 : lw_okq (⟨"WallFractionsModel", "holds", "(III)Z"⟩, 6) := ⟨⟨by decide +kernel, by decide +kernel⟩, List.mem_of_getElem? (i := 755) (by decide +kernel), List.mem_of_getElem? (i := 821) (by decide +kernel), List.mem_of_getElem? (i := 822) (by decide +kernel)⟩
theorem lw_p26 : lw_okq (⟨"WallFractionsModel", "takeOff", "(IIII)V"⟩, 6) := ⟨⟨by decide +kernel, by decide +kernel⟩, List.mem_of_getElem? (i := 755) (by decide +kernel), List.mem_of_getElem? (i := 825) (by decide +kernel), List.mem_of_getElem? (i := 826) (by decide +kernel)⟩
theorem lw_p27 : lw_okq (⟨"WallFractionsModel", "trim", "(II)V"⟩, 6) := ⟨⟨by decide +kernel, by decide +kernel⟩, List.mem_of_getElem? (i := 755) (by decide +kernel), List.mem_of_getElem? (i := 829) (by decide +kernel), List.mem_of_getElem? (i := 830) (by decide +kernel)⟩
theorem lw_p28 : lw_okq (⟨"WallFractionsModel", "isWhole", "(I)Z"⟩, 6) := ⟨⟨by decide +kernel, by decide +kernel⟩, List.mem_of_getElem? (i := 755) (by decide +kernel), List.mem_of_getElem? (i := 841) (by decide +kernel), List.mem_of_getElem? (i := 842) (by decide +kernel)⟩
theorem lw_p29 : lw_okq (⟨"WallFractionsModel", "times", "(IJJ)V"⟩, 6) := ⟨⟨by decide +kernel, by decide +kernel⟩, List.mem_of_getElem? (i := 755) (by decide +kernel), List.mem_of_getElem? (i := 846) (by decide +kernel), List.mem_of_getElem? (i := 847) (by decide +kernel)⟩
theorem lw_p30 : lw_okq (⟨"WallFractionsModel", "sum", "(IIII)V"⟩, 6) := ⟨⟨by decide +kernel, by decide +kernel⟩, List.mem_of_getElem? (i := 755) (by decide +kernel), List.mem_of_getElem? (i := 857) (by decide +kernel), List.mem_of_getElem? (i := 858) (by decide +kernel)⟩
theorem lw_p31 : lw_okq (⟨"WallFractionsModel", "product", "(III)V"⟩, 6) := ⟨⟨by decide +kernel, by decide +kernel⟩, List.mem_of_getElem? (i := 755) (by decide +kernel), List.mem_of_getElem? (i := 861) (by decide +kernel), List.mem_of_getElem? (i := 862) (by decide +kernel)⟩
def lw_privs_2 : List (MethodName × Nat) := [(⟨"WallFractions", "partOf", "(II)LWallFractions$Whole;"⟩, 3), (⟨"WallFractions$Sharing", "rank", "(I)J"⟩, 7), (⟨"WallFractionsModel", "setLong", "(IJ)V"⟩, 6), (⟨"WallFractionsModel", "finish", "(II)Z"⟩, 6), (⟨"WallFractionsModel", "divisor", "(II)I"⟩, 6), (⟨"WallFractionsModel", "copy", "(II)V"⟩, 6), (⟨"WallFractionsModel", "isZero", "(I)Z"⟩, 6), (⟨"WallFractionsModel", "part", "(III)V"⟩, 6), (⟨"WallFractionsModel", "cell", "(II)I"⟩, 6), (⟨"WallFractionsModel", "holds", "(III)Z"⟩, 6), (⟨"WallFractionsModel", "takeOff", "(IIII)V"⟩, 6), (⟨"WallFractionsModel", "trim", "(II)V"⟩, 6), (⟨"WallFractionsModel", "isWhole", "(I)Z"⟩, 6), (⟨"WallFractionsModel", "times", "(IJJ)V"⟩, 6), (⟨"WallFractionsModel", "sum", "(IIII)V"⟩, 6), (⟨"WallFractionsModel", "product", "(III)V"⟩, 6)]
theorem lw_r2 : ∀ q ∈ lw_privs_2, lw_okq q := List.forall_mem_cons.mpr ⟨lw_p16, List.forall_mem_cons.mpr ⟨lw_p17, List.forall_mem_cons.mpr ⟨lw_p18, List.forall_mem_cons.mpr ⟨lw_p19, List.forall_mem_cons.mpr ⟨lw_p20, List.forall_mem_cons.mpr ⟨lw_p21, List.forall_mem_cons.mpr ⟨lw_p22, List.forall_mem_cons.mpr ⟨lw_p23, List.forall_mem_cons.mpr ⟨lw_p24, List.forall_mem_cons.mpr ⟨lw_p25, List.forall_mem_cons.mpr ⟨lw_p26, List.forall_mem_cons.mpr ⟨lw_p27, List.forall_mem_cons.mpr ⟨lw_p28, List.forall_mem_cons.mpr ⟨lw_p29, List.forall_mem_cons.mpr ⟨lw_p30, List.forall_mem_cons.mpr ⟨lw_p31, fun _ h => absurd h List.not_mem_nil⟩⟩⟩⟩⟩⟩⟩⟩⟩⟩⟩⟩⟩⟩⟩⟩
theorem lw_p32 : lw_okq (⟨"WallFractionsModel", "plus", "(III)V"⟩, 6) := ⟨⟨by decide +kernel, by decide +kernel⟩, List.mem_of_getElem? (i := 755) (by decide +kernel), List.mem_of_getElem? (i := 865) (by decide +kernel), List.mem_of_getElem? (i := 866) (by decide +kernel)⟩
theorem lw_p33 : lw_okq (⟨"WallFractionsModel", "order", "(II)I"⟩, 6) := ⟨⟨by decide +kernel, by decide +kernel⟩, List.mem_of_getElem? (i := 755) (by decide +kernel), List.mem_of_getElem? (i := 869) (by decide +kernel), List.mem_of_getElem? (i := 870) (by decide +kernel)⟩
theorem lw_p34 : lw_okq (⟨"WallFractionsModel", "less", "(III)V"⟩, 6) := ⟨⟨by decide +kernel, by decide +kernel⟩, List.mem_of_getElem? (i := 755) (by decide +kernel), List.mem_of_getElem? (i := 873) (by decide +kernel), List.mem_of_getElem? (i := 874) (by decide +kernel)⟩
theorem lw_p35 : lw_okq (⟨"WallFractionsModel", "by", "(IJ)J"⟩, 6) := ⟨⟨by decide +kernel, by decide +kernel⟩, List.mem_of_getElem? (i := 755) (by decide +kernel), List.mem_of_getElem? (i := 899) (by decide +kernel), List.mem_of_getElem? (i := 900) (by decide +kernel)⟩
theorem lw_p36 : lw_okq (⟨"WallFractionsModel", "tens", "(II)V"⟩, 6) := ⟨⟨by decide +kernel, by decide +kernel⟩, List.mem_of_getElem? (i := 755) (by decide +kernel), List.mem_of_getElem? (i := 909) (by decide +kernel), List.mem_of_getElem? (i := 910) (by decide +kernel)⟩
theorem lw_p37 : lw_okq (⟨"WallFractionsModel", "floor", "(IZ)V"⟩, 6) := ⟨⟨by decide +kernel, by decide +kernel⟩, List.mem_of_getElem? (i := 755) (by decide +kernel), List.mem_of_getElem? (i := 914) (by decide +kernel), List.mem_of_getElem? (i := 915) (by decide +kernel)⟩
theorem lw_p38 : lw_okq (⟨"WallFractionsModel", "units", "(III)Z"⟩, 6) := ⟨⟨by decide +kernel, by decide +kernel⟩, List.mem_of_getElem? (i := 755) (by decide +kernel), List.mem_of_getElem? (i := 918) (by decide +kernel), List.mem_of_getElem? (i := 919) (by decide +kernel)⟩
theorem lw_p39 : lw_okq (⟨"WallFractionsModel", "takeRoot", "()V"⟩, 6) := ⟨⟨by decide +kernel, by decide +kernel⟩, List.mem_of_getElem? (i := 755) (by decide +kernel), List.mem_of_getElem? (i := 926) (by decide +kernel), List.mem_of_getElem? (i := 927) (by decide +kernel)⟩
theorem lw_p40 : lw_okq (⟨"WallFractionsModel", "digitsIn", "(I)I"⟩, 6) := ⟨⟨by decide +kernel, by decide +kernel⟩, List.mem_of_getElem? (i := 755) (by decide +kernel), List.mem_of_getElem? (i := 930) (by decide +kernel), List.mem_of_getElem? (i := 931) (by decide +kernel)⟩
def lw_privs_3 : List (MethodName × Nat) := [(⟨"WallFractionsModel", "plus", "(III)V"⟩, 6), (⟨"WallFractionsModel", "order", "(II)I"⟩, 6), (⟨"WallFractionsModel", "less", "(III)V"⟩, 6), (⟨"WallFractionsModel", "by", "(IJ)J"⟩, 6), (⟨"WallFractionsModel", "tens", "(II)V"⟩, 6), (⟨"WallFractionsModel", "floor", "(IZ)V"⟩, 6), (⟨"WallFractionsModel", "units", "(III)Z"⟩, 6), (⟨"WallFractionsModel", "takeRoot", "()V"⟩, 6), (⟨"WallFractionsModel", "digitsIn", "(I)I"⟩, 6)]
theorem lw_r3 : ∀ q ∈ lw_privs_3, lw_okq q := List.forall_mem_cons.mpr ⟨lw_p32, List.forall_mem_cons.mpr ⟨lw_p33, List.forall_mem_cons.mpr ⟨lw_p34, List.forall_mem_cons.mpr ⟨lw_p35, List.forall_mem_cons.mpr ⟨lw_p36, List.forall_mem_cons.mpr ⟨lw_p37, List.forall_mem_cons.mpr ⟨lw_p38, List.forall_mem_cons.mpr ⟨lw_p39, List.forall_mem_cons.mpr ⟨lw_p40, fun _ h => absurd h List.not_mem_nil⟩⟩⟩⟩⟩⟩⟩⟩⟩
def lw_privs : List (MethodName × Nat) := lw_privs_1 ++ (lw_privs_2 ++ (lw_privs_3))
def lw_tbl : List Cond := k2_sels lw_privs ++ tables_1
theorem lw_privs_ok : ∀ q ∈ lw_privs, lw_okq q := by
  show ∀ q ∈ lw_privs_1 ++ (lw_privs_2 ++ (lw_privs_3)), lw_okq q
  exact List.forall_mem_append.mpr ⟨lw_r1, List.forall_mem_append.mpr ⟨lw_r2, lw_r3⟩⟩
end
section
/-! the words of the tables that every method may lean on -/
def TT : List Cond := lw_tbl.filter goodWord
theorem TT_in {w : Cond} (h : w ∈ tables_1) (hg : goodWord w = true) : w ∈ TT := List.mem_filter.mpr ⟨List.mem_append_right _ h, hg⟩
theorem TT_1 {w : Cond} (i : Nat) (h : tables_1_1[i]? = some w) (hg : goodWord w = true) : w ∈ TT := TT_in (by have h := List.mem_of_getElem? h; exact List.mem_append_left _ h) hg
theorem TT_2 {w : Cond} (i : Nat) (h : tables_1_2[i]? = some w) (hg : goodWord w = true) : w ∈ TT := TT_in (by have h := List.mem_of_getElem? h; exact List.mem_append_right _ (List.mem_append_left _ h)) hg
theorem TT_3 {w : Cond} (i : Nat) (h : tables_1_3[i]? = some w) (hg : goodWord w = true) : w ∈ TT := TT_in (by have h := List.mem_of_getElem? h; exact List.mem_append_right _ (List.mem_append_right _ (List.mem_append_left _ h))) hg
theorem TT_4 {w : Cond} (i : Nat) (h : tables_1_4[i]? = some w) (hg : goodWord w = true) : w ∈ TT := TT_in (by have h := List.mem_of_getElem? h; exact List.mem_append_right _ (List.mem_append_right _ (List.mem_append_right _ (List.mem_append_left _ h)))) hg
theorem TT_5 {w : Cond} (i : Nat) (h : tables_1_5[i]? = some w) (hg : goodWord w = true) : w ∈ TT := TT_in (by have h := List.mem_of_getElem? h; exact List.mem_append_right _ (List.mem_append_right _ (List.mem_append_right _ (List.mem_append_right _ (h))))) hg
theorem TT_sel {q : MethodName × Nat} (i : Nat) (h : lw_privs[i]? = some q) : Cond.selects q.1.cls q.1 q.1 ∈ TT := List.mem_filter.mpr ⟨List.mem_append_left _ (List.mem_map.mpr ⟨q, List.mem_of_getElem? h, rfl⟩), rfl⟩
theorem TT_good : ∀ w ∈ TT, (w.onTables && w.keeps) = true ∨ ∃ ty, w = .arrayClass ty := fun w h => good_of_word (List.mem_filter.mp h).2
theorem w_0 : Cond.initialized "WallFractionsLaw" ∈ TT := TT_1 0 (by decide +kernel) rfl
theorem w_1 : Cond.initialized "WallFractions" ∈ TT := TT_1 1 (by decide +kernel) rfl
theorem w_2 : Cond.initialized "WallFractions$Fraction" ∈ TT := TT_1 2 (by decide +kernel) rfl
theorem w_3 : Cond.initialized "WallFractions$Whole" ∈ TT := TT_1 3 (by decide +kernel) rfl
theorem w_4 : Cond.initialized "WallFractions$Divider" ∈ TT := TT_1 4 (by decide +kernel) rfl
theorem w_5 : Cond.initialized "WallFractions$Reckoner" ∈ TT := TT_1 5 (by decide +kernel) rfl
theorem w_6 : Cond.initialized "WallFractions$Measure" ∈ TT := TT_1 6 (by decide +kernel) rfl
theorem w_7 : Cond.initialized "WallFractions$Sharing" ∈ TT := TT_1 7 (by decide +kernel) rfl
theorem w_8 : Cond.initialized "WallFractionsModel" ∈ TT := TT_1 8 (by decide +kernel) rfl
theorem w_9 : Cond.initialized "java/lang/Throwable" ∈ TT := TT_1 9 (by decide +kernel) rfl
theorem w_10 : Cond.initialized "java/lang/Exception" ∈ TT := TT_1 10 (by decide +kernel) rfl
theorem w_11 : Cond.initialized "java/lang/RuntimeException" ∈ TT := TT_1 11 (by decide +kernel) rfl
theorem w_12 : Cond.initialized "java/lang/IllegalArgumentException" ∈ TT := TT_1 12 (by decide +kernel) rfl
theorem w_13 : Cond.initialized "java/lang/ArithmeticException" ∈ TT := TT_1 13 (by decide +kernel) rfl
theorem w_14 : Cond.initialized "java/lang/Math" ∈ TT := TT_1 14 (by decide +kernel) rfl
theorem w_15 : Cond.initialized "java/lang/IllegalStateException" ∈ TT := TT_1 15 (by decide +kernel) rfl
theorem w_16 : Cond.initialized "java/lang/System" ∈ TT := TT_1 16 (by decide +kernel) rfl
theorem w_17 : Cond.initialized "java/lang/IndexOutOfBoundsException" ∈ TT := TT_1 17 (by decide +kernel) rfl
theorem w_18 : Cond.classLink "WallFractionsLaw" 8 "WallFractions" ∈ TT := TT_1 18 (by decide +kernel) rfl
theorem w_19 : Cond.instantiable "WallFractions" 3 ∈ TT := TT_1 19 (by decide +kernel) rfl
theorem w_20 : Cond.methodLink "WallFractionsLaw" 78 ⟨"WallFractions", "<init>", "()V"⟩ ∈ TT := TT_1 20 (by decide +kernel) rfl
theorem w_21 : Cond.instanceMethod ⟨"WallFractions", "<init>", "()V"⟩ ∈ TT := TT_1 21 (by decide +kernel) rfl
theorem w_22 : Cond.code ⟨"WallFractions", "<init>", "()V"⟩ prog_1_method_1_code 2 (Option.none : Option ClassFile.FieldType) ∈ TT := TT_1 22 rfl rfl
theorem w_23 : Cond.methodLink "WallFractions" 3 ⟨"java/lang/Object", "<init>", "()V"⟩ ∈ TT := TT_1 23 (by decide +kernel) rfl
theorem w_24 : Cond.instanceMethod ⟨"java/lang/Object", "<init>", "()V"⟩ ∈ TT := TT_1 24 (by decide +kernel) rfl
theorem w_25 : Cond.code ⟨"java/lang/Object", "<init>", "()V"⟩ object_method_1_code 1 (Option.none : Option ClassFile.FieldType) ∈ TT := TT_1 25 rfl rfl
theorem w_26 : Cond.classLink "WallFractions" 9 "WallFractions$Fraction" ∈ TT := TT_1 26 (by decide +kernel) rfl
theorem w_28 : Cond.instantiable "WallFractions$Fraction" 3 ∈ TT := TT_1 28 (by decide +kernel) rfl
theorem w_29 : Cond.methodLink "WallFractions" 15 ⟨"WallFractions$Fraction", "<init>", "()V"⟩ ∈ TT := TT_1 29 (by decide +kernel) rfl
theorem w_30 : Cond.instanceMethod ⟨"WallFractions$Fraction", "<init>", "()V"⟩ ∈ TT := TT_1 30 (by decide +kernel) rfl
theorem w_31 : Cond.code ⟨"WallFractions$Fraction", "<init>", "()V"⟩ prog_3_method_1_code 1 (Option.none : Option ClassFile.FieldType) ∈ TT := TT_1 31 rfl rfl
theorem w_32 : Cond.methodLink "WallFractions$Fraction" 3 ⟨"java/lang/Object", "<init>", "()V"⟩ ∈ TT := TT_1 32 (by decide +kernel) rfl
theorem w_33 : Cond.classLink "WallFractions$Fraction" 9 "WallFractions$Whole" ∈ TT := TT_1 33 (by decide +kernel) rfl
theorem w_34 : Cond.instantiable "WallFractions$Whole" 2 ∈ TT := TT_1 34 (by decide +kernel) rfl
theorem w_35 : Cond.methodLink "WallFractions$Fraction" 11 ⟨"WallFractions$Whole", "<init>", "()V"⟩ ∈ TT := TT_1 35 (by decide +kernel) rfl
theorem w_36 : Cond.instanceMethod ⟨"WallFractions$Whole", "<init>", "()V"⟩ ∈ TT := TT_1 36 (by decide +kernel) rfl
theorem w_37 : Cond.code ⟨"WallFractions$Whole", "<init>", "()V"⟩ prog_7_method_1_code 1 (Option.none : Option ClassFile.FieldType) ∈ TT := TT_1 37 rfl rfl
theorem w_38 : Cond.methodLink "WallFractions$Whole" 3 ⟨"java/lang/Object", "<init>", "()V"⟩ ∈ TT := TT_1 38 (by decide +kernel) rfl
theorem w_39 : Cond.fieldLink "WallFractions$Whole" 9 "WallFractions$Whole" "limbs" "[J" ∈ TT := TT_1 39 (by decide +kernel) rfl
theorem w_42 : Cond.fieldLink "WallFractions$Whole" 15 "WallFractions$Whole" "size" "I" ∈ TT := TT_1 42 (by decide +kernel) rfl
theorem w_46 : Cond.laysFinal "WallFractions$Whole" "WallFractions$Whole" "limbs" "[J" ∈ TT := TT_1 46 (by decide +kernel) rfl
theorem w_48 : Cond.lays "WallFractions$Whole" "WallFractions$Whole" "size" "I" ∈ TT := TT_1 48 (by decide +kernel) rfl
theorem w_51 : Cond.arrayClass ClassFile.FieldType.long ∈ TT := TT_1 51 (by decide +kernel) rfl
theorem w_52 : Cond.methodLink "WallFractions$Fraction" 21 ⟨"WallFractions$Whole", "become", "(J)V"⟩ ∈ TT := TT_1 52 (by decide +kernel) rfl
theorem w_53 : Cond.instanceMethod ⟨"WallFractions$Whole", "become", "(J)V"⟩ ∈ TT := TT_1 53 (by decide +kernel) rfl
theorem w_54 : Cond.selects "WallFractions$Whole" ⟨"WallFractions$Whole", "become", "(J)V"⟩ ⟨"WallFractions$Whole", "become", "(J)V"⟩ ∈ TT := TT_1 54 (by decide +kernel) rfl
theorem w_55 : Cond.code ⟨"WallFractions$Whole", "become", "(J)V"⟩ prog_7_method_5_code 5 (Option.none : Option ClassFile.FieldType) ∈ TT := TT_1 55 rfl rfl
theorem w_56 : Cond.constantLong "WallFractions$Whole" 26 1000000000 ∈ TT := TT_1 56 (by decide +kernel) rfl
theorem w_57 : Cond.fieldLink "WallFractions$Fraction" 12 "WallFractions$Fraction" "above" "LWallFractions$Whole;" ∈ TT := TT_1 57 (by decide +kernel) rfl
theorem w_60 : Cond.fieldLink "WallFractions$Fraction" 18 "WallFractions$Fraction" "below" "LWallFractions$Whole;" ∈ TT := TT_1 60 (by decide +kernel) rfl
theorem w_63 : Cond.fieldLink "WallFractions$Fraction" 25 "WallFractions$Fraction" "negative" "Z" ∈ TT := TT_1 63 (by decide +kernel) rfl
theorem w_66 : Cond.laysFinal "WallFractions$Fraction" "WallFractions$Fraction" "above" "LWallFractions$Whole;" ∈ TT := TT_1 66 (by decide +kernel) rfl
theorem w_68 : Cond.laysFinal "WallFractions$Fraction" "WallFractions$Fraction" "below" "LWallFractions$Whole;" ∈ TT := TT_1 68 (by decide +kernel) rfl
theorem w_70 : Cond.lays "WallFractions$Fraction" "WallFractions$Fraction" "negative" "Z" ∈ TT := TT_1 70 (by decide +kernel) rfl
theorem w_73 : Cond.classLink "WallFractions" 16 "WallFractions$Divider" ∈ TT := TT_1 73 (by decide +kernel) rfl
theorem w_74 : Cond.instantiable "WallFractions$Divider" 2 ∈ TT := TT_1 74 (by decide +kernel) rfl
theorem w_75 : Cond.methodLink "WallFractions" 18 ⟨"WallFractions$Divider", "<init>", "()V"⟩ ∈ TT := TT_1 75 (by decide +kernel) rfl
theorem w_76 : Cond.instanceMethod ⟨"WallFractions$Divider", "<init>", "()V"⟩ ∈ TT := TT_1 76 (by decide +kernel) rfl
theorem w_77 : Cond.code ⟨"WallFractions$Divider", "<init>", "()V"⟩ prog_2_method_1_code 1 (Option.none : Option ClassFile.FieldType) ∈ TT := TT_1 77 rfl rfl
theorem w_78 : Cond.methodLink "WallFractions$Divider" 3 ⟨"java/lang/Object", "<init>", "()V"⟩ ∈ TT := TT_1 78 (by decide +kernel) rfl
theorem w_79 : Cond.fieldLink "WallFractions$Divider" 9 "WallFractions$Divider" "left" "[J" ∈ TT := TT_1 79 (by decide +kernel) rfl
theorem w_80 : Cond.fieldLink "WallFractions$Divider" 15 "WallFractions$Divider" "by" "[J" ∈ TT := TT_1 80 (by decide +kernel) rfl
theorem w_81 : Cond.laysFinal "WallFractions$Divider" "WallFractions$Divider" "left" "[J" ∈ TT := TT_1 81 (by decide +kernel) rfl
theorem w_83 : Cond.laysFinal "WallFractions$Divider" "WallFractions$Divider" "by" "[J" ∈ TT := TT_1 83 (by decide +kernel) rfl
theorem w_86 : Cond.classLink "WallFractions" 19 "WallFractions$Reckoner" ∈ TT := TT_1 86 (by decide +kernel) rfl
theorem w_87 : Cond.instantiable "WallFractions$Reckoner" 7 ∈ TT := TT_1 87 (by decide +kernel) rfl
theorem w_88 : Cond.methodLink "WallFractions" 21 ⟨"WallFractions$Reckoner", "<init>", "(LWallFractions$Divider;)V"⟩ ∈ TT := TT_1 88 (by decide +kernel) rfl
theorem w_89 : Cond.instanceMethod ⟨"WallFractions$Reckoner", "<init>", "(LWallFractions$Divider;)V"⟩ ∈ TT := TT_1 89 (by decide +kernel) rfl
theorem w_90 : Cond.code ⟨"WallFractions$Reckoner", "<init>", "(LWallFractions$Divider;)V"⟩ prog_5_method_1_code 2 (Option.none : Option ClassFile.FieldType) ∈ TT := TT_1 90 rfl rfl
theorem w_91 : Cond.methodLink "WallFractions$Reckoner" 3 ⟨"java/lang/Object", "<init>", "()V"⟩ ∈ TT := TT_1 91 (by decide +kernel) rfl
theorem w_92 : Cond.classLink "WallFractions$Reckoner" 15 "WallFractions$Measure" ∈ TT := TT_1 92 (by decide +kernel) rfl
theorem w_93 : Cond.instantiable "WallFractions$Measure" 9 ∈ TT := TT_1 93 (by decide +kernel) rfl
theorem w_94 : Cond.methodLink "WallFractions$Reckoner" 17 ⟨"WallFractions$Measure", "<init>", "(LWallFractions$Divider;)V"⟩ ∈ TT := TT_1 94 (by decide +kernel) rfl
theorem w_95 : Cond.instanceMethod ⟨"WallFractions$Measure", "<init>", "(LWallFractions$Divider;)V"⟩ ∈ TT := TT_1 95 (by decide +kernel) rfl
theorem w_96 : Cond.code ⟨"WallFractions$Measure", "<init>", "(LWallFractions$Divider;)V"⟩ prog_4_method_1_code 2 (Option.none : Option ClassFile.FieldType) ∈ TT := TT_1 96 rfl rfl
theorem w_97 : Cond.methodLink "WallFractions$Measure" 3 ⟨"java/lang/Object", "<init>", "()V"⟩ ∈ TT := TT_1 97 (by decide +kernel) rfl
theorem w_98 : Cond.classLink "WallFractions$Measure" 15 "WallFractions$Whole" ∈ TT := TT_1 98 (by decide +kernel) rfl
theorem w_99 : Cond.methodLink "WallFractions$Measure" 17 ⟨"WallFractions$Whole", "<init>", "()V"⟩ ∈ TT := TT_1 99 (by decide +kernel) rfl
theorem w_100 : Cond.fieldLink "WallFractions$Measure" 9 "WallFractions$Measure" "divider" "LWallFractions$Divider;" ∈ TT := TT_1 100 (by decide +kernel) rfl
theorem w_101 : Cond.fieldLink "WallFractions$Measure" 18 "WallFractions$Measure" "quotient" "LWallFractions$Whole;" ∈ TT := TT_1 101 (by decide +kernel) rfl
theorem w_102 : Cond.fieldLink "WallFractions$Measure" 22 "WallFractions$Measure" "greater" "LWallFractions$Whole;" ∈ TT := TT_1 102 (by decide +kernel) rfl
theorem w_103 : Cond.fieldLink "WallFractions$Measure" 25 "WallFractions$Measure" "lesser" "LWallFractions$Whole;" ∈ TT := TT_1 103 (by decide +kernel) rfl
theorem w_104 : Cond.fieldLink "WallFractions$Measure" 28 "WallFractions$Measure" "rest" "LWallFractions$Whole;" ∈ TT := TT_1 104 (by decide +kernel) rfl
theorem w_105 : Cond.fieldLink "WallFractions$Measure" 91 "WallFractions$Measure" "a" "J" ∈ TT := TT_1 105 (by decide +kernel) rfl
theorem w_106 : Cond.fieldLink "WallFractions$Measure" 51 "WallFractions$Measure" "b" "J" ∈ TT := TT_1 106 (by decide +kernel) rfl
theorem w_107 : Cond.fieldLink "WallFractions$Measure" 94 "WallFractions$Measure" "c" "J" ∈ TT := TT_1 107 (by decide +kernel) rfl
theorem w_108 : Cond.fieldLink "WallFractions$Measure" 97 "WallFractions$Measure" "d" "J" ∈ TT := TT_1 108 (by decide +kernel) rfl
theorem w_109 : Cond.laysFinal "WallFractions$Measure" "WallFractions$Measure" "divider" "LWallFractions$Divider;" ∈ TT := TT_1 109 (by decide +kernel) rfl
theorem w_111 : Cond.laysFinal "WallFractions$Measure" "WallFractions$Measure" "quotient" "LWallFractions$Whole;" ∈ TT := TT_1 111 (by decide +kernel) rfl
theorem w_113 : Cond.lays "WallFractions$Measure" "WallFractions$Measure" "greater" "LWallFractions$Whole;" ∈ TT := TT_1 113 (by decide +kernel) rfl
theorem w_115 : Cond.lays "WallFractions$Measure" "WallFractions$Measure" "lesser" "LWallFractions$Whole;" ∈ TT := TT_1 115 (by decide +kernel) rfl
theorem w_117 : Cond.lays "WallFractions$Measure" "WallFractions$Measure" "rest" "LWallFractions$Whole;" ∈ TT := TT_1 117 (by decide +kernel) rfl
theorem w_119 : Cond.lays "WallFractions$Measure" "WallFractions$Measure" "a" "J" ∈ TT := TT_1 119 (by decide +kernel) rfl
theorem w_121 : Cond.lays "WallFractions$Measure" "WallFractions$Measure" "b" "J" ∈ TT := TT_1 121 (by decide +kernel) rfl
theorem w_123 : Cond.lays "WallFractions$Measure" "WallFractions$Measure" "c" "J" ∈ TT := TT_1 123 (by decide +kernel) rfl
theorem w_125 : Cond.lays "WallFractions$Measure" "WallFractions$Measure" "d" "J" ∈ TT := TT_1 125 (by decide +kernel) rfl
theorem w_128 : Cond.classLink "WallFractions$Reckoner" 24 "WallFractions$Fraction" ∈ TT := TT_1 128 (by decide +kernel) rfl
theorem w_129 : Cond.methodLink "WallFractions$Reckoner" 26 ⟨"WallFractions$Fraction", "<init>", "()V"⟩ ∈ TT := TT_1 129 (by decide +kernel) rfl
theorem w_130 : Cond.classLink "WallFractions$Reckoner" 31 "WallFractions$Whole" ∈ TT := TT_1 130 (by decide +kernel) rfl
theorem w_131 : Cond.methodLink "WallFractions$Reckoner" 33 ⟨"WallFractions$Whole", "<init>", "()V"⟩ ∈ TT := TT_1 131 (by decide +kernel) rfl
theorem w_132 : Cond.fieldLink "WallFractions$Reckoner" 9 "WallFractions$Reckoner" "divider" "LWallFractions$Divider;" ∈ TT := TT_1 132 (by decide +kernel) rfl
theorem w_133 : Cond.fieldLink "WallFractions$Reckoner" 20 "WallFractions$Reckoner" "measure" "LWallFractions$Measure;" ∈ TT := TT_1 133 (by decide +kernel) rfl
theorem w_134 : Cond.fieldLink "WallFractions$Reckoner" 27 "WallFractions$Reckoner" "out" "LWallFractions$Fraction;" ∈ TT := TT_1 134 (by decide +kernel) rfl
theorem w_136 : Cond.fieldLink "WallFractions$Reckoner" 34 "WallFractions$Reckoner" "left" "LWallFractions$Whole;" ∈ TT := TT_1 136 (by decide +kernel) rfl
theorem w_137 : Cond.fieldLink "WallFractions$Reckoner" 38 "WallFractions$Reckoner" "right" "LWallFractions$Whole;" ∈ TT := TT_1 137 (by decide +kernel) rfl
theorem w_138 : Cond.fieldLink "WallFractions$Reckoner" 41 "WallFractions$Reckoner" "quotient" "LWallFractions$Whole;" ∈ TT := TT_1 138 (by decide +kernel) rfl
theorem w_139 : Cond.fieldLink "WallFractions$Reckoner" 44 "WallFractions$Reckoner" "rest" "LWallFractions$Whole;" ∈ TT := TT_1 139 (by decide +kernel) rfl
theorem w_140 : Cond.laysFinal "WallFractions$Reckoner" "WallFractions$Reckoner" "divider" "LWallFractions$Divider;" ∈ TT := TT_1 140 (by decide +kernel) rfl
theorem w_142 : Cond.laysFinal "WallFractions$Reckoner" "WallFractions$Reckoner" "measure" "LWallFractions$Measure;" ∈ TT := TT_1 142 (by decide +kernel) rfl
theorem w_144 : Cond.laysFinal "WallFractions$Reckoner" "WallFractions$Reckoner" "out" "LWallFractions$Fraction;" ∈ TT := TT_1 144 (by decide +kernel) rfl
theorem w_146 : Cond.laysFinal "WallFractions$Reckoner" "WallFractions$Reckoner" "left" "LWallFractions$Whole;" ∈ TT := TT_1 146 (by decide +kernel) rfl
theorem w_148 : Cond.laysFinal "WallFractions$Reckoner" "WallFractions$Reckoner" "right" "LWallFractions$Whole;" ∈ TT := TT_1 148 (by decide +kernel) rfl
theorem w_150 : Cond.laysFinal "WallFractions$Reckoner" "WallFractions$Reckoner" "quotient" "LWallFractions$Whole;" ∈ TT := TT_1 150 (by decide +kernel) rfl
theorem w_152 : Cond.laysFinal "WallFractions$Reckoner" "WallFractions$Reckoner" "rest" "LWallFractions$Whole;" ∈ TT := TT_1 152 (by decide +kernel) rfl
theorem w_155 : Cond.classLink "WallFractions" 28 "WallFractions$Sharing" ∈ TT := TT_1 155 (by decide +kernel) rfl
theorem w_156 : Cond.instantiable "WallFractions$Sharing" 7 ∈ TT := TT_1 156 (by decide +kernel) rfl
theorem w_157 : Cond.methodLink "WallFractions" 30 ⟨"WallFractions$Sharing", "<init>", "(LWallFractions$Divider;)V"⟩ ∈ TT := TT_1 157 (by decide +kernel) rfl
theorem w_158 : Cond.instanceMethod ⟨"WallFractions$Sharing", "<init>", "(LWallFractions$Divider;)V"⟩ ∈ TT := TT_1 158 (by decide +kernel) rfl
theorem w_159 : Cond.code ⟨"WallFractions$Sharing", "<init>", "(LWallFractions$Divider;)V"⟩ prog_6_method_1_code 2 (Option.none : Option ClassFile.FieldType) ∈ TT := TT_1 159 rfl rfl
theorem w_160 : Cond.methodLink "WallFractions$Sharing" 3 ⟨"java/lang/Object", "<init>", "()V"⟩ ∈ TT := TT_1 160 (by decide +kernel) rfl
theorem w_161 : Cond.classLink "WallFractions$Sharing" 23 "WallFractions$Whole" ∈ TT := TT_1 161 (by decide +kernel) rfl
theorem w_162 : Cond.methodLink "WallFractions$Sharing" 25 ⟨"WallFractions$Whole", "<init>", "()V"⟩ ∈ TT := TT_1 162 (by decide +kernel) rfl
theorem w_163 : Cond.fieldLink "WallFractions$Sharing" 9 "WallFractions$Sharing" "divider" "LWallFractions$Divider;" ∈ TT := TT_1 163 (by decide +kernel) rfl
theorem w_164 : Cond.fieldLink "WallFractions$Sharing" 15 "WallFractions$Sharing" "weights" "[I" ∈ TT := TT_1 164 (by decide +kernel) rfl
theorem w_165 : Cond.fieldLink "WallFractions$Sharing" 19 "WallFractions$Sharing" "rests" "[J" ∈ TT := TT_1 165 (by decide +kernel) rfl
theorem w_166 : Cond.fieldLink "WallFractions$Sharing" 26 "WallFractions$Sharing" "sum" "LWallFractions$Whole;" ∈ TT := TT_1 166 (by decide +kernel) rfl
theorem w_167 : Cond.fieldLink "WallFractions$Sharing" 30 "WallFractions$Sharing" "product" "LWallFractions$Whole;" ∈ TT := TT_1 167 (by decide +kernel) rfl
theorem w_168 : Cond.fieldLink "WallFractions$Sharing" 33 "WallFractions$Sharing" "rest" "LWallFractions$Whole;" ∈ TT := TT_1 168 (by decide +kernel) rfl
theorem w_169 : Cond.fieldLink "WallFractions$Sharing" 36 "WallFractions$Sharing" "part" "LWallFractions$Whole;" ∈ TT := TT_1 169 (by decide +kernel) rfl
theorem w_170 : Cond.laysFinal "WallFractions$Sharing" "WallFractions$Sharing" "divider" "LWallFractions$Divider;" ∈ TT := TT_1 170 (by decide +kernel) rfl
theorem w_172 : Cond.laysFinal "WallFractions$Sharing" "WallFractions$Sharing" "weights" "[I" ∈ TT := TT_1 172 (by decide +kernel) rfl
theorem w_174 : Cond.laysFinal "WallFractions$Sharing" "WallFractions$Sharing" "rests" "[J" ∈ TT := TT_1 174 (by decide +kernel) rfl
theorem w_176 : Cond.laysFinal "WallFractions$Sharing" "WallFractions$Sharing" "sum" "LWallFractions$Whole;" ∈ TT := TT_1 176 (by decide +kernel) rfl
theorem w_178 : Cond.laysFinal "WallFractions$Sharing" "WallFractions$Sharing" "product" "LWallFractions$Whole;" ∈ TT := TT_1 178 (by decide +kernel) rfl
theorem w_180 : Cond.laysFinal "WallFractions$Sharing" "WallFractions$Sharing" "rest" "LWallFractions$Whole;" ∈ TT := TT_1 180 (by decide +kernel) rfl
theorem w_182 : Cond.laysFinal "WallFractions$Sharing" "WallFractions$Sharing" "part" "LWallFractions$Whole;" ∈ TT := TT_1 182 (by decide +kernel) rfl
theorem w_185 : Cond.arrayClass ClassFile.FieldType.int ∈ TT := TT_1 185 (by decide +kernel) rfl
theorem w_186 : Cond.fieldLink "WallFractions" 11 "WallFractions" "registers" "[LWallFractions$Fraction;" ∈ TT := TT_1 186 (by decide +kernel) rfl
theorem w_187 : Cond.fieldLink "WallFractions" 24 "WallFractions" "reckoner" "LWallFractions$Reckoner;" ∈ TT := TT_1 187 (by decide +kernel) rfl
theorem w_188 : Cond.fieldLink "WallFractions" 31 "WallFractions" "sharing" "LWallFractions$Sharing;" ∈ TT := TT_1 188 (by decide +kernel) rfl
theorem w_189 : Cond.laysFinal "WallFractions" "WallFractions" "registers" "[LWallFractions$Fraction;" ∈ TT := TT_1 189 (by decide +kernel) rfl
theorem w_191 : Cond.laysFinal "WallFractions" "WallFractions" "reckoner" "LWallFractions$Reckoner;" ∈ TT := TT_1 191 (by decide +kernel) rfl
theorem w_193 : Cond.laysFinal "WallFractions" "WallFractions" "sharing" "LWallFractions$Sharing;" ∈ TT := TT_1 193 (by decide +kernel) rfl
theorem w_196 : Cond.methodLink "WallFractionsLaw" 84 ⟨"WallFractionsLaw", "set", "(LWallFractions;IJJ)I"⟩ ∈ TT := TT_1 196 (by decide +kernel) rfl
theorem w_197 : Cond.static ⟨"WallFractionsLaw", "set", "(LWallFractions;IJJ)I"⟩ ∈ TT := TT_1 197 (by decide +kernel) rfl
theorem w_198 : Cond.codeWith ⟨"WallFractionsLaw", "set", "(LWallFractions;IJJ)I"⟩ method_3_code 7 (Option.some ClassFile.FieldType.int) [(0, 8, 11, 13), (0, 8, 15, 15)] ∈ TT := TT_1 198 rfl rfl
theorem w_199 : Cond.classLink "WallFractionsLaw" 13 "java/lang/IllegalArgumentException" ∈ TT := TT_1 199 (by decide +kernel) rfl
theorem w_200 : Cond.classLink "WallFractionsLaw" 15 "java/lang/ArithmeticException" ∈ TT := TT_1 200 (by decide +kernel) rfl
theorem w_201 : Cond.methodLink "WallFractionsLaw" 7 ⟨"WallFractions", "set", "(IJJ)V"⟩ ∈ TT := TT_1 201 (by decide +kernel) rfl
theorem w_202 : Cond.instanceMethod ⟨"WallFractions", "set", "(IJJ)V"⟩ ∈ TT := TT_1 202 (by decide +kernel) rfl
theorem w_203 : Cond.selects "WallFractions" ⟨"WallFractions", "set", "(IJJ)V"⟩ ⟨"WallFractions", "set", "(IJJ)V"⟩ ∈ TT := TT_1 203 (by decide +kernel) rfl
theorem w_204 : Cond.code ⟨"WallFractions", "set", "(IJJ)V"⟩ prog_1_method_2_code 6 (Option.none : Option ClassFile.FieldType) ∈ TT := TT_1 204 rfl rfl
theorem w_205 : Cond.methodLink "WallFractions" 35 ⟨"WallFractions", "requireRegister", "(I)V"⟩ ∈ TT := TT_1 205 (by decide +kernel) rfl
theorem w_206 : Cond.static ⟨"WallFractions", "requireRegister", "(I)V"⟩ ∈ TT := TT_1 206 (by decide +kernel) rfl
theorem w_207 : Cond.code ⟨"WallFractions", "requireRegister", "(I)V"⟩ prog_1_method_21_code 1 (Option.none : Option ClassFile.FieldType) ∈ TT := TT_1 207 rfl rfl
theorem w_208 : Cond.classLink "WallFractions" 187 "java/lang/IllegalArgumentException" ∈ TT := TT_1 208 (by decide +kernel) rfl
theorem w_209 : Cond.instantiable "java/lang/IllegalArgumentException" 6 ∈ TT := TT_1 209 (by decide +kernel) rfl
theorem w_217 : Cond.selects "java/lang/IllegalArgumentException" ⟨"java/lang/Throwable", "fillInStackTrace", "(I)Ljava/lang/Throwable;"⟩ ⟨"java/lang/Throwable", "fillInStackTrace", "(I)Ljava/lang/Throwable;"⟩ ∈ TT := TT_1 217 (by decide +kernel) rfl
theorem w_218 : Cond.selects "java/lang/IllegalArgumentException" ⟨"java/lang/Throwable", "fillInStackTrace", "()Ljava/lang/Throwable;"⟩ ⟨"java/lang/Throwable", "fillInStackTrace", "()Ljava/lang/Throwable;"⟩ ∈ TT := TT_1 218 (by decide +kernel) rfl
theorem w_219 : Cond.lays "java/lang/IllegalArgumentException" "java/lang/Throwable" "cause" "Ljava/lang/Throwable;" ∈ TT := TT_1 219 (by decide +kernel) rfl
theorem w_220 : Cond.lays "java/lang/Throwable" "java/lang/Throwable" "cause" "Ljava/lang/Throwable;" ∈ TT := TT_1 220 (by decide +kernel) rfl
theorem w_221 : Cond.lays "java/lang/IllegalArgumentException" "java/lang/Throwable" "stackTrace" "[Ljava/lang/StackTraceElement;" ∈ TT := TT_1 221 (by decide +kernel) rfl
theorem w_222 : Cond.lays "java/lang/Throwable" "java/lang/Throwable" "stackTrace" "[Ljava/lang/StackTraceElement;" ∈ TT := TT_1 222 (by decide +kernel) rfl
theorem w_223 : Cond.lays "java/lang/IllegalArgumentException" "java/lang/Throwable" "suppressedExceptions" "Ljava/util/List;" ∈ TT := TT_1 223 (by decide +kernel) rfl
theorem w_224 : Cond.lays "java/lang/Throwable" "java/lang/Throwable" "suppressedExceptions" "Ljava/util/List;" ∈ TT := TT_1 224 (by decide +kernel) rfl
theorem w_225 : Cond.lays "java/lang/IllegalArgumentException" "java/lang/Throwable" "detailMessage" "Ljava/lang/String;" ∈ TT := TT_1 225 (by decide +kernel) rfl
theorem w_226 : Cond.lays "java/lang/Throwable" "java/lang/Throwable" "detailMessage" "Ljava/lang/String;" ∈ TT := TT_1 226 (by decide +kernel) rfl
theorem w_227 : Cond.lays "java/lang/IllegalArgumentException" "java/lang/Throwable" "backtrace" "Ljava/lang/Object;" ∈ TT := TT_1 227 (by decide +kernel) rfl
theorem w_228 : Cond.lays "java/lang/Throwable" "java/lang/Throwable" "backtrace" "Ljava/lang/Object;" ∈ TT := TT_1 228 (by decide +kernel) rfl
theorem w_229 : Cond.fieldLink "java/lang/Throwable" 198 "java/lang/Throwable" "backtrace" "Ljava/lang/Object;" ∈ TT := TT_1 229 (by decide +kernel) rfl
theorem w_231 : Cond.instanceMethod ⟨"java/lang/Throwable", "<init>", "()V"⟩ ∈ TT := TT_1 231 (by decide +kernel) rfl
theorem w_232 : Cond.code ⟨"java/lang/Throwable", "<init>", "()V"⟩ prog_19_method_1_code 1 (Option.none : Option ClassFile.FieldType) ∈ TT := TT_1 232 rfl rfl
theorem w_233 : Cond.methodLink "java/lang/Throwable" 1 ⟨"java/lang/Object", "<init>", "()V"⟩ ∈ TT := TT_1 233 (by decide +kernel) rfl
theorem w_234 : Cond.fieldLink "java/lang/Throwable" 13 "java/lang/Throwable" "UNASSIGNED_STACK" "[Ljava/lang/StackTraceElement;" ∈ TT := TT_1 234 (by decide +kernel) rfl
theorem w_236 : Cond.fieldLink "java/lang/Throwable" 20 "java/lang/Throwable" "SUPPRESSED_SENTINEL" "Ljava/util/List;" ∈ TT := TT_1 236 (by decide +kernel) rfl
theorem w_238 : Cond.methodLink "java/lang/Throwable" 27 ⟨"java/lang/Throwable", "fillInStackTrace", "()Ljava/lang/Throwable;"⟩ ∈ TT := TT_1 238 (by decide +kernel) rfl
theorem w_239 : Cond.instanceMethod ⟨"java/lang/Throwable", "fillInStackTrace", "()Ljava/lang/Throwable;"⟩ ∈ TT := TT_1 239 (by decide +kernel) rfl
theorem w_240 : Cond.sameMethod "java/lang/Throwable" "java/lang/Throwable" "fillInStackTrace" "()Ljava/lang/Throwable;" ∈ TT := TT_2 0 (by decide +kernel) rfl
theorem w_241 : Cond.selects "java/lang/ArithmeticException" ⟨"java/lang/Throwable", "fillInStackTrace", "()Ljava/lang/Throwable;"⟩ ⟨"java/lang/Throwable", "fillInStackTrace", "()Ljava/lang/Throwable;"⟩ ∈ TT := TT_2 1 (by decide +kernel) rfl
theorem w_242 : Cond.selects "java/lang/IllegalStateException" ⟨"java/lang/Throwable", "fillInStackTrace", "()Ljava/lang/Throwable;"⟩ ⟨"java/lang/Throwable", "fillInStackTrace", "()Ljava/lang/Throwable;"⟩ ∈ TT := TT_2 2 (by decide +kernel) rfl
theorem w_243 : Cond.selects "java/lang/IndexOutOfBoundsException" ⟨"java/lang/Throwable", "fillInStackTrace", "()Ljava/lang/Throwable;"⟩ ⟨"java/lang/Throwable", "fillInStackTrace", "()Ljava/lang/Throwable;"⟩ ∈ TT := TT_2 3 (by decide +kernel) rfl
theorem w_245 : Cond.methodLink "java/lang/Throwable" 202 ⟨"java/lang/Throwable", "fillInStackTrace", "(I)Ljava/lang/Throwable;"⟩ ∈ TT := TT_2 5 (by decide +kernel) rfl
theorem w_247 : Cond.instanceMethod ⟨"java/lang/Throwable", "fillInStackTrace", "(I)Ljava/lang/Throwable;"⟩ ∈ TT := TT_2 7 (by decide +kernel) rfl
theorem w_248 : Cond.instantiable "java/lang/Throwable" 6 ∈ TT := TT_2 8 (by decide +kernel) rfl
theorem w_249 : Cond.native ⟨"java/lang/Throwable", "fillInStackTrace", "(I)Ljava/lang/Throwable;"⟩ ∈ TT := TT_2 9 (by decide +kernel) rfl
theorem w_251 : Cond.methodLink "WallFractions" 191 ⟨"java/lang/IllegalArgumentException", "<init>", "(Ljava/lang/String;)V"⟩ ∈ TT := TT_2 11 (by decide +kernel) rfl
theorem w_252 : Cond.instanceMethod ⟨"java/lang/IllegalArgumentException", "<init>", "(Ljava/lang/String;)V"⟩ ∈ TT := TT_2 12 (by decide +kernel) rfl
theorem w_253 : Cond.code ⟨"java/lang/IllegalArgumentException", "<init>", "(Ljava/lang/String;)V"⟩ prog_12_method_2_code 2 (Option.none : Option ClassFile.FieldType) ∈ TT := TT_2 13 rfl rfl
theorem w_254 : Cond.methodLink "java/lang/IllegalArgumentException" 7 ⟨"java/lang/RuntimeException", "<init>", "(Ljava/lang/String;)V"⟩ ∈ TT := TT_2 14 (by decide +kernel) rfl
theorem w_255 : Cond.instanceMethod ⟨"java/lang/RuntimeException", "<init>", "(Ljava/lang/String;)V"⟩ ∈ TT := TT_2 15 (by decide +kernel) rfl
theorem w_256 : Cond.code ⟨"java/lang/RuntimeException", "<init>", "(Ljava/lang/String;)V"⟩ prog_16_method_2_code 2 (Option.none : Option ClassFile.FieldType) ∈ TT := TT_2 16 rfl rfl
theorem w_257 : Cond.methodLink "java/lang/RuntimeException" 7 ⟨"java/lang/Exception", "<init>", "(Ljava/lang/String;)V"⟩ ∈ TT := TT_2 17 (by decide +kernel) rfl
theorem w_258 : Cond.instanceMethod ⟨"java/lang/Exception", "<init>", "(Ljava/lang/String;)V"⟩ ∈ TT := TT_2 18 (by decide +kernel) rfl
theorem w_259 : Cond.code ⟨"java/lang/Exception", "<init>", "(Ljava/lang/String;)V"⟩ prog_11_method_2_code 2 (Option.none : Option ClassFile.FieldType) ∈ TT := TT_2 19 rfl rfl
theorem w_260 : Cond.methodLink "java/lang/Exception" 7 ⟨"java/lang/Throwable", "<init>", "(Ljava/lang/String;)V"⟩ ∈ TT := TT_2 20 (by decide +kernel) rfl
theorem w_261 : Cond.instanceMethod ⟨"java/lang/Throwable", "<init>", "(Ljava/lang/String;)V"⟩ ∈ TT := TT_2 21 (by decide +kernel) rfl
theorem w_262 : Cond.code ⟨"java/lang/Throwable", "<init>", "(Ljava/lang/String;)V"⟩ prog_19_method_2_code 2 (Option.none : Option ClassFile.FieldType) ∈ TT := TT_2 22 rfl rfl
theorem w_263 : Cond.fieldLink "java/lang/Throwable" 198 "java/lang/Throwable" "backtrace" "Ljava/lang/Object;" ∈ TT := TT_2 23 (by decide +kernel) rfl
theorem w_264 : Cond.fieldLink "java/lang/Throwable" 31 "java/lang/Throwable" "detailMessage" "Ljava/lang/String;" ∈ TT := TT_2 24 (by decide +kernel) rfl
theorem w_265 : Cond.fieldLink "java/lang/Throwable" 7 "java/lang/Throwable" "cause" "Ljava/lang/Throwable;" ∈ TT := TT_2 25 (by decide +kernel) rfl
theorem w_266 : Cond.fieldLink "java/lang/Throwable" 17 "java/lang/Throwable" "stackTrace" "[Ljava/lang/StackTraceElement;" ∈ TT := TT_2 26 (by decide +kernel) rfl
theorem w_267 : Cond.fieldLink "java/lang/Throwable" 24 "java/lang/Throwable" "suppressedExceptions" "Ljava/util/List;" ∈ TT := TT_2 27 (by decide +kernel) rfl
theorem w_272 : Cond.lays "java/lang/IllegalArgumentException" "java/lang/Throwable" "depth" "I" ∈ TT := TT_2 32 (by decide +kernel) rfl
theorem w_276 : Cond.arrayClass ClassFile.FieldType.byte ∈ TT := TT_2 36 (by decide +kernel) rfl
theorem w_277 : Cond.constantLong "WallFractions" 41 (-9223372036854775807) ∈ TT := TT_2 37 (by decide +kernel) rfl
theorem w_278 : Cond.constantLong "WallFractions" 43 9223372036854775807 ∈ TT := TT_2 38 (by decide +kernel) rfl
theorem w_279 : Cond.methodLink "WallFractions" 45 ⟨"WallFractions", "requireWithin", "(JJJ)V"⟩ ∈ TT := TT_2 39 (by decide +kernel) rfl
theorem w_280 : Cond.static ⟨"WallFractions", "requireWithin", "(JJJ)V"⟩ ∈ TT := TT_2 40 (by decide +kernel) rfl
theorem w_281 : Cond.code ⟨"WallFractions", "requireWithin", "(JJJ)V"⟩ prog_1_method_20_code 6 (Option.none : Option ClassFile.FieldType) ∈ TT := TT_2 41 rfl rfl
theorem w_283 : Cond.classLink "WallFractions" 49 "java/lang/ArithmeticException" ∈ TT := TT_2 43 (by decide +kernel) rfl
theorem w_284 : Cond.instantiable "java/lang/ArithmeticException" 6 ∈ TT := TT_2 44 (by decide +kernel) rfl
theorem w_286 : Cond.selects "java/lang/ArithmeticException" ⟨"java/lang/Throwable", "fillInStackTrace", "(I)Ljava/lang/Throwable;"⟩ ⟨"java/lang/Throwable", "fillInStackTrace", "(I)Ljava/lang/Throwable;"⟩ ∈ TT := TT_2 46 (by decide +kernel) rfl
theorem w_287 : Cond.lays "java/lang/ArithmeticException" "java/lang/Throwable" "cause" "Ljava/lang/Throwable;" ∈ TT := TT_2 47 (by decide +kernel) rfl
theorem w_288 : Cond.lays "java/lang/ArithmeticException" "java/lang/Throwable" "stackTrace" "[Ljava/lang/StackTraceElement;" ∈ TT := TT_2 48 (by decide +kernel) rfl
theorem w_289 : Cond.lays "java/lang/ArithmeticException" "java/lang/Throwable" "suppressedExceptions" "Ljava/util/List;" ∈ TT := TT_2 49 (by decide +kernel) rfl
theorem w_290 : Cond.lays "java/lang/ArithmeticException" "java/lang/Throwable" "detailMessage" "Ljava/lang/String;" ∈ TT := TT_2 50 (by decide +kernel) rfl
theorem w_291 : Cond.lays "java/lang/ArithmeticException" "java/lang/Throwable" "backtrace" "Ljava/lang/Object;" ∈ TT := TT_2 51 (by decide +kernel) rfl
theorem w_293 : Cond.methodLink "WallFractions" 53 ⟨"java/lang/ArithmeticException", "<init>", "(Ljava/lang/String;)V"⟩ ∈ TT := TT_2 53 (by decide +kernel) rfl
theorem w_294 : Cond.instanceMethod ⟨"java/lang/ArithmeticException", "<init>", "(Ljava/lang/String;)V"⟩ ∈ TT := TT_2 54 (by decide +kernel) rfl
theorem w_295 : Cond.code ⟨"java/lang/ArithmeticException", "<init>", "(Ljava/lang/String;)V"⟩ prog_10_method_2_code 2 (Option.none : Option ClassFile.FieldType) ∈ TT := TT_2 55 rfl rfl
theorem w_296 : Cond.methodLink "java/lang/ArithmeticException" 7 ⟨"java/lang/RuntimeException", "<init>", "(Ljava/lang/String;)V"⟩ ∈ TT := TT_2 56 (by decide +kernel) rfl
theorem w_297 : Cond.lays "java/lang/ArithmeticException" "java/lang/Throwable" "depth" "I" ∈ TT := TT_2 57 (by decide +kernel) rfl
theorem w_299 : Cond.methodLink "WallFractions" 56 ⟨"WallFractions$Reckoner", "ratio", "(JJ)V"⟩ ∈ TT := TT_2 59 (by decide +kernel) rfl
theorem w_300 : Cond.instanceMethod ⟨"WallFractions$Reckoner", "ratio", "(JJ)V"⟩ ∈ TT := TT_2 60 (by decide +kernel) rfl
theorem w_301 : Cond.selects "WallFractions$Reckoner" ⟨"WallFractions$Reckoner", "ratio", "(JJ)V"⟩ ⟨"WallFractions$Reckoner", "ratio", "(JJ)V"⟩ ∈ TT := TT_2 61 (by decide +kernel) rfl
theorem w_302 : Cond.code ⟨"WallFractions$Reckoner", "ratio", "(JJ)V"⟩ prog_5_method_3_code 7 (Option.none : Option ClassFile.FieldType) ∈ TT := TT_2 62 rfl rfl
theorem w_303 : Cond.methodLink "WallFractions$Reckoner" 58 ⟨"java/lang/Math", "abs", "(J)J"⟩ ∈ TT := TT_2 63 (by decide +kernel) rfl
theorem w_304 : Cond.static ⟨"java/lang/Math", "abs", "(J)J"⟩ ∈ TT := TT_2 64 (by decide +kernel) rfl
theorem w_305 : Cond.code ⟨"java/lang/Math", "abs", "(J)J"⟩ prog_15_method_61_code 2 (Option.some ClassFile.FieldType.long) ∈ TT := TT_2 65 rfl rfl
theorem w_306 : Cond.methodLink "WallFractions$Reckoner" 64 ⟨"WallFractions$Measure", "ofShort", "(JJ)J"⟩ ∈ TT := TT_2 66 (by decide +kernel) rfl
theorem w_307 : Cond.static ⟨"WallFractions$Measure", "ofShort", "(JJ)J"⟩ ∈ TT := TT_2 67 (by decide +kernel) rfl
theorem w_308 : Cond.code ⟨"WallFractions$Measure", "ofShort", "(JJ)J"⟩ prog_4_method_3_code 11 (Option.some ClassFile.FieldType.long) ∈ TT := TT_2 68 rfl rfl
theorem w_309 : Cond.constant "WallFractions$Measure" 39 100000 ∈ TT := TT_2 69 (by decide +kernel) rfl
theorem w_310 : Cond.methodLink "WallFractions$Reckoner" 71 ⟨"WallFractions$Whole", "become", "(J)V"⟩ ∈ TT := TT_2 70 (by decide +kernel) rfl
theorem w_311 : Cond.methodLink "WallFractions" 60 ⟨"WallFractions", "keep", "(I)V"⟩ ∈ TT := TT_2 71 (by decide +kernel) rfl
theorem w_313 : Cond.instanceMethod ⟨"WallFractions", "keep", "(I)V"⟩ ∈ TT := TT_2 73 (by decide +kernel) rfl
theorem w_314 : Cond.code ⟨"WallFractions", "keep", "(I)V"⟩ prog_1_method_25_code 2 (Option.none : Option ClassFile.FieldType) ∈ TT := TT_2 74 rfl rfl
theorem w_315 : Cond.methodLink "WallFractions" 199 ⟨"WallFractions$Reckoner", "requireFit", "()V"⟩ ∈ TT := TT_2 75 (by decide +kernel) rfl
theorem w_316 : Cond.instanceMethod ⟨"WallFractions$Reckoner", "requireFit", "()V"⟩ ∈ TT := TT_2 76 (by decide +kernel) rfl
theorem w_317 : Cond.selects "WallFractions$Reckoner" ⟨"WallFractions$Reckoner", "requireFit", "()V"⟩ ⟨"WallFractions$Reckoner", "requireFit", "()V"⟩ ∈ TT := TT_2 77 (by decide +kernel) rfl
theorem w_318 : Cond.code ⟨"WallFractions$Reckoner", "requireFit", "()V"⟩ prog_5_method_2_code 1 (Option.none : Option ClassFile.FieldType) ∈ TT := TT_2 78 rfl rfl
theorem w_319 : Cond.methodLink "WallFractions$Reckoner" 47 ⟨"WallFractions$Fraction", "fits", "()Z"⟩ ∈ TT := TT_2 79 (by decide +kernel) rfl
theorem w_320 : Cond.instanceMethod ⟨"WallFractions$Fraction", "fits", "()Z"⟩ ∈ TT := TT_2 80 (by decide +kernel) rfl
theorem w_321 : Cond.selects "WallFractions$Fraction" ⟨"WallFractions$Fraction", "fits", "()Z"⟩ ⟨"WallFractions$Fraction", "fits", "()Z"⟩ ∈ TT := TT_2 81 (by decide +kernel) rfl
theorem w_322 : Cond.code ⟨"WallFractions$Fraction", "fits", "()Z"⟩ prog_3_method_3_code 1 (Option.some ClassFile.FieldType.boolean) ∈ TT := TT_2 82 rfl rfl
theorem w_323 : Cond.classLink "WallFractions$Reckoner" 51 "java/lang/IllegalStateException" ∈ TT := TT_2 83 (by decide +kernel) rfl
theorem w_324 : Cond.instantiable "java/lang/IllegalStateException" 6 ∈ TT := TT_2 84 (by decide +kernel) rfl
theorem w_326 : Cond.selects "java/lang/IllegalStateException" ⟨"java/lang/Throwable", "fillInStackTrace", "(I)Ljava/lang/Throwable;"⟩ ⟨"java/lang/Throwable", "fillInStackTrace", "(I)Ljava/lang/Throwable;"⟩ ∈ TT := TT_2 86 (by decide +kernel) rfl
theorem w_327 : Cond.lays "java/lang/IllegalStateException" "java/lang/Throwable" "cause" "Ljava/lang/Throwable;" ∈ TT := TT_2 87 (by decide +kernel) rfl
theorem w_328 : Cond.lays "java/lang/IllegalStateException" "java/lang/Throwable" "stackTrace" "[Ljava/lang/StackTraceElement;" ∈ TT := TT_2 88 (by decide +kernel) rfl
theorem w_329 : Cond.lays "java/lang/IllegalStateException" "java/lang/Throwable" "suppressedExceptions" "Ljava/util/List;" ∈ TT := TT_2 89 (by decide +kernel) rfl
theorem w_330 : Cond.lays "java/lang/IllegalStateException" "java/lang/Throwable" "detailMessage" "Ljava/lang/String;" ∈ TT := TT_2 90 (by decide +kernel) rfl
theorem w_331 : Cond.lays "java/lang/IllegalStateException" "java/lang/Throwable" "backtrace" "Ljava/lang/Object;" ∈ TT := TT_2 91 (by decide +kernel) rfl
theorem w_333 : Cond.methodLink "WallFractions$Reckoner" 55 ⟨"java/lang/IllegalStateException", "<init>", "(Ljava/lang/String;)V"⟩ ∈ TT := TT_2 93 (by decide +kernel) rfl
theorem w_334 : Cond.instanceMethod ⟨"java/lang/IllegalStateException", "<init>", "(Ljava/lang/String;)V"⟩ ∈ TT := TT_2 94 (by decide +kernel) rfl
theorem w_335 : Cond.code ⟨"java/lang/IllegalStateException", "<init>", "(Ljava/lang/String;)V"⟩ prog_13_method_2_code 2 (Option.none : Option ClassFile.FieldType) ∈ TT := TT_2 95 rfl rfl
theorem w_336 : Cond.methodLink "java/lang/IllegalStateException" 7 ⟨"java/lang/RuntimeException", "<init>", "(Ljava/lang/String;)V"⟩ ∈ TT := TT_2 96 (by decide +kernel) rfl
theorem w_337 : Cond.lays "java/lang/IllegalStateException" "java/lang/Throwable" "depth" "I" ∈ TT := TT_2 97 (by decide +kernel) rfl
theorem w_339 : Cond.methodLink "WallFractions" 206 ⟨"WallFractions$Fraction", "copyFrom", "(LWallFractions$Fraction;)V"⟩ ∈ TT := TT_2 99 (by decide +kernel) rfl
theorem w_340 : Cond.instanceMethod ⟨"WallFractions$Fraction", "copyFrom", "(LWallFractions$Fraction;)V"⟩ ∈ TT := TT_2 100 (by decide +kernel) rfl
theorem w_341 : Cond.selects "WallFractions$Fraction" ⟨"WallFractions$Fraction", "copyFrom", "(LWallFractions$Fraction;)V"⟩ ⟨"WallFractions$Fraction", "copyFrom", "(LWallFractions$Fraction;)V"⟩ ∈ TT := TT_2 101 (by decide +kernel) rfl
theorem w_342 : Cond.code ⟨"WallFractions$Fraction", "copyFrom", "(LWallFractions$Fraction;)V"⟩ prog_3_method_2_code 2 (Option.none : Option ClassFile.FieldType) ∈ TT := TT_2 102 rfl rfl
theorem w_343 : Cond.methodLink "WallFractions$Fraction" 29 ⟨"WallFractions$Whole", "copyFrom", "(LWallFractions$Whole;)V"⟩ ∈ TT := TT_2 103 (by decide +kernel) rfl
theorem w_344 : Cond.instanceMethod ⟨"WallFractions$Whole", "copyFrom", "(LWallFractions$Whole;)V"⟩ ∈ TT := TT_2 104 (by decide +kernel) rfl
theorem w_345 : Cond.selects "WallFractions$Whole" ⟨"WallFractions$Whole", "copyFrom", "(LWallFractions$Whole;)V"⟩ ⟨"WallFractions$Whole", "copyFrom", "(LWallFractions$Whole;)V"⟩ ∈ TT := TT_2 105 (by decide +kernel) rfl
theorem w_346 : Cond.code ⟨"WallFractions$Whole", "copyFrom", "(LWallFractions$Whole;)V"⟩ prog_7_method_7_code 2 (Option.none : Option ClassFile.FieldType) ∈ TT := TT_2 106 rfl rfl
theorem w_347 : Cond.methodLink "WallFractions$Whole" 35 ⟨"java/lang/System", "arraycopy", "(Ljava/lang/Object;ILjava/lang/Object;II)V"⟩ ∈ TT := TT_2 107 (by decide +kernel) rfl
theorem w_348 : Cond.static ⟨"java/lang/System", "arraycopy", "(Ljava/lang/Object;ILjava/lang/Object;II)V"⟩ ∈ TT := TT_2 108 (by decide +kernel) rfl
theorem w_349 : Cond.native ⟨"java/lang/System", "arraycopy", "(Ljava/lang/Object;ILjava/lang/Object;II)V"⟩ ∈ TT := TT_2 109 (by decide +kernel) rfl
theorem w_350 : Cond.methodLink "WallFractionsLaw" 94 ⟨"WallFractionsLaw", "more", "(LWallFractions;II)I"⟩ ∈ TT := TT_2 110 (by decide +kernel) rfl
theorem w_351 : Cond.static ⟨"WallFractionsLaw", "more", "(LWallFractions;II)I"⟩ ∈ TT := TT_2 111 (by decide +kernel) rfl
theorem w_352 : Cond.codeWith ⟨"WallFractionsLaw", "more", "(LWallFractions;II)I"⟩ method_4_code 4 (Option.some ClassFile.FieldType.int) [(0, 6, 9, 13), (0, 6, 12, 21)] ∈ TT := TT_2 112 rfl rfl
theorem w_353 : Cond.classLink "WallFractionsLaw" 21 "java/lang/IllegalStateException" ∈ TT := TT_2 113 (by decide +kernel) rfl
theorem w_354 : Cond.methodLink "WallFractionsLaw" 17 ⟨"WallFractions", "more", "(II)V"⟩ ∈ TT := TT_2 114 (by decide +kernel) rfl
theorem w_355 : Cond.instanceMethod ⟨"WallFractions", "more", "(II)V"⟩ ∈ TT := TT_2 115 (by decide +kernel) rfl
theorem w_356 : Cond.selects "WallFractions" ⟨"WallFractions", "more", "(II)V"⟩ ⟨"WallFractions", "more", "(II)V"⟩ ∈ TT := TT_2 116 (by decide +kernel) rfl
theorem w_357 : Cond.code ⟨"WallFractions", "more", "(II)V"⟩ prog_1_method_3_code 3 (Option.none : Option ClassFile.FieldType) ∈ TT := TT_2 117 rfl rfl
theorem w_358 : Cond.constantLong "WallFractions" 63 999999999 ∈ TT := TT_2 118 (by decide +kernel) rfl
theorem w_359 : Cond.methodLink "WallFractions" 65 ⟨"WallFractions", "requireWhole", "(LWallFractions$Fraction;)V"⟩ ∈ TT := TT_2 119 (by decide +kernel) rfl
theorem w_360 : Cond.static ⟨"WallFractions", "requireWhole", "(LWallFractions$Fraction;)V"⟩ ∈ TT := TT_2 120 (by decide +kernel) rfl
theorem w_361 : Cond.code ⟨"WallFractions", "requireWhole", "(LWallFractions$Fraction;)V"⟩ prog_1_method_23_code 1 (Option.none : Option ClassFile.FieldType) ∈ TT := TT_2 121 rfl rfl
theorem w_362 : Cond.methodLink "WallFractions" 194 ⟨"WallFractions$Whole", "isOne", "()Z"⟩ ∈ TT := TT_2 122 (by decide +kernel) rfl
theorem w_363 : Cond.instanceMethod ⟨"WallFractions$Whole", "isOne", "()Z"⟩ ∈ TT := TT_2 123 (by decide +kernel) rfl
theorem w_364 : Cond.selects "WallFractions$Whole" ⟨"WallFractions$Whole", "isOne", "()Z"⟩ ⟨"WallFractions$Whole", "isOne", "()Z"⟩ ∈ TT := TT_2 124 (by decide +kernel) rfl
theorem w_365 : Cond.code ⟨"WallFractions$Whole", "isOne", "()Z"⟩ prog_7_method_10_code 1 (Option.some ClassFile.FieldType.boolean) ∈ TT := TT_2 125 rfl rfl
theorem w_366 : Cond.classLink "WallFractions" 176 "java/lang/IllegalStateException" ∈ TT := TT_2 126 (by decide +kernel) rfl
theorem w_368 : Cond.methodLink "WallFractions" 178 ⟨"java/lang/IllegalStateException", "<init>", "(Ljava/lang/String;)V"⟩ ∈ TT := TT_2 128 (by decide +kernel) rfl
theorem w_369 : Cond.methodLink "WallFractions" 69 ⟨"WallFractions$Reckoner", "lengthen", "(LWallFractions$Fraction;I)V"⟩ ∈ TT := TT_2 129 (by decide +kernel) rfl
theorem w_370 : Cond.instanceMethod ⟨"WallFractions$Reckoner", "lengthen", "(LWallFractions$Fraction;I)V"⟩ ∈ TT := TT_2 130 (by decide +kernel) rfl
theorem w_371 : Cond.selects "WallFractions$Reckoner" ⟨"WallFractions$Reckoner", "lengthen", "(LWallFractions$Fraction;I)V"⟩ ⟨"WallFractions$Reckoner", "lengthen", "(LWallFractions$Fraction;I)V"⟩ ∈ TT := TT_2 131 (by decide +kernel) rfl
theorem w_372 : Cond.code ⟨"WallFractions$Reckoner", "lengthen", "(LWallFractions$Fraction;I)V"⟩ prog_5_method_4_code 3 (Option.none : Option ClassFile.FieldType) ∈ TT := TT_2 132 rfl rfl
theorem w_373 : Cond.methodLink "WallFractions$Reckoner" 82 ⟨"WallFractions$Fraction", "copyFrom", "(LWallFractions$Fraction;)V"⟩ ∈ TT := TT_2 133 (by decide +kernel) rfl
theorem w_374 : Cond.constantLong "WallFractions$Reckoner" 86 1000000000 ∈ TT := TT_2 134 (by decide +kernel) rfl
theorem w_375 : Cond.methodLink "WallFractions$Reckoner" 88 ⟨"WallFractions$Whole", "grow", "(JJ)V"⟩ ∈ TT := TT_2 135 (by decide +kernel) rfl
theorem w_376 : Cond.instanceMethod ⟨"WallFractions$Whole", "grow", "(JJ)V"⟩ ∈ TT := TT_2 136 (by decide +kernel) rfl
theorem w_377 : Cond.selects "WallFractions$Whole" ⟨"WallFractions$Whole", "grow", "(JJ)V"⟩ ⟨"WallFractions$Whole", "grow", "(JJ)V"⟩ ∈ TT := TT_2 137 (by decide +kernel) rfl
theorem w_378 : Cond.code ⟨"WallFractions$Whole", "grow", "(JJ)V"⟩ prog_7_method_15_code 10 (Option.none : Option ClassFile.FieldType) ∈ TT := TT_2 138 rfl rfl
theorem w_379 : Cond.methodLink "WallFractions$Whole" 28 ⟨"WallFractions$Whole", "requireRoom", "(I)V"⟩ ∈ TT := TT_2 139 (by decide +kernel) rfl
theorem w_380 : Cond.static ⟨"WallFractions$Whole", "requireRoom", "(I)V"⟩ ∈ TT := TT_2 140 (by decide +kernel) rfl
theorem w_381 : Cond.code ⟨"WallFractions$Whole", "requireRoom", "(I)V"⟩ prog_7_method_2_code 1 (Option.none : Option ClassFile.FieldType) ∈ TT := TT_2 141 rfl rfl
theorem w_382 : Cond.classLink "WallFractions$Whole" 19 "java/lang/IllegalStateException" ∈ TT := TT_2 142 (by decide +kernel) rfl
theorem w_384 : Cond.methodLink "WallFractions$Whole" 23 ⟨"java/lang/IllegalStateException", "<init>", "(Ljava/lang/String;)V"⟩ ∈ TT := TT_2 144 (by decide +kernel) rfl
theorem w_385 : Cond.methodLink "WallFractions$Whole" 51 ⟨"WallFractions$Whole", "settle", "(I)V"⟩ ∈ TT := TT_2 145 (by decide +kernel) rfl
theorem w_387 : Cond.instanceMethod ⟨"WallFractions$Whole", "settle", "(I)V"⟩ ∈ TT := TT_2 147 (by decide +kernel) rfl
theorem w_388 : Cond.code ⟨"WallFractions$Whole", "settle", "(I)V"⟩ prog_7_method_3_code 2 (Option.none : Option ClassFile.FieldType) ∈ TT := TT_2 148 rfl rfl
theorem w_389 : Cond.methodLink "WallFractionsLaw" 98 ⟨"WallFractionsLaw", "add", "(LWallFractions;III)I"⟩ ∈ TT := TT_2 149 (by decide +kernel) rfl
theorem w_390 : Cond.static ⟨"WallFractionsLaw", "add", "(LWallFractions;III)I"⟩ ∈ TT := TT_2 150 (by decide +kernel) rfl
theorem w_391 : Cond.codeWith ⟨"WallFractionsLaw", "add", "(LWallFractions;III)I"⟩ method_5_code 5 (Option.some ClassFile.FieldType.int) [(0, 7, 10, 13), (0, 7, 14, 21)] ∈ TT := TT_2 151 rfl rfl
theorem w_392 : Cond.methodLink "WallFractionsLaw" 23 ⟨"WallFractions", "add", "(III)V"⟩ ∈ TT := TT_2 152 (by decide +kernel) rfl
theorem w_393 : Cond.instanceMethod ⟨"WallFractions", "add", "(III)V"⟩ ∈ TT := TT_2 153 (by decide +kernel) rfl
theorem w_394 : Cond.selects "WallFractions" ⟨"WallFractions", "add", "(III)V"⟩ ⟨"WallFractions", "add", "(III)V"⟩ ∈ TT := TT_2 154 (by decide +kernel) rfl
theorem w_395 : Cond.code ⟨"WallFractions", "add", "(III)V"⟩ prog_1_method_4_code 4 (Option.none : Option ClassFile.FieldType) ∈ TT := TT_2 155 rfl rfl
theorem w_396 : Cond.methodLink "WallFractions" 73 ⟨"WallFractions", "requireRegisters", "(III)V"⟩ ∈ TT := TT_2 156 (by decide +kernel) rfl
theorem w_397 : Cond.static ⟨"WallFractions", "requireRegisters", "(III)V"⟩ ∈ TT := TT_2 157 (by decide +kernel) rfl
theorem w_398 : Cond.code ⟨"WallFractions", "requireRegisters", "(III)V"⟩ prog_1_method_22_code 3 (Option.none : Option ClassFile.FieldType) ∈ TT := TT_2 158 rfl rfl
theorem w_399 : Cond.methodLink "WallFractions" 81 ⟨"WallFractions$Reckoner", "total", "(LWallFractions$Fraction;LWallFractions$Fraction;Z)V"⟩ ∈ TT := TT_2 159 (by decide +kernel) rfl
theorem w_400 : Cond.instanceMethod ⟨"WallFractions$Reckoner", "total", "(LWallFractions$Fraction;LWallFractions$Fraction;Z)V"⟩ ∈ TT := TT_2 160 (by decide +kernel) rfl
theorem w_401 : Cond.selects "WallFractions$Reckoner" ⟨"WallFractions$Reckoner", "total", "(LWallFractions$Fraction;LWallFractions$Fraction;Z)V"⟩ ⟨"WallFractions$Reckoner", "total", "(LWallFractions$Fraction;LWallFractions$Fraction;Z)V"⟩ ∈ TT := TT_2 161 (by decide +kernel) rfl
theorem w_402 : Cond.code ⟨"WallFractions$Reckoner", "total", "(LWallFractions$Fraction;LWallFractions$Fraction;Z)V"⟩ prog_5_method_5_code 4 (Option.none : Option ClassFile.FieldType) ∈ TT := TT_2 162 rfl rfl
theorem w_403 : Cond.methodLink "WallFractions$Reckoner" 92 ⟨"WallFractions$Whole", "becomeProduct", "(LWallFractions$Whole;LWallFractions$Whole;)V"⟩ ∈ TT := TT_2 163 (by decide +kernel) rfl
theorem w_404 : Cond.instanceMethod ⟨"WallFractions$Whole", "becomeProduct", "(LWallFractions$Whole;LWallFractions$Whole;)V"⟩ ∈ TT := TT_2 164 (by decide +kernel) rfl
theorem w_405 : Cond.selects "WallFractions$Whole" ⟨"WallFractions$Whole", "becomeProduct", "(LWallFractions$Whole;LWallFractions$Whole;)V"⟩ ⟨"WallFractions$Whole", "becomeProduct", "(LWallFractions$Whole;LWallFractions$Whole;)V"⟩ ∈ TT := TT_2 165 (by decide +kernel) rfl
theorem w_406 : Cond.code ⟨"WallFractions$Whole", "becomeProduct", "(LWallFractions$Whole;LWallFractions$Whole;)V"⟩ prog_7_method_14_code 12 (Option.none : Option ClassFile.FieldType) ∈ TT := TT_2 166 rfl rfl
theorem w_407 : Cond.methodLink "WallFractions$Reckoner" 96 ⟨"WallFractions$Whole", "becomeSum", "(LWallFractions$Whole;LWallFractions$Whole;)V"⟩ ∈ TT := TT_2 167 (by decide +kernel) rfl
theorem w_408 : Cond.instanceMethod ⟨"WallFractions$Whole", "becomeSum", "(LWallFractions$Whole;LWallFractions$Whole;)V"⟩ ∈ TT := TT_2 168 (by decide +kernel) rfl
theorem w_409 : Cond.selects "WallFractions$Whole" ⟨"WallFractions$Whole", "becomeSum", "(LWallFractions$Whole;LWallFractions$Whole;)V"⟩ ⟨"WallFractions$Whole", "becomeSum", "(LWallFractions$Whole;LWallFractions$Whole;)V"⟩ ∈ TT := TT_2 169 (by decide +kernel) rfl
theorem w_410 : Cond.code ⟨"WallFractions$Whole", "becomeSum", "(LWallFractions$Whole;LWallFractions$Whole;)V"⟩ prog_7_method_12_code 9 (Option.none : Option ClassFile.FieldType) ∈ TT := TT_2 170 rfl rfl
theorem w_411 : Cond.methodLink "WallFractions$Whole" 45 ⟨"java/lang/Math", "max", "(II)I"⟩ ∈ TT := TT_2 171 (by decide +kernel) rfl
theorem w_412 : Cond.static ⟨"java/lang/Math", "max", "(II)I"⟩ ∈ TT := TT_2 172 (by decide +kernel) rfl
theorem w_413 : Cond.code ⟨"java/lang/Math", "max", "(II)I"⟩ prog_15_method_65_code 2 (Option.some ClassFile.FieldType.int) ∈ TT := TT_2 173 rfl rfl
theorem w_414 : Cond.methodLink "WallFractions$Whole" 41 ⟨"WallFractions$Whole", "limbAt", "(I)J"⟩ ∈ TT := TT_2 174 (by decide +kernel) rfl
theorem w_416 : Cond.instanceMethod ⟨"WallFractions$Whole", "limbAt", "(I)J"⟩ ∈ TT := TT_2 176 (by decide +kernel) rfl
theorem w_417 : Cond.code ⟨"WallFractions$Whole", "limbAt", "(I)J"⟩ prog_7_method_4_code 2 (Option.some ClassFile.FieldType.long) ∈ TT := TT_2 177 rfl rfl
theorem w_418 : Cond.methodLink "WallFractions$Reckoner" 99 ⟨"WallFractions$Whole", "order", "(LWallFractions$Whole;)I"⟩ ∈ TT := TT_2 178 (by decide +kernel) rfl
theorem w_419 : Cond.instanceMethod ⟨"WallFractions$Whole", "order", "(LWallFractions$Whole;)I"⟩ ∈ TT := TT_2 179 (by decide +kernel) rfl
theorem w_420 : Cond.selects "WallFractions$Whole" ⟨"WallFractions$Whole", "order", "(LWallFractions$Whole;)I"⟩ ⟨"WallFractions$Whole", "order", "(LWallFractions$Whole;)I"⟩ ∈ TT := TT_2 180 (by decide +kernel) rfl
theorem w_421 : Cond.code ⟨"WallFractions$Whole", "order", "(LWallFractions$Whole;)I"⟩ prog_7_method_11_code 3 (Option.some ClassFile.FieldType.int) ∈ TT := TT_2 181 rfl rfl
theorem w_422 : Cond.methodLink "WallFractions$Reckoner" 103 ⟨"WallFractions$Whole", "becomeDifference", "(LWallFractions$Whole;LWallFractions$Whole;)V"⟩ ∈ TT := TT_2 182 (by decide +kernel) rfl
theorem w_423 : Cond.instanceMethod ⟨"WallFractions$Whole", "becomeDifference", "(LWallFractions$Whole;LWallFractions$Whole;)V"⟩ ∈ TT := TT_2 183 (by decide +kernel) rfl
theorem w_424 : Cond.selects "WallFractions$Whole" ⟨"WallFractions$Whole", "becomeDifference", "(LWallFractions$Whole;LWallFractions$Whole;)V"⟩ ⟨"WallFractions$Whole", "becomeDifference", "(LWallFractions$Whole;LWallFractions$Whole;)V"⟩ ∈ TT := TT_2 184 (by decide +kernel) rfl
theorem w_425 : Cond.code ⟨"WallFractions$Whole", "becomeDifference", "(LWallFractions$Whole;LWallFractions$Whole;)V"⟩ prog_7_method_13_code 9 (Option.none : Option ClassFile.FieldType) ∈ TT := TT_2 185 rfl rfl
theorem w_426 : Cond.methodLink "WallFractions$Reckoner" 106 ⟨"WallFractions$Reckoner", "reduce", "()V"⟩ ∈ TT := TT_2 186 (by decide +kernel) rfl
theorem w_428 : Cond.instanceMethod ⟨"WallFractions$Reckoner", "reduce", "()V"⟩ ∈ TT := TT_2 188 (by decide +kernel) rfl
theorem w_429 : Cond.code ⟨"WallFractions$Reckoner", "reduce", "()V"⟩ prog_5_method_15_code 2 (Option.none : Option ClassFile.FieldType) ∈ TT := TT_2 189 rfl rfl
theorem w_430 : Cond.methodLink "WallFractions$Reckoner" 157 ⟨"WallFractions$Measure", "of", "(LWallFractions$Whole;LWallFractions$Whole;)LWallFractions$Whole;"⟩ ∈ TT := TT_2 190 (by decide +kernel) rfl
theorem w_431 : Cond.instanceMethod ⟨"WallFractions$Measure", "of", "(LWallFractions$Whole;LWallFractions$Whole;)LWallFractions$Whole;"⟩ ∈ TT := TT_2 191 (by decide +kernel) rfl
theorem w_432 : Cond.selects "WallFractions$Measure" ⟨"WallFractions$Measure", "of", "(LWallFractions$Whole;LWallFractions$Whole;)LWallFractions$Whole;"⟩ ⟨"WallFractions$Measure", "of", "(LWallFractions$Whole;LWallFractions$Whole;)LWallFractions$Whole;"⟩ ∈ TT := TT_2 192 (by decide +kernel) rfl
theorem w_433 : Cond.code ⟨"WallFractions$Measure", "of", "(LWallFractions$Whole;LWallFractions$Whole;)LWallFractions$Whole;"⟩ prog_4_method_2_code 5 (Option.some (ClassFile.FieldType.object "WallFractions$Whole")) ∈ TT := TT_2 193 rfl rfl
theorem w_434 : Cond.methodLink "WallFractions$Measure" 31 ⟨"WallFractions$Whole", "order", "(LWallFractions$Whole;)I"⟩ ∈ TT := TT_2 194 (by decide +kernel) rfl
theorem w_435 : Cond.methodLink "WallFractions$Measure" 35 ⟨"WallFractions$Whole", "copyFrom", "(LWallFractions$Whole;)V"⟩ ∈ TT := TT_2 195 (by decide +kernel) rfl
theorem w_436 : Cond.methodLink "WallFractions$Measure" 44 ⟨"WallFractions$Whole", "isZero", "()Z"⟩ ∈ TT := TT_2 196 (by decide +kernel) rfl
theorem w_437 : Cond.instanceMethod ⟨"WallFractions$Whole", "isZero", "()Z"⟩ ∈ TT := TT_2 197 (by decide +kernel) rfl
theorem w_438 : Cond.selects "WallFractions$Whole" ⟨"WallFractions$Whole", "isZero", "()Z"⟩ ⟨"WallFractions$Whole", "isZero", "()Z"⟩ ∈ TT := TT_2 198 (by decide +kernel) rfl
theorem w_439 : Cond.code ⟨"WallFractions$Whole", "isZero", "()Z"⟩ prog_7_method_9_code 1 (Option.some ClassFile.FieldType.boolean) ∈ TT := TT_2 199 rfl rfl
theorem w_440 : Cond.methodLink "WallFractions$Measure" 48 ⟨"WallFractions$Measure", "gather", "()V"⟩ ∈ TT := TT_2 200 (by decide +kernel) rfl
theorem w_442 : Cond.instanceMethod ⟨"WallFractions$Measure", "gather", "()V"⟩ ∈ TT := TT_2 202 (by decide +kernel) rfl
theorem w_443 : Cond.code ⟨"WallFractions$Measure", "gather", "()V"⟩ prog_4_method_5_code 16 (Option.none : Option ClassFile.FieldType) ∈ TT := TT_2 203 rfl rfl
theorem w_446 : Cond.methodLink "WallFractions$Measure" 83 ⟨"WallFractions$Whole", "topLength", "()I"⟩ ∈ TT := TT_2 206 (by decide +kernel) rfl
theorem w_447 : Cond.instanceMethod ⟨"WallFractions$Whole", "topLength", "()I"⟩ ∈ TT := TT_2 207 (by decide +kernel) rfl
theorem w_448 : Cond.selects "WallFractions$Whole" ⟨"WallFractions$Whole", "topLength", "()I"⟩ ⟨"WallFractions$Whole", "topLength", "()I"⟩ ∈ TT := TT_2 208 (by decide +kernel) rfl
theorem w_449 : Cond.code ⟨"WallFractions$Whole", "topLength", "()I"⟩ prog_7_method_19_code 4 (Option.some ClassFile.FieldType.int) ∈ TT := TT_2 209 rfl rfl
theorem w_451 : Cond.methodLink "WallFractions$Measure" 87 ⟨"WallFractions$Measure", "leading", "(LWallFractions$Whole;J)J"⟩ ∈ TT := TT_2 211 (by decide +kernel) rfl
theorem w_453 : Cond.instanceMethod ⟨"WallFractions$Measure", "leading", "(LWallFractions$Whole;J)J"⟩ ∈ TT := TT_2 213 (by decide +kernel) rfl
theorem w_454 : Cond.code ⟨"WallFractions$Measure", "leading", "(LWallFractions$Whole;J)J"⟩ prog_4_method_6_code 7 (Option.some ClassFile.FieldType.long) ∈ TT := TT_2 214 rfl rfl
theorem w_456 : Cond.constantLong "WallFractions$Measure" 100 1000000000 ∈ TT := TT_2 216 (by decide +kernel) rfl
theorem w_457 : Cond.methodLink "WallFractions$Measure" 102 ⟨"java/lang/Math", "abs", "(J)J"⟩ ∈ TT := TT_2 217 (by decide +kernel) rfl
theorem w_458 : Cond.methodLink "WallFractions$Measure" 55 ⟨"WallFractions$Divider", "split", "(LWallFractions$Whole;LWallFractions$Whole;LWallFractions$Whole;LWallFractions$Whole;)V"⟩ ∈ TT := TT_2 218 (by decide +kernel) rfl
theorem w_459 : Cond.instanceMethod ⟨"WallFractions$Divider", "split", "(LWallFractions$Whole;LWallFractions$Whole;LWallFractions$Whole;LWallFractions$Whole;)V"⟩ ∈ TT := TT_2 219 (by decide +kernel) rfl
theorem w_460 : Cond.selects "WallFractions$Divider" ⟨"WallFractions$Divider", "split", "(LWallFractions$Whole;LWallFractions$Whole;LWallFractions$Whole;LWallFractions$Whole;)V"⟩ ⟨"WallFractions$Divider", "split", "(LWallFractions$Whole;LWallFractions$Whole;LWallFractions$Whole;LWallFractions$Whole;)V"⟩ ∈ TT := TT_2 220 (by decide +kernel) rfl
theorem w_461 : Cond.code ⟨"WallFractions$Divider", "split", "(LWallFractions$Whole;LWallFractions$Whole;LWallFractions$Whole;LWallFractions$Whole;)V"⟩ prog_2_method_2_code 5 (Option.none : Option ClassFile.FieldType) ∈ TT := TT_2 221 rfl rfl
theorem w_462 : Cond.methodLink "WallFractions$Divider" 18 ⟨"WallFractions$Whole", "isZero", "()Z"⟩ ∈ TT := TT_2 222 (by decide +kernel) rfl
theorem w_463 : Cond.classLink "WallFractions$Divider" 24 "java/lang/IllegalStateException" ∈ TT := TT_2 223 (by decide +kernel) rfl
theorem w_465 : Cond.methodLink "WallFractions$Divider" 28 ⟨"java/lang/IllegalStateException", "<init>", "(Ljava/lang/String;)V"⟩ ∈ TT := TT_2 225 (by decide +kernel) rfl
theorem w_466 : Cond.methodLink "WallFractions$Divider" 35 ⟨"WallFractions$Whole", "copyFrom", "(LWallFractions$Whole;)V"⟩ ∈ TT := TT_2 226 (by decide +kernel) rfl
theorem w_467 : Cond.methodLink "WallFractions$Divider" 39 ⟨"WallFractions$Whole", "become", "(J)V"⟩ ∈ TT := TT_2 227 (by decide +kernel) rfl
theorem w_468 : Cond.methodLink "WallFractions$Divider" 46 ⟨"WallFractions$Whole", "becomeQuotient", "(LWallFractions$Whole;J)J"⟩ ∈ TT := TT_2 228 (by decide +kernel) rfl
theorem w_469 : Cond.instanceMethod ⟨"WallFractions$Whole", "becomeQuotient", "(LWallFractions$Whole;J)J"⟩ ∈ TT := TT_2 229 (by decide +kernel) rfl
theorem w_470 : Cond.selects "WallFractions$Whole" ⟨"WallFractions$Whole", "becomeQuotient", "(LWallFractions$Whole;J)J"⟩ ⟨"WallFractions$Whole", "becomeQuotient", "(LWallFractions$Whole;J)J"⟩ ∈ TT := TT_2 230 (by decide +kernel) rfl
theorem w_471 : Cond.code ⟨"WallFractions$Whole", "becomeQuotient", "(LWallFractions$Whole;J)J"⟩ prog_7_method_16_code 10 (Option.some ClassFile.FieldType.long) ∈ TT := TT_2 231 rfl rfl
theorem w_472 : Cond.methodLink "WallFractions$Divider" 50 ⟨"WallFractions$Divider", "splitLong", "(LWallFractions$Whole;LWallFractions$Whole;LWallFractions$Whole;LWallFractions$Whole;)V"⟩ ∈ TT := TT_2 232 (by decide +kernel) rfl
theorem w_474 : Cond.instanceMethod ⟨"WallFractions$Divider", "splitLong", "(LWallFractions$Whole;LWallFractions$Whole;LWallFractions$Whole;LWallFractions$Whole;)V"⟩ ∈ TT := TT_2 234 (by decide +kernel) rfl
theorem w_475 : Cond.code ⟨"WallFractions$Divider", "splitLong", "(LWallFractions$Whole;LWallFractions$Whole;LWallFractions$Whole;LWallFractions$Whole;)V"⟩ prog_2_method_3_code 10 (Option.none : Option ClassFile.FieldType) ∈ TT := TT_2 235 rfl rfl
theorem w_476 : Cond.constantLong "WallFractions$Divider" 54 1000000000 ∈ TT := TT_2 236 (by decide +kernel) rfl
theorem w_477 : Cond.methodLink "WallFractions$Divider" 56 ⟨"WallFractions$Divider", "lay", "(LWallFractions$Whole;J[J)V"⟩ ∈ TT := TT_2 237 (by decide +kernel) rfl
theorem w_478 : Cond.static ⟨"WallFractions$Divider", "lay", "(LWallFractions$Whole;J[J)V"⟩ ∈ TT := TT_2 238 (by decide +kernel) rfl
theorem w_479 : Cond.code ⟨"WallFractions$Divider", "lay", "(LWallFractions$Whole;J[J)V"⟩ prog_2_method_4_code 9 (Option.none : Option ClassFile.FieldType) ∈ TT := TT_2 239 rfl rfl
theorem w_480 : Cond.methodLink "WallFractions$Divider" 60 ⟨"WallFractions$Divider", "takeOff", "(II)J"⟩ ∈ TT := TT_3 0 (by decide +kernel) rfl
theorem w_482 : Cond.instanceMethod ⟨"WallFractions$Divider", "takeOff", "(II)J"⟩ ∈ TT := TT_3 2 (by decide +kernel) rfl
theorem w_483 : Cond.code ⟨"WallFractions$Divider", "takeOff", "(II)J"⟩ prog_2_method_5_code 10 (Option.some ClassFile.FieldType.long) ∈ TT := TT_3 3 rfl rfl
theorem w_484 : Cond.methodLink "WallFractions$Divider" 74 ⟨"WallFractions$Divider", "guess", "(II)J"⟩ ∈ TT := TT_3 4 (by decide +kernel) rfl
theorem w_486 : Cond.instanceMethod ⟨"WallFractions$Divider", "guess", "(II)J"⟩ ∈ TT := TT_3 6 (by decide +kernel) rfl
theorem w_487 : Cond.code ⟨"WallFractions$Divider", "guess", "(II)J"⟩ prog_2_method_6_code 11 (Option.some ClassFile.FieldType.long) ∈ TT := TT_3 7 rfl rfl
theorem w_488 : Cond.methodLink "WallFractions$Divider" 77 ⟨"java/lang/Math", "floorDiv", "(JJ)J"⟩ ∈ TT := TT_3 8 (by decide +kernel) rfl
theorem w_489 : Cond.static ⟨"java/lang/Math", "floorDiv", "(JJ)J"⟩ ∈ TT := TT_3 9 (by decide +kernel) rfl
theorem w_490 : Cond.code ⟨"java/lang/Math", "floorDiv", "(JJ)J"⟩ prog_15_method_49_code 6 (Option.some ClassFile.FieldType.long) ∈ TT := TT_3 10 rfl rfl
theorem w_491 : Cond.methodLink "WallFractions$Divider" 83 ⟨"WallFractions$Divider", "putBack", "(II)V"⟩ ∈ TT := TT_3 11 (by decide +kernel) rfl
theorem w_493 : Cond.instanceMethod ⟨"WallFractions$Divider", "putBack", "(II)V"⟩ ∈ TT := TT_3 13 (by decide +kernel) rfl
theorem w_494 : Cond.code ⟨"WallFractions$Divider", "putBack", "(II)V"⟩ prog_2_method_7_code 8 (Option.none : Option ClassFile.FieldType) ∈ TT := TT_3 14 rfl rfl
theorem w_496 : Cond.methodLink "WallFractions$Divider" 68 ⟨"java/lang/System", "arraycopy", "(Ljava/lang/Object;ILjava/lang/Object;II)V"⟩ ∈ TT := TT_3 16 (by decide +kernel) rfl
theorem w_497 : Cond.methodLink "WallFractions$Measure" 61 ⟨"WallFractions$Measure", "shift", "()V"⟩ ∈ TT := TT_3 17 (by decide +kernel) rfl
theorem w_499 : Cond.instanceMethod ⟨"WallFractions$Measure", "shift", "()V"⟩ ∈ TT := TT_3 19 (by decide +kernel) rfl
theorem w_500 : Cond.code ⟨"WallFractions$Measure", "shift", "()V"⟩ prog_4_method_4_code 2 (Option.none : Option ClassFile.FieldType) ∈ TT := TT_3 20 rfl rfl
theorem w_501 : Cond.methodLink "WallFractions$Measure" 64 ⟨"WallFractions$Measure", "catchUp", "()V"⟩ ∈ TT := TT_3 21 (by decide +kernel) rfl
theorem w_503 : Cond.instanceMethod ⟨"WallFractions$Measure", "catchUp", "()V"⟩ ∈ TT := TT_3 23 (by decide +kernel) rfl
theorem w_504 : Cond.code ⟨"WallFractions$Measure", "catchUp", "()V"⟩ prog_4_method_7_code 15 (Option.none : Option ClassFile.FieldType) ∈ TT := TT_3 24 rfl rfl
theorem w_505 : Cond.methodLink "WallFractions$Measure" 115 ⟨"java/lang/Math", "floorDiv", "(JJ)J"⟩ ∈ TT := TT_3 25 (by decide +kernel) rfl
theorem w_507 : Cond.methodLink "WallFractions$Measure" 67 ⟨"WallFractions$Whole", "lowest", "()J"⟩ ∈ TT := TT_3 27 (by decide +kernel) rfl
theorem w_508 : Cond.instanceMethod ⟨"WallFractions$Whole", "lowest", "()J"⟩ ∈ TT := TT_3 28 (by decide +kernel) rfl
theorem w_509 : Cond.selects "WallFractions$Whole" ⟨"WallFractions$Whole", "lowest", "()J"⟩ ⟨"WallFractions$Whole", "lowest", "()J"⟩ ∈ TT := TT_3 29 (by decide +kernel) rfl
theorem w_510 : Cond.code ⟨"WallFractions$Whole", "lowest", "()J"⟩ prog_7_method_8_code 1 (Option.some ClassFile.FieldType.long) ∈ TT := TT_3 30 rfl rfl
theorem w_511 : Cond.methodLink "WallFractions$Measure" 71 ⟨"WallFractions$Measure", "ofShort", "(JJ)J"⟩ ∈ TT := TT_3 31 (by decide +kernel) rfl
theorem w_512 : Cond.methodLink "WallFractions$Measure" 75 ⟨"WallFractions$Whole", "become", "(J)V"⟩ ∈ TT := TT_3 32 (by decide +kernel) rfl
theorem w_513 : Cond.methodLink "WallFractions$Reckoner" 161 ⟨"WallFractions$Whole", "isOne", "()Z"⟩ ∈ TT := TT_3 33 (by decide +kernel) rfl
theorem w_514 : Cond.methodLink "WallFractions$Reckoner" 130 ⟨"WallFractions$Divider", "split", "(LWallFractions$Whole;LWallFractions$Whole;LWallFractions$Whole;LWallFractions$Whole;)V"⟩ ∈ TT := TT_3 34 (by decide +kernel) rfl
theorem w_515 : Cond.methodLink "WallFractions$Reckoner" 144 ⟨"WallFractions$Whole", "isZero", "()Z"⟩ ∈ TT := TT_3 35 (by decide +kernel) rfl
theorem w_516 : Cond.methodLink "WallFractionsLaw" 102 ⟨"WallFractionsLaw", "subtract", "(LWallFractions;III)I"⟩ ∈ TT := TT_3 36 (by decide +kernel) rfl
theorem w_517 : Cond.static ⟨"WallFractionsLaw", "subtract", "(LWallFractions;III)I"⟩ ∈ TT := TT_3 37 (by decide +kernel) rfl
theorem w_518 : Cond.codeWith ⟨"WallFractionsLaw", "subtract", "(LWallFractions;III)I"⟩ method_6_code 5 (Option.some ClassFile.FieldType.int) [(0, 7, 10, 13), (0, 7, 14, 21)] ∈ TT := TT_3 38 rfl rfl
theorem w_519 : Cond.methodLink "WallFractionsLaw" 27 ⟨"WallFractions", "subtract", "(III)V"⟩ ∈ TT := TT_3 39 (by decide +kernel) rfl
theorem w_520 : Cond.instanceMethod ⟨"WallFractions", "subtract", "(III)V"⟩ ∈ TT := TT_3 40 (by decide +kernel) rfl
theorem w_521 : Cond.selects "WallFractions" ⟨"WallFractions", "subtract", "(III)V"⟩ ⟨"WallFractions", "subtract", "(III)V"⟩ ∈ TT := TT_3 41 (by decide +kernel) rfl
theorem w_522 : Cond.code ⟨"WallFractions", "subtract", "(III)V"⟩ prog_1_method_5_code 4 (Option.none : Option ClassFile.FieldType) ∈ TT := TT_3 42 rfl rfl
theorem w_523 : Cond.methodLink "WallFractionsLaw" 105 ⟨"WallFractionsLaw", "multiply", "(LWallFractions;III)I"⟩ ∈ TT := TT_3 43 (by decide +kernel) rfl
theorem w_524 : Cond.static ⟨"WallFractionsLaw", "multiply", "(LWallFractions;III)I"⟩ ∈ TT := TT_3 44 (by decide +kernel) rfl
theorem w_525 : Cond.codeWith ⟨"WallFractionsLaw", "multiply", "(LWallFractions;III)I"⟩ method_7_code 5 (Option.some ClassFile.FieldType.int) [(0, 7, 10, 13), (0, 7, 14, 21)] ∈ TT := TT_3 45 rfl rfl
theorem w_526 : Cond.methodLink "WallFractionsLaw" 30 ⟨"WallFractions", "multiply", "(III)V"⟩ ∈ TT := TT_3 46 (by decide +kernel) rfl
theorem w_527 : Cond.instanceMethod ⟨"WallFractions", "multiply", "(III)V"⟩ ∈ TT := TT_3 47 (by decide +kernel) rfl
theorem w_528 : Cond.selects "WallFractions" ⟨"WallFractions", "multiply", "(III)V"⟩ ⟨"WallFractions", "multiply", "(III)V"⟩ ∈ TT := TT_3 48 (by decide +kernel) rfl
theorem w_529 : Cond.code ⟨"WallFractions", "multiply", "(III)V"⟩ prog_1_method_6_code 4 (Option.none : Option ClassFile.FieldType) ∈ TT := TT_3 49 rfl rfl
theorem w_530 : Cond.methodLink "WallFractions" 92 ⟨"WallFractions$Reckoner", "product", "(LWallFractions$Fraction;LWallFractions$Whole;LWallFractions$Whole;Z)V"⟩ ∈ TT := TT_3 50 (by decide +kernel) rfl
theorem w_531 : Cond.instanceMethod ⟨"WallFractions$Reckoner", "product", "(LWallFractions$Fraction;LWallFractions$Whole;LWallFractions$Whole;Z)V"⟩ ∈ TT := TT_3 51 (by decide +kernel) rfl
theorem w_532 : Cond.selects "WallFractions$Reckoner" ⟨"WallFractions$Reckoner", "product", "(LWallFractions$Fraction;LWallFractions$Whole;LWallFractions$Whole;Z)V"⟩ ⟨"WallFractions$Reckoner", "product", "(LWallFractions$Fraction;LWallFractions$Whole;LWallFractions$Whole;Z)V"⟩ ∈ TT := TT_3 52 (by decide +kernel) rfl
theorem w_533 : Cond.code ⟨"WallFractions$Reckoner", "product", "(LWallFractions$Fraction;LWallFractions$Whole;LWallFractions$Whole;Z)V"⟩ prog_5_method_6_code 5 (Option.none : Option ClassFile.FieldType) ∈ TT := TT_3 53 rfl rfl
theorem w_534 : Cond.methodLink "WallFractionsLaw" 108 ⟨"WallFractionsLaw", "divide", "(LWallFractions;III)I"⟩ ∈ TT := TT_3 54 (by decide +kernel) rfl
theorem w_535 : Cond.static ⟨"WallFractionsLaw", "divide", "(LWallFractions;III)I"⟩ ∈ TT := TT_3 55 (by decide +kernel) rfl
theorem w_536 : Cond.codeWith ⟨"WallFractionsLaw", "divide", "(LWallFractions;III)I"⟩ method_8_code 5 (Option.some ClassFile.FieldType.int) [(0, 7, 10, 13), (0, 7, 14, 15), (0, 7, 18, 21)] ∈ TT := TT_3 56 rfl rfl
theorem w_537 : Cond.methodLink "WallFractionsLaw" 33 ⟨"WallFractions", "divide", "(III)V"⟩ ∈ TT := TT_3 57 (by decide +kernel) rfl
theorem w_538 : Cond.instanceMethod ⟨"WallFractions", "divide", "(III)V"⟩ ∈ TT := TT_3 58 (by decide +kernel) rfl
theorem w_539 : Cond.selects "WallFractions" ⟨"WallFractions", "divide", "(III)V"⟩ ⟨"WallFractions", "divide", "(III)V"⟩ ∈ TT := TT_3 59 (by decide +kernel) rfl
theorem w_540 : Cond.code ⟨"WallFractions", "divide", "(III)V"⟩ prog_1_method_7_code 4 (Option.none : Option ClassFile.FieldType) ∈ TT := TT_3 60 rfl rfl
theorem w_541 : Cond.methodLink "WallFractions" 96 ⟨"WallFractions$Whole", "isZero", "()Z"⟩ ∈ TT := TT_3 61 (by decide +kernel) rfl
theorem w_543 : Cond.methodLink "WallFractionsLaw" 111 ⟨"WallFractionsLaw", "power", "(LWallFractions;III)I"⟩ ∈ TT := TT_3 63 (by decide +kernel) rfl
theorem w_544 : Cond.static ⟨"WallFractionsLaw", "power", "(LWallFractions;III)I"⟩ ∈ TT := TT_3 64 (by decide +kernel) rfl
theorem w_545 : Cond.codeWith ⟨"WallFractionsLaw", "power", "(LWallFractions;III)I"⟩ method_9_code 5 (Option.some ClassFile.FieldType.int) [(0, 7, 10, 13), (0, 7, 14, 21)] ∈ TT := TT_3 65 rfl rfl
theorem w_546 : Cond.methodLink "WallFractionsLaw" 36 ⟨"WallFractions", "power", "(III)V"⟩ ∈ TT := TT_3 66 (by decide +kernel) rfl
theorem w_547 : Cond.instanceMethod ⟨"WallFractions", "power", "(III)V"⟩ ∈ TT := TT_3 67 (by decide +kernel) rfl
theorem w_548 : Cond.selects "WallFractions" ⟨"WallFractions", "power", "(III)V"⟩ ⟨"WallFractions", "power", "(III)V"⟩ ∈ TT := TT_3 68 (by decide +kernel) rfl
theorem w_549 : Cond.code ⟨"WallFractions", "power", "(III)V"⟩ prog_1_method_8_code 4 (Option.none : Option ClassFile.FieldType) ∈ TT := TT_3 69 rfl rfl
theorem w_550 : Cond.constantLong "WallFractions" 104 200 ∈ TT := TT_3 70 (by decide +kernel) rfl
theorem w_551 : Cond.methodLink "WallFractions" 106 ⟨"WallFractions$Reckoner", "raise", "(LWallFractions$Fraction;I)V"⟩ ∈ TT := TT_3 71 (by decide +kernel) rfl
theorem w_552 : Cond.instanceMethod ⟨"WallFractions$Reckoner", "raise", "(LWallFractions$Fraction;I)V"⟩ ∈ TT := TT_3 72 (by decide +kernel) rfl
theorem w_553 : Cond.selects "WallFractions$Reckoner" ⟨"WallFractions$Reckoner", "raise", "(LWallFractions$Fraction;I)V"⟩ ⟨"WallFractions$Reckoner", "raise", "(LWallFractions$Fraction;I)V"⟩ ∈ TT := TT_3 73 (by decide +kernel) rfl
theorem w_554 : Cond.code ⟨"WallFractions$Reckoner", "raise", "(LWallFractions$Fraction;I)V"⟩ prog_5_method_7_code 4 (Option.none : Option ClassFile.FieldType) ∈ TT := TT_3 74 rfl rfl
theorem w_555 : Cond.methodLink "WallFractions$Reckoner" 109 ⟨"WallFractions$Reckoner", "multiplyOut", "(LWallFractions$Fraction;)V"⟩ ∈ TT := TT_3 75 (by decide +kernel) rfl
theorem w_557 : Cond.instanceMethod ⟨"WallFractions$Reckoner", "multiplyOut", "(LWallFractions$Fraction;)V"⟩ ∈ TT := TT_3 77 (by decide +kernel) rfl
theorem w_558 : Cond.code ⟨"WallFractions$Reckoner", "multiplyOut", "(LWallFractions$Fraction;)V"⟩ prog_5_method_8_code 2 (Option.none : Option ClassFile.FieldType) ∈ TT := TT_3 78 rfl rfl
theorem w_559 : Cond.methodLink "WallFractions$Reckoner" 112 ⟨"WallFractions$Whole", "copyFrom", "(LWallFractions$Whole;)V"⟩ ∈ TT := TT_3 79 (by decide +kernel) rfl
theorem w_560 : Cond.methodLink "WallFractions$Reckoner" 115 ⟨"WallFractions$Reckoner", "requireFit", "()V"⟩ ∈ TT := TT_3 80 (by decide +kernel) rfl
theorem w_561 : Cond.methodLink "WallFractionsLaw" 114 ⟨"WallFractionsLaw", "binomial", "(LWallFractions;III)I"⟩ ∈ TT := TT_3 81 (by decide +kernel) rfl
theorem w_562 : Cond.static ⟨"WallFractionsLaw", "binomial", "(LWallFractions;III)I"⟩ ∈ TT := TT_3 82 (by decide +kernel) rfl
theorem w_563 : Cond.codeWith ⟨"WallFractionsLaw", "binomial", "(LWallFractions;III)I"⟩ method_10_code 5 (Option.some ClassFile.FieldType.int) [(0, 7, 10, 13), (0, 7, 14, 21)] ∈ TT := TT_3 83 rfl rfl
theorem w_564 : Cond.methodLink "WallFractionsLaw" 39 ⟨"WallFractions", "binomial", "(III)V"⟩ ∈ TT := TT_3 84 (by decide +kernel) rfl
theorem w_565 : Cond.instanceMethod ⟨"WallFractions", "binomial", "(III)V"⟩ ∈ TT := TT_3 85 (by decide +kernel) rfl
theorem w_566 : Cond.selects "WallFractions" ⟨"WallFractions", "binomial", "(III)V"⟩ ⟨"WallFractions", "binomial", "(III)V"⟩ ∈ TT := TT_3 86 (by decide +kernel) rfl
theorem w_567 : Cond.code ⟨"WallFractions", "binomial", "(III)V"⟩ prog_1_method_9_code 4 (Option.none : Option ClassFile.FieldType) ∈ TT := TT_3 87 rfl rfl
theorem w_568 : Cond.constantLong "WallFractions" 109 500 ∈ TT := TT_3 88 (by decide +kernel) rfl
theorem w_569 : Cond.methodLink "WallFractions" 111 ⟨"WallFractions$Reckoner", "choose", "(II)V"⟩ ∈ TT := TT_3 89 (by decide +kernel) rfl
theorem w_570 : Cond.instanceMethod ⟨"WallFractions$Reckoner", "choose", "(II)V"⟩ ∈ TT := TT_3 90 (by decide +kernel) rfl
theorem w_571 : Cond.selects "WallFractions$Reckoner" ⟨"WallFractions$Reckoner", "choose", "(II)V"⟩ ⟨"WallFractions$Reckoner", "choose", "(II)V"⟩ ∈ TT := TT_3 91 (by decide +kernel) rfl
theorem w_572 : Cond.code ⟨"WallFractions$Reckoner", "choose", "(II)V"⟩ prog_5_method_9_code 5 (Option.none : Option ClassFile.FieldType) ∈ TT := TT_3 92 rfl rfl
theorem w_573 : Cond.methodLink "WallFractions$Reckoner" 118 ⟨"java/lang/Math", "min", "(II)I"⟩ ∈ TT := TT_3 93 (by decide +kernel) rfl
theorem w_574 : Cond.static ⟨"java/lang/Math", "min", "(II)I"⟩ ∈ TT := TT_3 94 (by decide +kernel) rfl
theorem w_575 : Cond.code ⟨"java/lang/Math", "min", "(II)I"⟩ prog_15_method_69_code 2 (Option.some ClassFile.FieldType.int) ∈ TT := TT_3 95 rfl rfl
theorem w_576 : Cond.methodLink "WallFractions$Reckoner" 122 ⟨"WallFractions$Whole", "becomeQuotient", "(LWallFractions$Whole;J)J"⟩ ∈ TT := TT_3 96 (by decide +kernel) rfl
theorem w_577 : Cond.methodLink "WallFractionsLaw" 117 ⟨"WallFractionsLaw", "round", "(LWallFractions;IIII)I"⟩ ∈ TT := TT_3 97 (by decide +kernel) rfl
theorem w_578 : Cond.static ⟨"WallFractionsLaw", "round", "(LWallFractions;IIII)I"⟩ ∈ TT := TT_3 98 (by decide +kernel) rfl
theorem w_579 : Cond.codeWith ⟨"WallFractionsLaw", "round", "(LWallFractions;IIII)I"⟩ method_11_code 6 (Option.some ClassFile.FieldType.int) [(0, 9, 12, 13), (0, 9, 16, 21)] ∈ TT := TT_3 99 rfl rfl
theorem w_580 : Cond.methodLink "WallFractionsLaw" 42 ⟨"WallFractions", "round", "(IIII)V"⟩ ∈ TT := TT_3 100 (by decide +kernel) rfl
theorem w_581 : Cond.instanceMethod ⟨"WallFractions", "round", "(IIII)V"⟩ ∈ TT := TT_3 101 (by decide +kernel) rfl
theorem w_582 : Cond.selects "WallFractions" ⟨"WallFractions", "round", "(IIII)V"⟩ ⟨"WallFractions", "round", "(IIII)V"⟩ ∈ TT := TT_3 102 (by decide +kernel) rfl
theorem w_583 : Cond.code ⟨"WallFractions", "round", "(IIII)V"⟩ prog_1_method_10_code 5 (Option.none : Option ClassFile.FieldType) ∈ TT := TT_3 103 rfl rfl
theorem w_584 : Cond.constantLong "WallFractions" 115 40 ∈ TT := TT_3 104 (by decide +kernel) rfl
theorem w_585 : Cond.constantLong "WallFractions" 117 2 ∈ TT := TT_3 105 (by decide +kernel) rfl
theorem w_586 : Cond.methodLink "WallFractions" 119 ⟨"WallFractions$Reckoner", "shorten", "(LWallFractions$Fraction;II)V"⟩ ∈ TT := TT_3 106 (by decide +kernel) rfl
theorem w_587 : Cond.instanceMethod ⟨"WallFractions$Reckoner", "shorten", "(LWallFractions$Fraction;II)V"⟩ ∈ TT := TT_3 107 (by decide +kernel) rfl
theorem w_588 : Cond.selects "WallFractions$Reckoner" ⟨"WallFractions$Reckoner", "shorten", "(LWallFractions$Fraction;II)V"⟩ ⟨"WallFractions$Reckoner", "shorten", "(LWallFractions$Fraction;II)V"⟩ ∈ TT := TT_3 108 (by decide +kernel) rfl
theorem w_589 : Cond.code ⟨"WallFractions$Reckoner", "shorten", "(LWallFractions$Fraction;II)V"⟩ prog_5_method_10_code 4 (Option.none : Option ClassFile.FieldType) ∈ TT := TT_3 109 rfl rfl
theorem w_590 : Cond.methodLink "WallFractions$Reckoner" 126 ⟨"WallFractions$Whole", "becomeTenTo", "(I)V"⟩ ∈ TT := TT_3 110 (by decide +kernel) rfl
theorem w_591 : Cond.instanceMethod ⟨"WallFractions$Whole", "becomeTenTo", "(I)V"⟩ ∈ TT := TT_3 111 (by decide +kernel) rfl
theorem w_592 : Cond.selects "WallFractions$Whole" ⟨"WallFractions$Whole", "becomeTenTo", "(I)V"⟩ ⟨"WallFractions$Whole", "becomeTenTo", "(I)V"⟩ ∈ TT := TT_3 112 (by decide +kernel) rfl
theorem w_593 : Cond.code ⟨"WallFractions$Whole", "becomeTenTo", "(I)V"⟩ prog_7_method_6_code 4 (Option.none : Option ClassFile.FieldType) ∈ TT := TT_3 113 rfl rfl
theorem w_594 : Cond.methodLink "WallFractions$Reckoner" 136 ⟨"WallFractions$Reckoner", "goesUp", "(LWallFractions$Fraction;I)Z"⟩ ∈ TT := TT_3 114 (by decide +kernel) rfl
theorem w_596 : Cond.instanceMethod ⟨"WallFractions$Reckoner", "goesUp", "(LWallFractions$Fraction;I)Z"⟩ ∈ TT := TT_3 116 (by decide +kernel) rfl
theorem w_597 : Cond.code ⟨"WallFractions$Reckoner", "goesUp", "(LWallFractions$Fraction;I)Z"⟩ prog_5_method_11_code 3 (Option.some ClassFile.FieldType.boolean) ∈ TT := TT_3 117 rfl rfl
theorem w_598 : Cond.constantLong "WallFractions$Reckoner" 147 2 ∈ TT := TT_3 118 (by decide +kernel) rfl
theorem w_599 : Cond.methodLink "WallFractions$Reckoner" 140 ⟨"WallFractions$Reckoner", "putOut", "(LWallFractions$Whole;IZ)V"⟩ ∈ TT := TT_3 119 (by decide +kernel) rfl
theorem w_600 : Cond.instanceMethod ⟨"WallFractions$Reckoner", "putOut", "(LWallFractions$Whole;IZ)V"⟩ ∈ TT := TT_3 120 (by decide +kernel) rfl
theorem w_601 : Cond.selects "WallFractions$Reckoner" ⟨"WallFractions$Reckoner", "putOut", "(LWallFractions$Whole;IZ)V"⟩ ⟨"WallFractions$Reckoner", "putOut", "(LWallFractions$Whole;IZ)V"⟩ ∈ TT := TT_3 121 (by decide +kernel) rfl
theorem w_602 : Cond.code ⟨"WallFractions$Reckoner", "putOut", "(LWallFractions$Whole;IZ)V"⟩ prog_5_method_14_code 4 (Option.none : Option ClassFile.FieldType) ∈ TT := TT_3 122 rfl rfl
theorem w_603 : Cond.methodLink "WallFractionsLaw" 121 ⟨"WallFractionsLaw", "root", "(LWallFractions;III)I"⟩ ∈ TT := TT_3 123 (by decide +kernel) rfl
theorem w_604 : Cond.static ⟨"WallFractionsLaw", "root", "(LWallFractions;III)I"⟩ ∈ TT := TT_3 124 (by decide +kernel) rfl
theorem w_605 : Cond.codeWith ⟨"WallFractionsLaw", "root", "(LWallFractions;III)I"⟩ method_12_code 5 (Option.some ClassFile.FieldType.int) [(0, 7, 10, 13), (0, 7, 14, 15), (0, 7, 18, 21)] ∈ TT := TT_3 125 rfl rfl
theorem w_606 : Cond.methodLink "WallFractionsLaw" 46 ⟨"WallFractions", "root", "(III)V"⟩ ∈ TT := TT_3 126 (by decide +kernel) rfl
theorem w_607 : Cond.instanceMethod ⟨"WallFractions", "root", "(III)V"⟩ ∈ TT := TT_3 127 (by decide +kernel) rfl
theorem w_608 : Cond.selects "WallFractions" ⟨"WallFractions", "root", "(III)V"⟩ ⟨"WallFractions", "root", "(III)V"⟩ ∈ TT := TT_3 128 (by decide +kernel) rfl
theorem w_609 : Cond.code ⟨"WallFractions", "root", "(III)V"⟩ prog_1_method_11_code 4 (Option.none : Option ClassFile.FieldType) ∈ TT := TT_3 129 rfl rfl
theorem w_611 : Cond.methodLink "WallFractions" 125 ⟨"WallFractions$Reckoner", "extractRoot", "(LWallFractions$Fraction;I)V"⟩ ∈ TT := TT_3 131 (by decide +kernel) rfl
theorem w_612 : Cond.instanceMethod ⟨"WallFractions$Reckoner", "extractRoot", "(LWallFractions$Fraction;I)V"⟩ ∈ TT := TT_3 132 (by decide +kernel) rfl
theorem w_613 : Cond.selects "WallFractions$Reckoner" ⟨"WallFractions$Reckoner", "extractRoot", "(LWallFractions$Fraction;I)V"⟩ ⟨"WallFractions$Reckoner", "extractRoot", "(LWallFractions$Fraction;I)V"⟩ ∈ TT := TT_3 133 (by decide +kernel) rfl
theorem w_614 : Cond.code ⟨"WallFractions$Reckoner", "extractRoot", "(LWallFractions$Fraction;I)V"⟩ prog_5_method_12_code 3 (Option.none : Option ClassFile.FieldType) ∈ TT := TT_3 134 rfl rfl
theorem w_615 : Cond.methodLink "WallFractions$Reckoner" 149 ⟨"WallFractions$Reckoner", "squareRoot", "(LWallFractions$Whole;LWallFractions$Whole;)V"⟩ ∈ TT := TT_3 135 (by decide +kernel) rfl
theorem w_617 : Cond.instanceMethod ⟨"WallFractions$Reckoner", "squareRoot", "(LWallFractions$Whole;LWallFractions$Whole;)V"⟩ ∈ TT := TT_3 137 (by decide +kernel) rfl
theorem w_618 : Cond.code ⟨"WallFractions$Reckoner", "squareRoot", "(LWallFractions$Whole;LWallFractions$Whole;)V"⟩ prog_5_method_13_code 5 (Option.none : Option ClassFile.FieldType) ∈ TT := TT_3 138 rfl rfl
theorem w_619 : Cond.methodLink "WallFractions$Reckoner" 152 ⟨"WallFractions$Whole", "decimalLength", "()I"⟩ ∈ TT := TT_3 139 (by decide +kernel) rfl
theorem w_620 : Cond.instanceMethod ⟨"WallFractions$Whole", "decimalLength", "()I"⟩ ∈ TT := TT_3 140 (by decide +kernel) rfl
theorem w_621 : Cond.selects "WallFractions$Whole" ⟨"WallFractions$Whole", "decimalLength", "()I"⟩ ⟨"WallFractions$Whole", "decimalLength", "()I"⟩ ∈ TT := TT_3 141 (by decide +kernel) rfl
theorem w_622 : Cond.code ⟨"WallFractions$Whole", "decimalLength", "()I"⟩ prog_7_method_18_code 1 (Option.some ClassFile.FieldType.int) ∈ TT := TT_3 142 rfl rfl
theorem w_623 : Cond.methodLink "WallFractions$Whole" 54 ⟨"WallFractions$Whole", "topLength", "()I"⟩ ∈ TT := TT_3 143 (by decide +kernel) rfl
theorem w_624 : Cond.constant "WallFractions$Reckoner" 156 100000 ∈ TT := TT_3 144 (by decide +kernel) rfl
theorem w_625 : Cond.methodLink "WallFractionsLaw" 124 ⟨"WallFractionsLaw", "compare", "(LWallFractions;II[J)I"⟩ ∈ TT := TT_3 145 (by decide +kernel) rfl
theorem w_626 : Cond.static ⟨"WallFractionsLaw", "compare", "(LWallFractions;II[J)I"⟩ ∈ TT := TT_3 146 (by decide +kernel) rfl
theorem w_627 : Cond.codeWith ⟨"WallFractionsLaw", "compare", "(LWallFractions;II[J)I"⟩ method_13_code 5 (Option.some ClassFile.FieldType.int) [(0, 10, 13, 13)] ∈ TT := TT_3 147 rfl rfl
theorem w_628 : Cond.methodLink "WallFractionsLaw" 49 ⟨"WallFractions", "compare", "(II)I"⟩ ∈ TT := TT_3 148 (by decide +kernel) rfl
theorem w_629 : Cond.instanceMethod ⟨"WallFractions", "compare", "(II)I"⟩ ∈ TT := TT_3 149 (by decide +kernel) rfl
theorem w_630 : Cond.selects "WallFractions" ⟨"WallFractions", "compare", "(II)I"⟩ ⟨"WallFractions", "compare", "(II)I"⟩ ∈ TT := TT_3 150 (by decide +kernel) rfl
theorem w_631 : Cond.code ⟨"WallFractions", "compare", "(II)I"⟩ prog_1_method_12_code 3 (Option.some ClassFile.FieldType.int) ∈ TT := TT_3 151 rfl rfl
theorem w_632 : Cond.methodLink "WallFractions" 128 ⟨"WallFractions$Reckoner", "order", "(LWallFractions$Fraction;LWallFractions$Fraction;)I"⟩ ∈ TT := TT_3 152 (by decide +kernel) rfl
theorem w_633 : Cond.instanceMethod ⟨"WallFractions$Reckoner", "order", "(LWallFractions$Fraction;LWallFractions$Fraction;)I"⟩ ∈ TT := TT_3 153 (by decide +kernel) rfl
theorem w_634 : Cond.selects "WallFractions$Reckoner" ⟨"WallFractions$Reckoner", "order", "(LWallFractions$Fraction;LWallFractions$Fraction;)I"⟩ ⟨"WallFractions$Reckoner", "order", "(LWallFractions$Fraction;LWallFractions$Fraction;)I"⟩ ∈ TT := TT_3 154 (by decide +kernel) rfl
theorem w_635 : Cond.code ⟨"WallFractions$Reckoner", "order", "(LWallFractions$Fraction;LWallFractions$Fraction;)I"⟩ prog_5_method_16_code 3 (Option.some ClassFile.FieldType.int) ∈ TT := TT_3 155 rfl rfl
theorem w_636 : Cond.methodLink "WallFractionsLaw" 128 ⟨"WallFractionsLaw", "sign", "(LWallFractions;I[J)I"⟩ ∈ TT := TT_3 156 (by decide +kernel) rfl
theorem w_637 : Cond.static ⟨"WallFractionsLaw", "sign", "(LWallFractions;I[J)I"⟩ ∈ TT := TT_3 157 (by decide +kernel) rfl
theorem w_638 : Cond.codeWith ⟨"WallFractionsLaw", "sign", "(LWallFractions;I[J)I"⟩ method_14_code 4 (Option.some ClassFile.FieldType.int) [(0, 9, 12, 13)] ∈ TT := TT_3 158 rfl rfl
theorem w_639 : Cond.methodLink "WallFractionsLaw" 53 ⟨"WallFractions", "sign", "(I)I"⟩ ∈ TT := TT_3 159 (by decide +kernel) rfl
theorem w_640 : Cond.instanceMethod ⟨"WallFractions", "sign", "(I)I"⟩ ∈ TT := TT_3 160 (by decide +kernel) rfl
theorem w_641 : Cond.selects "WallFractions" ⟨"WallFractions", "sign", "(I)I"⟩ ⟨"WallFractions", "sign", "(I)I"⟩ ∈ TT := TT_3 161 (by decide +kernel) rfl
theorem w_642 : Cond.code ⟨"WallFractions", "sign", "(I)I"⟩ prog_1_method_13_code 2 (Option.some ClassFile.FieldType.int) ∈ TT := TT_3 162 rfl rfl
theorem w_643 : Cond.methodLink "WallFractions" 132 ⟨"WallFractions$Fraction", "direction", "()I"⟩ ∈ TT := TT_3 163 (by decide +kernel) rfl
theorem w_644 : Cond.instanceMethod ⟨"WallFractions$Fraction", "direction", "()I"⟩ ∈ TT := TT_3 164 (by decide +kernel) rfl
theorem w_645 : Cond.selects "WallFractions$Fraction" ⟨"WallFractions$Fraction", "direction", "()I"⟩ ⟨"WallFractions$Fraction", "direction", "()I"⟩ ∈ TT := TT_3 165 (by decide +kernel) rfl
theorem w_646 : Cond.code ⟨"WallFractions$Fraction", "direction", "()I"⟩ prog_3_method_4_code 1 (Option.some ClassFile.FieldType.int) ∈ TT := TT_3 166 rfl rfl
theorem w_647 : Cond.methodLink "WallFractions$Fraction" 37 ⟨"WallFractions$Whole", "isZero", "()Z"⟩ ∈ TT := TT_3 167 (by decide +kernel) rfl
theorem w_648 : Cond.methodLink "WallFractionsLaw" 132 ⟨"WallFractionsLaw", "digits", "(LWallFractions;II[J)I"⟩ ∈ TT := TT_3 168 (by decide +kernel) rfl
theorem w_649 : Cond.static ⟨"WallFractionsLaw", "digits", "(LWallFractions;II[J)I"⟩ ∈ TT := TT_3 169 (by decide +kernel) rfl
theorem w_650 : Cond.codeWith ⟨"WallFractionsLaw", "digits", "(LWallFractions;II[J)I"⟩ method_15_code 5 (Option.some ClassFile.FieldType.int) [(0, 10, 13, 13)] ∈ TT := TT_3 170 rfl rfl
theorem w_651 : Cond.methodLink "WallFractionsLaw" 57 ⟨"WallFractions", "digits", "(II)I"⟩ ∈ TT := TT_3 171 (by decide +kernel) rfl
theorem w_652 : Cond.instanceMethod ⟨"WallFractions", "digits", "(II)I"⟩ ∈ TT := TT_3 172 (by decide +kernel) rfl
theorem w_653 : Cond.selects "WallFractions" ⟨"WallFractions", "digits", "(II)I"⟩ ⟨"WallFractions", "digits", "(II)I"⟩ ∈ TT := TT_3 173 (by decide +kernel) rfl
theorem w_654 : Cond.code ⟨"WallFractions", "digits", "(II)I"⟩ prog_1_method_14_code 3 (Option.some ClassFile.FieldType.int) ∈ TT := TT_3 174 rfl rfl
theorem w_655 : Cond.methodLink "WallFractions" 136 ⟨"WallFractions", "partOf", "(II)LWallFractions$Whole;"⟩ ∈ TT := TT_3 175 (by decide +kernel) rfl
theorem w_657 : Cond.instanceMethod ⟨"WallFractions", "partOf", "(II)LWallFractions$Whole;"⟩ ∈ TT := TT_3 177 (by decide +kernel) rfl
theorem w_658 : Cond.code ⟨"WallFractions", "partOf", "(II)LWallFractions$Whole;"⟩ prog_1_method_24_code 3 (Option.some (ClassFile.FieldType.object "WallFractions$Whole")) ∈ TT := TT_3 178 rfl rfl
theorem w_659 : Cond.methodLink "WallFractions" 140 ⟨"WallFractions$Whole", "decimalLength", "()I"⟩ ∈ TT := TT_3 179 (by decide +kernel) rfl
theorem w_660 : Cond.methodLink "WallFractionsLaw" 135 ⟨"WallFractionsLaw", "digit", "(LWallFractions;III[J)I"⟩ ∈ TT := TT_3 180 (by decide +kernel) rfl
theorem w_661 : Cond.static ⟨"WallFractionsLaw", "digit", "(LWallFractions;III[J)I"⟩ ∈ TT := TT_3 181 (by decide +kernel) rfl
theorem w_662 : Cond.codeWith ⟨"WallFractionsLaw", "digit", "(LWallFractions;III[J)I"⟩ method_16_code 6 (Option.some ClassFile.FieldType.int) [(0, 12, 15, 13), (0, 12, 19, 64)] ∈ TT := TT_3 182 rfl rfl
theorem w_663 : Cond.classLink "WallFractionsLaw" 64 "java/lang/IndexOutOfBoundsException" ∈ TT := TT_3 183 (by decide +kernel) rfl
theorem w_664 : Cond.methodLink "WallFractionsLaw" 60 ⟨"WallFractions", "digit", "(III)I"⟩ ∈ TT := TT_3 184 (by decide +kernel) rfl
theorem w_665 : Cond.instanceMethod ⟨"WallFractions", "digit", "(III)I"⟩ ∈ TT := TT_3 185 (by decide +kernel) rfl
theorem w_666 : Cond.selects "WallFractions" ⟨"WallFractions", "digit", "(III)I"⟩ ⟨"WallFractions", "digit", "(III)I"⟩ ∈ TT := TT_3 186 (by decide +kernel) rfl
theorem w_667 : Cond.code ⟨"WallFractions", "digit", "(III)I"⟩ prog_1_method_15_code 5 (Option.some ClassFile.FieldType.int) ∈ TT := TT_3 187 rfl rfl
theorem w_668 : Cond.classLink "WallFractions" 143 "java/lang/IndexOutOfBoundsException" ∈ TT := TT_3 188 (by decide +kernel) rfl
theorem w_669 : Cond.instantiable "java/lang/IndexOutOfBoundsException" 6 ∈ TT := TT_3 189 (by decide +kernel) rfl
theorem w_671 : Cond.selects "java/lang/IndexOutOfBoundsException" ⟨"java/lang/Throwable", "fillInStackTrace", "(I)Ljava/lang/Throwable;"⟩ ⟨"java/lang/Throwable", "fillInStackTrace", "(I)Ljava/lang/Throwable;"⟩ ∈ TT := TT_3 191 (by decide +kernel) rfl
theorem w_672 : Cond.lays "java/lang/IndexOutOfBoundsException" "java/lang/Throwable" "cause" "Ljava/lang/Throwable;" ∈ TT := TT_3 192 (by decide +kernel) rfl
theorem w_673 : Cond.lays "java/lang/IndexOutOfBoundsException" "java/lang/Throwable" "stackTrace" "[Ljava/lang/StackTraceElement;" ∈ TT := TT_3 193 (by decide +kernel) rfl
theorem w_674 : Cond.lays "java/lang/IndexOutOfBoundsException" "java/lang/Throwable" "suppressedExceptions" "Ljava/util/List;" ∈ TT := TT_3 194 (by decide +kernel) rfl
theorem w_675 : Cond.lays "java/lang/IndexOutOfBoundsException" "java/lang/Throwable" "detailMessage" "Ljava/lang/String;" ∈ TT := TT_3 195 (by decide +kernel) rfl
theorem w_676 : Cond.lays "java/lang/IndexOutOfBoundsException" "java/lang/Throwable" "backtrace" "Ljava/lang/Object;" ∈ TT := TT_3 196 (by decide +kernel) rfl
theorem w_678 : Cond.methodLink "WallFractions" 147 ⟨"java/lang/IndexOutOfBoundsException", "<init>", "(Ljava/lang/String;)V"⟩ ∈ TT := TT_3 198 (by decide +kernel) rfl
theorem w_679 : Cond.instanceMethod ⟨"java/lang/IndexOutOfBoundsException", "<init>", "(Ljava/lang/String;)V"⟩ ∈ TT := TT_3 199 (by decide +kernel) rfl
theorem w_680 : Cond.code ⟨"java/lang/IndexOutOfBoundsException", "<init>", "(Ljava/lang/String;)V"⟩ prog_14_method_2_code 2 (Option.none : Option ClassFile.FieldType) ∈ TT := TT_3 200 rfl rfl
theorem w_681 : Cond.methodLink "java/lang/IndexOutOfBoundsException" 7 ⟨"java/lang/RuntimeException", "<init>", "(Ljava/lang/String;)V"⟩ ∈ TT := TT_3 201 (by decide +kernel) rfl
theorem w_682 : Cond.lays "java/lang/IndexOutOfBoundsException" "java/lang/Throwable" "depth" "I" ∈ TT := TT_3 202 (by decide +kernel) rfl
theorem w_684 : Cond.methodLink "WallFractions" 148 ⟨"WallFractions$Whole", "decimalAt", "(I)I"⟩ ∈ TT := TT_3 204 (by decide +kernel) rfl
theorem w_685 : Cond.instanceMethod ⟨"WallFractions$Whole", "decimalAt", "(I)I"⟩ ∈ TT := TT_3 205 (by decide +kernel) rfl
theorem w_686 : Cond.selects "WallFractions$Whole" ⟨"WallFractions$Whole", "decimalAt", "(I)I"⟩ ⟨"WallFractions$Whole", "decimalAt", "(I)I"⟩ ∈ TT := TT_3 206 (by decide +kernel) rfl
theorem w_687 : Cond.code ⟨"WallFractions$Whole", "decimalAt", "(I)I"⟩ prog_7_method_20_code 2 (Option.some ClassFile.FieldType.int) ∈ TT := TT_3 207 rfl rfl
theorem w_688 : Cond.constantLong "WallFractions$Whole" 58 10 ∈ TT := TT_3 208 (by decide +kernel) rfl
theorem w_689 : Cond.methodLink "WallFractionsLaw" 139 ⟨"WallFractionsLaw", "behind", "(LWallFractions;II[J)I"⟩ ∈ TT := TT_3 209 (by decide +kernel) rfl
theorem w_690 : Cond.static ⟨"WallFractionsLaw", "behind", "(LWallFractions;II[J)I"⟩ ∈ TT := TT_3 210 (by decide +kernel) rfl
theorem w_691 : Cond.codeWith ⟨"WallFractionsLaw", "behind", "(LWallFractions;II[J)I"⟩ method_17_code 5 (Option.some ClassFile.FieldType.int) [(0, 10, 13, 13)] ∈ TT := TT_3 211 rfl rfl
theorem w_692 : Cond.methodLink "WallFractionsLaw" 66 ⟨"WallFractions", "behind", "(II)I"⟩ ∈ TT := TT_3 212 (by decide +kernel) rfl
theorem w_693 : Cond.instanceMethod ⟨"WallFractions", "behind", "(II)I"⟩ ∈ TT := TT_3 213 (by decide +kernel) rfl
theorem w_694 : Cond.selects "WallFractions" ⟨"WallFractions", "behind", "(II)I"⟩ ⟨"WallFractions", "behind", "(II)I"⟩ ∈ TT := TT_3 214 (by decide +kernel) rfl
theorem w_695 : Cond.code ⟨"WallFractions", "behind", "(II)I"⟩ prog_1_method_16_code 3 (Option.some ClassFile.FieldType.int) ∈ TT := TT_3 215 rfl rfl
theorem w_696 : Cond.constantLong "WallFractions" 152 300 ∈ TT := TT_3 216 (by decide +kernel) rfl
theorem w_697 : Cond.methodLink "WallFractions" 154 ⟨"WallFractions$Reckoner", "decimalBehind", "(LWallFractions$Fraction;I)I"⟩ ∈ TT := TT_3 217 (by decide +kernel) rfl
theorem w_698 : Cond.instanceMethod ⟨"WallFractions$Reckoner", "decimalBehind", "(LWallFractions$Fraction;I)I"⟩ ∈ TT := TT_3 218 (by decide +kernel) rfl
theorem w_699 : Cond.selects "WallFractions$Reckoner" ⟨"WallFractions$Reckoner", "decimalBehind", "(LWallFractions$Fraction;I)I"⟩ ⟨"WallFractions$Reckoner", "decimalBehind", "(LWallFractions$Fraction;I)I"⟩ ∈ TT := TT_3 219 (by decide +kernel) rfl
theorem w_700 : Cond.code ⟨"WallFractions$Reckoner", "decimalBehind", "(LWallFractions$Fraction;I)I"⟩ prog_5_method_17_code 4 (Option.some ClassFile.FieldType.int) ∈ TT := TT_3 220 rfl rfl
theorem w_702 : Cond.methodLink "WallFractions$Reckoner" 168 ⟨"WallFractions$Whole", "decimalAt", "(I)I"⟩ ∈ TT := TT_3 222 (by decide +kernel) rfl
theorem w_703 : Cond.methodLink "WallFractionsLaw" 142 ⟨"WallFractionsLaw", "modulo", "(LWallFractions;III[J)I"⟩ ∈ TT := TT_3 223 (by decide +kernel) rfl
theorem w_704 : Cond.static ⟨"WallFractionsLaw", "modulo", "(LWallFractions;III[J)I"⟩ ∈ TT := TT_3 224 (by decide +kernel) rfl
theorem w_705 : Cond.codeWith ⟨"WallFractionsLaw", "modulo", "(LWallFractions;III[J)I"⟩ method_18_code 6 (Option.some ClassFile.FieldType.int) [(0, 12, 15, 13)] ∈ TT := TT_3 225 rfl rfl
theorem w_706 : Cond.methodLink "WallFractionsLaw" 69 ⟨"WallFractions", "modulo", "(III)I"⟩ ∈ TT := TT_3 226 (by decide +kernel) rfl
theorem w_707 : Cond.instanceMethod ⟨"WallFractions", "modulo", "(III)I"⟩ ∈ TT := TT_3 227 (by decide +kernel) rfl
theorem w_708 : Cond.selects "WallFractions" ⟨"WallFractions", "modulo", "(III)I"⟩ ⟨"WallFractions", "modulo", "(III)I"⟩ ∈ TT := TT_3 228 (by decide +kernel) rfl
theorem w_709 : Cond.code ⟨"WallFractions", "modulo", "(III)I"⟩ prog_1_method_17_code 5 (Option.some ClassFile.FieldType.int) ∈ TT := TT_3 229 rfl rfl
theorem w_710 : Cond.constantLong "WallFractions" 158 1000000000 ∈ TT := TT_3 230 (by decide +kernel) rfl
theorem w_711 : Cond.methodLink "WallFractions" 160 ⟨"WallFractions$Whole", "restBy", "(J)J"⟩ ∈ TT := TT_3 231 (by decide +kernel) rfl
theorem w_712 : Cond.instanceMethod ⟨"WallFractions$Whole", "restBy", "(J)J"⟩ ∈ TT := TT_3 232 (by decide +kernel) rfl
theorem w_713 : Cond.selects "WallFractions$Whole" ⟨"WallFractions$Whole", "restBy", "(J)J"⟩ ⟨"WallFractions$Whole", "restBy", "(J)J"⟩ ∈ TT := TT_3 233 (by decide +kernel) rfl
theorem w_714 : Cond.code ⟨"WallFractions$Whole", "restBy", "(J)J"⟩ prog_7_method_17_code 6 (Option.some ClassFile.FieldType.long) ∈ TT := TT_3 234 rfl rfl
theorem w_715 : Cond.methodLink "WallFractionsLaw" 145 ⟨"WallFractionsLaw", "weight", "(LWallFractions;II[J)I"⟩ ∈ TT := TT_3 235 (by decide +kernel) rfl
theorem w_716 : Cond.static ⟨"WallFractionsLaw", "weight", "(LWallFractions;II[J)I"⟩ ∈ TT := TT_3 236 (by decide +kernel) rfl
theorem w_717 : Cond.codeWith ⟨"WallFractionsLaw", "weight", "(LWallFractions;II[J)I"⟩ method_19_code 5 (Option.some ClassFile.FieldType.int) [(0, 10, 13, 13)] ∈ TT := TT_3 237 rfl rfl
theorem w_718 : Cond.methodLink "WallFractionsLaw" 72 ⟨"WallFractions", "weight", "(II)I"⟩ ∈ TT := TT_3 238 (by decide +kernel) rfl
theorem w_719 : Cond.instanceMethod ⟨"WallFractions", "weight", "(II)I"⟩ ∈ TT := TT_3 239 (by decide +kernel) rfl
theorem w_720 : Cond.selects "WallFractions" ⟨"WallFractions", "weight", "(II)I"⟩ ⟨"WallFractions", "weight", "(II)I"⟩ ∈ TT := TT_4 0 (by decide +kernel) rfl
theorem w_721 : Cond.code ⟨"WallFractions", "weight", "(II)I"⟩ prog_1_method_18_code 3 (Option.some ClassFile.FieldType.int) ∈ TT := TT_4 1 rfl rfl
theorem w_722 : Cond.constantLong "WallFractions" 164 9 ∈ TT := TT_4 2 (by decide +kernel) rfl
theorem w_723 : Cond.methodLink "WallFractions" 166 ⟨"WallFractions$Sharing", "exchange", "(II)I"⟩ ∈ TT := TT_4 3 (by decide +kernel) rfl
theorem w_724 : Cond.instanceMethod ⟨"WallFractions$Sharing", "exchange", "(II)I"⟩ ∈ TT := TT_4 4 (by decide +kernel) rfl
theorem w_725 : Cond.selects "WallFractions$Sharing" ⟨"WallFractions$Sharing", "exchange", "(II)I"⟩ ⟨"WallFractions$Sharing", "exchange", "(II)I"⟩ ∈ TT := TT_4 5 (by decide +kernel) rfl
theorem w_726 : Cond.code ⟨"WallFractions$Sharing", "exchange", "(II)I"⟩ prog_6_method_2_code 4 (Option.some ClassFile.FieldType.int) ∈ TT := TT_4 6 rfl rfl
theorem w_727 : Cond.methodLink "WallFractionsLaw" 148 ⟨"WallFractionsLaw", "share", "(LWallFractions;III)I"⟩ ∈ TT := TT_4 7 (by decide +kernel) rfl
theorem w_728 : Cond.static ⟨"WallFractionsLaw", "share", "(LWallFractions;III)I"⟩ ∈ TT := TT_4 8 (by decide +kernel) rfl
theorem w_729 : Cond.codeWith ⟨"WallFractionsLaw", "share", "(LWallFractions;III)I"⟩ method_20_code 5 (Option.some ClassFile.FieldType.int) [(0, 7, 10, 13), (0, 7, 14, 15), (0, 7, 18, 21)] ∈ TT := TT_4 9 rfl rfl
theorem w_730 : Cond.methodLink "WallFractionsLaw" 75 ⟨"WallFractions", "share", "(III)V"⟩ ∈ TT := TT_4 10 (by decide +kernel) rfl
theorem w_731 : Cond.instanceMethod ⟨"WallFractions", "share", "(III)V"⟩ ∈ TT := TT_4 11 (by decide +kernel) rfl
theorem w_732 : Cond.selects "WallFractions" ⟨"WallFractions", "share", "(III)V"⟩ ⟨"WallFractions", "share", "(III)V"⟩ ∈ TT := TT_4 12 (by decide +kernel) rfl
theorem w_733 : Cond.code ⟨"WallFractions", "share", "(III)V"⟩ prog_1_method_19_code 4 (Option.none : Option ClassFile.FieldType) ∈ TT := TT_4 13 rfl rfl
theorem w_734 : Cond.methodLink "WallFractions" 170 ⟨"WallFractions$Sharing", "sumOfWeights", "()J"⟩ ∈ TT := TT_4 14 (by decide +kernel) rfl
theorem w_735 : Cond.instanceMethod ⟨"WallFractions$Sharing", "sumOfWeights", "()J"⟩ ∈ TT := TT_4 15 (by decide +kernel) rfl
theorem w_736 : Cond.selects "WallFractions$Sharing" ⟨"WallFractions$Sharing", "sumOfWeights", "()J"⟩ ⟨"WallFractions$Sharing", "sumOfWeights", "()J"⟩ ∈ TT := TT_4 16 (by decide +kernel) rfl
theorem w_737 : Cond.code ⟨"WallFractions$Sharing", "sumOfWeights", "()J"⟩ prog_6_method_3_code 4 (Option.some ClassFile.FieldType.long) ∈ TT := TT_4 17 rfl rfl
theorem w_739 : Cond.methodLink "WallFractions" 179 ⟨"WallFractions$Sharing", "shareOf", "(LWallFractions$Whole;I)LWallFractions$Whole;"⟩ ∈ TT := TT_4 19 (by decide +kernel) rfl
theorem w_740 : Cond.instanceMethod ⟨"WallFractions$Sharing", "shareOf", "(LWallFractions$Whole;I)LWallFractions$Whole;"⟩ ∈ TT := TT_4 20 (by decide +kernel) rfl
theorem w_741 : Cond.selects "WallFractions$Sharing" ⟨"WallFractions$Sharing", "shareOf", "(LWallFractions$Whole;I)LWallFractions$Whole;"⟩ ⟨"WallFractions$Sharing", "shareOf", "(LWallFractions$Whole;I)LWallFractions$Whole;"⟩ ∈ TT := TT_4 21 (by decide +kernel) rfl
theorem w_742 : Cond.code ⟨"WallFractions$Sharing", "shareOf", "(LWallFractions$Whole;I)LWallFractions$Whole;"⟩ prog_6_method_4_code 8 (Option.some (ClassFile.FieldType.object "WallFractions$Whole")) ∈ TT := TT_4 22 rfl rfl
theorem w_743 : Cond.methodLink "WallFractions$Sharing" 39 ⟨"WallFractions$Sharing", "sumOfWeights", "()J"⟩ ∈ TT := TT_4 23 (by decide +kernel) rfl
theorem w_744 : Cond.methodLink "WallFractions$Sharing" 43 ⟨"WallFractions$Whole", "become", "(J)V"⟩ ∈ TT := TT_4 24 (by decide +kernel) rfl
theorem w_745 : Cond.methodLink "WallFractions$Sharing" 47 ⟨"WallFractions$Whole", "copyFrom", "(LWallFractions$Whole;)V"⟩ ∈ TT := TT_4 25 (by decide +kernel) rfl
theorem w_746 : Cond.methodLink "WallFractions$Sharing" 51 ⟨"WallFractions$Whole", "grow", "(JJ)V"⟩ ∈ TT := TT_4 26 (by decide +kernel) rfl
theorem w_747 : Cond.methodLink "WallFractions$Sharing" 55 ⟨"WallFractions$Divider", "split", "(LWallFractions$Whole;LWallFractions$Whole;LWallFractions$Whole;LWallFractions$Whole;)V"⟩ ∈ TT := TT_4 27 (by decide +kernel) rfl
theorem w_748 : Cond.methodLink "WallFractions$Sharing" 61 ⟨"WallFractions$Whole", "lowest", "()J"⟩ ∈ TT := TT_4 28 (by decide +kernel) rfl
theorem w_749 : Cond.methodLink "WallFractions$Sharing" 64 ⟨"WallFractions$Sharing", "rank", "(I)J"⟩ ∈ TT := TT_4 29 (by decide +kernel) rfl
theorem w_751 : Cond.instanceMethod ⟨"WallFractions$Sharing", "rank", "(I)J"⟩ ∈ TT := TT_4 31 (by decide +kernel) rfl
theorem w_752 : Cond.code ⟨"WallFractions$Sharing", "rank", "(I)J"⟩ prog_6_method_5_code 5 (Option.some ClassFile.FieldType.long) ∈ TT := TT_4 32 rfl rfl
theorem w_753 : Cond.methodLink "WallFractions" 183 ⟨"WallFractions$Reckoner", "putOut", "(LWallFractions$Whole;IZ)V"⟩ ∈ TT := TT_4 33 (by decide +kernel) rfl
theorem w_754 : Cond.classLink "WallFractionsLaw" 79 "WallFractionsModel" ∈ TT := TT_4 34 (by decide +kernel) rfl
theorem w_755 : Cond.instantiable "WallFractionsModel" 6 ∈ TT := TT_4 35 (by decide +kernel) rfl
theorem w_756 : Cond.methodLink "WallFractionsLaw" 81 ⟨"WallFractionsModel", "<init>", "()V"⟩ ∈ TT := TT_4 36 (by decide +kernel) rfl
theorem w_757 : Cond.instanceMethod ⟨"WallFractionsModel", "<init>", "()V"⟩ ∈ TT := TT_4 37 (by decide +kernel) rfl
theorem w_758 : Cond.code ⟨"WallFractionsModel", "<init>", "()V"⟩ prog_9_method_1_code 2 (Option.none : Option ClassFile.FieldType) ∈ TT := TT_4 38 rfl rfl
theorem w_759 : Cond.methodLink "WallFractionsModel" 1 ⟨"java/lang/Object", "<init>", "()V"⟩ ∈ TT := TT_4 39 (by decide +kernel) rfl
theorem w_760 : Cond.methodLink "WallFractionsModel" 26 ⟨"WallFractionsModel", "setLong", "(IJ)V"⟩ ∈ TT := TT_4 40 (by decide +kernel) rfl
theorem w_762 : Cond.instanceMethod ⟨"WallFractionsModel", "setLong", "(IJ)V"⟩ ∈ TT := TT_4 42 (by decide +kernel) rfl
theorem w_763 : Cond.code ⟨"WallFractionsModel", "setLong", "(IJ)V"⟩ prog_9_method_7_code 7 (Option.none : Option ClassFile.FieldType) ∈ TT := TT_4 43 rfl rfl
theorem w_764 : Cond.constantLong "WallFractionsModel" 34 10000 ∈ TT := TT_4 44 (by decide +kernel) rfl
theorem w_765 : Cond.fieldLink "WallFractionsModel" 30 "WallFractionsModel" "thrown" "I" ∈ TT := TT_4 45 (by decide +kernel) rfl
theorem w_766 : Cond.fieldLink "WallFractionsModel" 7 "WallFractionsModel" "cells" "[I" ∈ TT := TT_4 46 (by decide +kernel) rfl
theorem w_767 : Cond.fieldLink "WallFractionsModel" 13 "WallFractionsModel" "lengths" "[I" ∈ TT := TT_4 47 (by decide +kernel) rfl
theorem w_768 : Cond.fieldLink "WallFractionsModel" 16 "WallFractionsModel" "signs" "[I" ∈ TT := TT_4 48 (by decide +kernel) rfl
theorem w_769 : Cond.fieldLink "WallFractionsModel" 19 "WallFractionsModel" "weights" "[I" ∈ TT := TT_4 49 (by decide +kernel) rfl
theorem w_770 : Cond.fieldLink "WallFractionsModel" 22 "WallFractionsModel" "rests" "[J" ∈ TT := TT_4 50 (by decide +kernel) rfl
theorem w_771 : Cond.lays "WallFractionsModel" "WallFractionsModel" "thrown" "I" ∈ TT := TT_4 51 (by decide +kernel) rfl
theorem w_773 : Cond.laysFinal "WallFractionsModel" "WallFractionsModel" "cells" "[I" ∈ TT := TT_4 53 (by decide +kernel) rfl
theorem w_775 : Cond.laysFinal "WallFractionsModel" "WallFractionsModel" "lengths" "[I" ∈ TT := TT_4 55 (by decide +kernel) rfl
theorem w_777 : Cond.laysFinal "WallFractionsModel" "WallFractionsModel" "signs" "[I" ∈ TT := TT_4 57 (by decide +kernel) rfl
theorem w_779 : Cond.laysFinal "WallFractionsModel" "WallFractionsModel" "weights" "[I" ∈ TT := TT_4 59 (by decide +kernel) rfl
theorem w_781 : Cond.laysFinal "WallFractionsModel" "WallFractionsModel" "rests" "[J" ∈ TT := TT_4 61 (by decide +kernel) rfl
theorem w_784 : Cond.methodLink "WallFractionsLaw" 90 ⟨"WallFractionsModel", "thrown", "()I"⟩ ∈ TT := TT_4 64 (by decide +kernel) rfl
theorem w_785 : Cond.instanceMethod ⟨"WallFractionsModel", "thrown", "()I"⟩ ∈ TT := TT_4 65 (by decide +kernel) rfl
theorem w_786 : Cond.selects "WallFractionsModel" ⟨"WallFractionsModel", "thrown", "()I"⟩ ⟨"WallFractionsModel", "thrown", "()I"⟩ ∈ TT := TT_4 66 (by decide +kernel) rfl
theorem w_787 : Cond.code ⟨"WallFractionsModel", "thrown", "()I"⟩ prog_9_method_2_code 1 (Option.some ClassFile.FieldType.int) ∈ TT := TT_4 67 rfl rfl
theorem w_788 : Cond.methodLink "WallFractionsLaw" 89 ⟨"WallFractionsModel", "set", "(IJJ)V"⟩ ∈ TT := TT_4 68 (by decide +kernel) rfl
theorem w_789 : Cond.instanceMethod ⟨"WallFractionsModel", "set", "(IJJ)V"⟩ ∈ TT := TT_4 69 (by decide +kernel) rfl
theorem w_790 : Cond.selects "WallFractionsModel" ⟨"WallFractionsModel", "set", "(IJJ)V"⟩ ⟨"WallFractionsModel", "set", "(IJJ)V"⟩ ∈ TT := TT_4 70 (by decide +kernel) rfl
theorem w_791 : Cond.code ⟨"WallFractionsModel", "set", "(IJJ)V"⟩ prog_9_method_23_code 9 (Option.none : Option ClassFile.FieldType) ∈ TT := TT_4 71 rfl rfl
theorem w_792 : Cond.constantLong "WallFractionsModel" 72 (-9223372036854775807) ∈ TT := TT_4 72 (by decide +kernel) rfl
theorem w_793 : Cond.methodLink "WallFractionsModel" 74 ⟨"WallFractionsModel", "isRegister", "(I)Z"⟩ ∈ TT := TT_4 73 (by decide +kernel) rfl
theorem w_794 : Cond.static ⟨"WallFractionsModel", "isRegister", "(I)Z"⟩ ∈ TT := TT_4 74 (by decide +kernel) rfl
theorem w_795 : Cond.code ⟨"WallFractionsModel", "isRegister", "(I)Z"⟩ prog_9_method_4_code 1 (Option.some ClassFile.FieldType.boolean) ∈ TT := TT_4 75 rfl rfl
theorem w_796 : Cond.methodLink "WallFractionsModel" 77 ⟨"WallFractionsModel", "finish", "(II)Z"⟩ ∈ TT := TT_4 76 (by decide +kernel) rfl
theorem w_798 : Cond.instanceMethod ⟨"WallFractionsModel", "finish", "(II)Z"⟩ ∈ TT := TT_4 78 (by decide +kernel) rfl
theorem w_799 : Cond.code ⟨"WallFractionsModel", "finish", "(II)Z"⟩ prog_9_method_22_code 4 (Option.some ClassFile.FieldType.boolean) ∈ TT := TT_4 79 rfl rfl
theorem w_800 : Cond.methodLink "WallFractionsModel" 69 ⟨"WallFractionsModel", "divisor", "(II)I"⟩ ∈ TT := TT_4 80 (by decide +kernel) rfl
theorem w_802 : Cond.instanceMethod ⟨"WallFractionsModel", "divisor", "(II)I"⟩ ∈ TT := TT_4 82 (by decide +kernel) rfl
theorem w_803 : Cond.code ⟨"WallFractionsModel", "divisor", "(II)I"⟩ prog_9_method_20_code 6 (Option.some ClassFile.FieldType.int) ∈ TT := TT_4 83 rfl rfl
theorem w_804 : Cond.methodLink "WallFractionsModel" 58 ⟨"WallFractionsModel", "copy", "(II)V"⟩ ∈ TT := TT_4 84 (by decide +kernel) rfl
theorem w_806 : Cond.instanceMethod ⟨"WallFractionsModel", "copy", "(II)V"⟩ ∈ TT := TT_4 86 (by decide +kernel) rfl
theorem w_807 : Cond.code ⟨"WallFractionsModel", "copy", "(II)V"⟩ prog_9_method_8_code 4 (Option.none : Option ClassFile.FieldType) ∈ TT := TT_4 87 rfl rfl
theorem w_808 : Cond.methodLink "WallFractionsModel" 61 ⟨"WallFractionsModel", "isZero", "(I)Z"⟩ ∈ TT := TT_4 88 (by decide +kernel) rfl
theorem w_810 : Cond.instanceMethod ⟨"WallFractionsModel", "isZero", "(I)Z"⟩ ∈ TT := TT_4 90 (by decide +kernel) rfl
theorem w_811 : Cond.code ⟨"WallFractionsModel", "isZero", "(I)Z"⟩ prog_9_method_9_code 2 (Option.some ClassFile.FieldType.boolean) ∈ TT := TT_4 91 rfl rfl
theorem w_812 : Cond.methodLink "WallFractionsModel" 65 ⟨"WallFractionsModel", "part", "(III)V"⟩ ∈ TT := TT_4 92 (by decide +kernel) rfl
theorem w_814 : Cond.instanceMethod ⟨"WallFractionsModel", "part", "(III)V"⟩ ∈ TT := TT_4 94 (by decide +kernel) rfl
theorem w_815 : Cond.code ⟨"WallFractionsModel", "part", "(III)V"⟩ prog_9_method_19_code 14 (Option.none : Option ClassFile.FieldType) ∈ TT := TT_4 95 rfl rfl
theorem w_816 : Cond.methodLink "WallFractionsModel" 36 ⟨"WallFractionsModel", "cell", "(II)I"⟩ ∈ TT := TT_4 96 (by decide +kernel) rfl
theorem w_818 : Cond.instanceMethod ⟨"WallFractionsModel", "cell", "(II)I"⟩ ∈ TT := TT_4 98 (by decide +kernel) rfl
theorem w_819 : Cond.code ⟨"WallFractionsModel", "cell", "(II)I"⟩ prog_9_method_5_code 3 (Option.some ClassFile.FieldType.int) ∈ TT := TT_4 99 rfl rfl
theorem w_820 : Cond.methodLink "WallFractionsModel" 50 ⟨"WallFractionsModel", "holds", "(III)Z"⟩ ∈ TT := TT_4 100 (by decide +kernel) rfl
theorem w_822 : Cond.instanceMethod ⟨"WallFractionsModel", "holds", "(III)Z"⟩ ∈ TT := TT_4 102 (by decide +kernel) rfl
theorem w_823 : Cond.code ⟨"WallFractionsModel", "holds", "(III)Z"⟩ prog_9_method_17_code 6 (Option.some ClassFile.FieldType.boolean) ∈ TT := TT_4 103 rfl rfl
theorem w_824 : Cond.methodLink "WallFractionsModel" 54 ⟨"WallFractionsModel", "takeOff", "(IIII)V"⟩ ∈ TT := TT_4 104 (by decide +kernel) rfl
theorem w_826 : Cond.instanceMethod ⟨"WallFractionsModel", "takeOff", "(IIII)V"⟩ ∈ TT := TT_4 106 (by decide +kernel) rfl
theorem w_827 : Cond.code ⟨"WallFractionsModel", "takeOff", "(IIII)V"⟩ prog_9_method_18_code 9 (Option.none : Option ClassFile.FieldType) ∈ TT := TT_4 107 rfl rfl
theorem w_828 : Cond.methodLink "WallFractionsModel" 40 ⟨"WallFractionsModel", "trim", "(II)V"⟩ ∈ TT := TT_4 108 (by decide +kernel) rfl
theorem w_830 : Cond.instanceMethod ⟨"WallFractionsModel", "trim", "(II)V"⟩ ∈ TT := TT_4 110 (by decide +kernel) rfl
theorem w_831 : Cond.code ⟨"WallFractionsModel", "trim", "(II)V"⟩ prog_9_method_6_code 4 (Option.none : Option ClassFile.FieldType) ∈ TT := TT_4 111 rfl rfl
theorem w_832 : Cond.methodLink "WallFractionsLaw" 97 ⟨"WallFractionsModel", "more", "(II)V"⟩ ∈ TT := TT_4 112 (by decide +kernel) rfl
theorem w_833 : Cond.instanceMethod ⟨"WallFractionsModel", "more", "(II)V"⟩ ∈ TT := TT_4 113 (by decide +kernel) rfl
theorem w_834 : Cond.selects "WallFractionsModel" ⟨"WallFractionsModel", "more", "(II)V"⟩ ⟨"WallFractionsModel", "more", "(II)V"⟩ ∈ TT := TT_4 114 (by decide +kernel) rfl
theorem w_835 : Cond.code ⟨"WallFractionsModel", "more", "(II)V"⟩ prog_9_method_25_code 3 (Option.none : Option ClassFile.FieldType) ∈ TT := TT_4 115 rfl rfl
theorem w_836 : Cond.constantLong "WallFractionsModel" 81 999999999 ∈ TT := TT_4 116 (by decide +kernel) rfl
theorem w_837 : Cond.methodLink "WallFractionsModel" 83 ⟨"WallFractionsModel", "in", "(JJJ)Z"⟩ ∈ TT := TT_4 117 (by decide +kernel) rfl
theorem w_838 : Cond.static ⟨"WallFractionsModel", "in", "(JJJ)Z"⟩ ∈ TT := TT_4 118 (by decide +kernel) rfl
theorem w_839 : Cond.code ⟨"WallFractionsModel", "in", "(JJJ)Z"⟩ prog_9_method_3_code 6 (Option.some ClassFile.FieldType.boolean) ∈ TT := TT_4 119 rfl rfl
theorem w_840 : Cond.methodLink "WallFractionsModel" 87 ⟨"WallFractionsModel", "isWhole", "(I)Z"⟩ ∈ TT := TT_4 120 (by decide +kernel) rfl
theorem w_842 : Cond.instanceMethod ⟨"WallFractionsModel", "isWhole", "(I)Z"⟩ ∈ TT := TT_4 122 (by decide +kernel) rfl
theorem w_843 : Cond.code ⟨"WallFractionsModel", "isWhole", "(I)Z"⟩ prog_9_method_24_code 2 (Option.some ClassFile.FieldType.boolean) ∈ TT := TT_4 123 rfl rfl
theorem w_844 : Cond.constantLong "WallFractionsModel" 90 1000000000 ∈ TT := TT_4 124 (by decide +kernel) rfl
theorem w_845 : Cond.methodLink "WallFractionsModel" 46 ⟨"WallFractionsModel", "times", "(IJJ)V"⟩ ∈ TT := TT_4 125 (by decide +kernel) rfl
theorem w_847 : Cond.instanceMethod ⟨"WallFractionsModel", "times", "(IJJ)V"⟩ ∈ TT := TT_4 127 (by decide +kernel) rfl
theorem w_848 : Cond.code ⟨"WallFractionsModel", "times", "(IJJ)V"⟩ prog_9_method_14_code 12 (Option.none : Option ClassFile.FieldType) ∈ TT := TT_4 128 rfl rfl
theorem w_849 : Cond.methodLink "WallFractionsLaw" 101 ⟨"WallFractionsModel", "add", "(III)V"⟩ ∈ TT := TT_4 129 (by decide +kernel) rfl
theorem w_850 : Cond.instanceMethod ⟨"WallFractionsModel", "add", "(III)V"⟩ ∈ TT := TT_4 130 (by decide +kernel) rfl
theorem w_851 : Cond.selects "WallFractionsModel" ⟨"WallFractionsModel", "add", "(III)V"⟩ ⟨"WallFractionsModel", "add", "(III)V"⟩ ∈ TT := TT_4 131 (by decide +kernel) rfl
theorem w_852 : Cond.code ⟨"WallFractionsModel", "add", "(III)V"⟩ prog_9_method_28_code 4 (Option.none : Option ClassFile.FieldType) ∈ TT := TT_4 132 rfl rfl
theorem w_853 : Cond.methodLink "WallFractionsModel" 104 ⟨"WallFractionsModel", "areThere", "(III)Z"⟩ ∈ TT := TT_4 133 (by decide +kernel) rfl
theorem w_854 : Cond.static ⟨"WallFractionsModel", "areThere", "(III)Z"⟩ ∈ TT := TT_4 134 (by decide +kernel) rfl
theorem w_855 : Cond.code ⟨"WallFractionsModel", "areThere", "(III)Z"⟩ prog_9_method_27_code 3 (Option.some ClassFile.FieldType.boolean) ∈ TT := TT_4 135 rfl rfl
theorem w_856 : Cond.methodLink "WallFractionsModel" 107 ⟨"WallFractionsModel", "sum", "(IIII)V"⟩ ∈ TT := TT_4 136 (by decide +kernel) rfl
theorem w_858 : Cond.instanceMethod ⟨"WallFractionsModel", "sum", "(IIII)V"⟩ ∈ TT := TT_4 138 (by decide +kernel) rfl
theorem w_859 : Cond.code ⟨"WallFractionsModel", "sum", "(IIII)V"⟩ prog_9_method_26_code 6 (Option.none : Option ClassFile.FieldType) ∈ TT := TT_4 139 rfl rfl
theorem w_860 : Cond.methodLink "WallFractionsModel" 92 ⟨"WallFractionsModel", "product", "(III)V"⟩ ∈ TT := TT_4 140 (by decide +kernel) rfl
theorem w_862 : Cond.instanceMethod ⟨"WallFractionsModel", "product", "(III)V"⟩ ∈ TT := TT_4 142 (by decide +kernel) rfl
theorem w_863 : Cond.code ⟨"WallFractionsModel", "product", "(III)V"⟩ prog_9_method_13_code 9 (Option.none : Option ClassFile.FieldType) ∈ TT := TT_4 143 rfl rfl
theorem w_864 : Cond.methodLink "WallFractionsModel" 95 ⟨"WallFractionsModel", "plus", "(III)V"⟩ ∈ TT := TT_4 144 (by decide +kernel) rfl
theorem w_866 : Cond.instanceMethod ⟨"WallFractionsModel", "plus", "(III)V"⟩ ∈ TT := TT_4 146 (by decide +kernel) rfl
theorem w_867 : Cond.code ⟨"WallFractionsModel", "plus", "(III)V"⟩ prog_9_method_11_code 8 (Option.none : Option ClassFile.FieldType) ∈ TT := TT_4 147 rfl rfl
theorem w_868 : Cond.methodLink "WallFractionsModel" 98 ⟨"WallFractionsModel", "order", "(II)I"⟩ ∈ TT := TT_4 148 (by decide +kernel) rfl
theorem w_870 : Cond.instanceMethod ⟨"WallFractionsModel", "order", "(II)I"⟩ ∈ TT := TT_4 150 (by decide +kernel) rfl
theorem w_871 : Cond.code ⟨"WallFractionsModel", "order", "(II)I"⟩ prog_9_method_10_code 5 (Option.some ClassFile.FieldType.int) ∈ TT := TT_4 151 rfl rfl
theorem w_872 : Cond.methodLink "WallFractionsModel" 101 ⟨"WallFractionsModel", "less", "(III)V"⟩ ∈ TT := TT_4 152 (by decide +kernel) rfl
theorem w_874 : Cond.instanceMethod ⟨"WallFractionsModel", "less", "(III)V"⟩ ∈ TT := TT_4 154 (by decide +kernel) rfl
theorem w_875 : Cond.code ⟨"WallFractionsModel", "less", "(III)V"⟩ prog_9_method_12_code 8 (Option.none : Option ClassFile.FieldType) ∈ TT := TT_4 155 rfl rfl
theorem w_876 : Cond.methodLink "WallFractionsLaw" 104 ⟨"WallFractionsModel", "subtract", "(III)V"⟩ ∈ TT := TT_4 156 (by decide +kernel) rfl
theorem w_877 : Cond.instanceMethod ⟨"WallFractionsModel", "subtract", "(III)V"⟩ ∈ TT := TT_4 157 (by decide +kernel) rfl
theorem w_878 : Cond.selects "WallFractionsModel" ⟨"WallFractionsModel", "subtract", "(III)V"⟩ ⟨"WallFractionsModel", "subtract", "(III)V"⟩ ∈ TT := TT_4 158 (by decide +kernel) rfl
theorem w_879 : Cond.code ⟨"WallFractionsModel", "subtract", "(III)V"⟩ prog_9_method_29_code 4 (Option.none : Option ClassFile.FieldType) ∈ TT := TT_4 159 rfl rfl
theorem w_880 : Cond.methodLink "WallFractionsLaw" 107 ⟨"WallFractionsModel", "multiply", "(III)V"⟩ ∈ TT := TT_4 160 (by decide +kernel) rfl
theorem w_881 : Cond.instanceMethod ⟨"WallFractionsModel", "multiply", "(III)V"⟩ ∈ TT := TT_4 161 (by decide +kernel) rfl
theorem w_882 : Cond.selects "WallFractionsModel" ⟨"WallFractionsModel", "multiply", "(III)V"⟩ ⟨"WallFractionsModel", "multiply", "(III)V"⟩ ∈ TT := TT_4 162 (by decide +kernel) rfl
theorem w_883 : Cond.code ⟨"WallFractionsModel", "multiply", "(III)V"⟩ prog_9_method_30_code 4 (Option.none : Option ClassFile.FieldType) ∈ TT := TT_4 163 rfl rfl
theorem w_884 : Cond.methodLink "WallFractionsLaw" 110 ⟨"WallFractionsModel", "divide", "(III)V"⟩ ∈ TT := TT_4 164 (by decide +kernel) rfl
theorem w_885 : Cond.instanceMethod ⟨"WallFractionsModel", "divide", "(III)V"⟩ ∈ TT := TT_4 165 (by decide +kernel) rfl
theorem w_886 : Cond.selects "WallFractionsModel" ⟨"WallFractionsModel", "divide", "(III)V"⟩ ⟨"WallFractionsModel", "divide", "(III)V"⟩ ∈ TT := TT_4 166 (by decide +kernel) rfl
theorem w_887 : Cond.code ⟨"WallFractionsModel", "divide", "(III)V"⟩ prog_9_method_31_code 4 (Option.none : Option ClassFile.FieldType) ∈ TT := TT_4 167 rfl rfl
theorem w_888 : Cond.methodLink "WallFractionsLaw" 113 ⟨"WallFractionsModel", "power", "(III)V"⟩ ∈ TT := TT_4 168 (by decide +kernel) rfl
theorem w_889 : Cond.instanceMethod ⟨"WallFractionsModel", "power", "(III)V"⟩ ∈ TT := TT_4 169 (by decide +kernel) rfl
theorem w_890 : Cond.selects "WallFractionsModel" ⟨"WallFractionsModel", "power", "(III)V"⟩ ⟨"WallFractionsModel", "power", "(III)V"⟩ ∈ TT := TT_4 170 (by decide +kernel) rfl
theorem w_891 : Cond.code ⟨"WallFractionsModel", "power", "(III)V"⟩ prog_9_method_32_code 5 (Option.none : Option ClassFile.FieldType) ∈ TT := TT_4 171 rfl rfl
theorem w_892 : Cond.constantLong "WallFractionsModel" 110 200 ∈ TT := TT_4 172 (by decide +kernel) rfl
theorem w_893 : Cond.methodLink "WallFractionsLaw" 116 ⟨"WallFractionsModel", "binomial", "(III)V"⟩ ∈ TT := TT_4 173 (by decide +kernel) rfl
theorem w_894 : Cond.instanceMethod ⟨"WallFractionsModel", "binomial", "(III)V"⟩ ∈ TT := TT_4 174 (by decide +kernel) rfl
theorem w_895 : Cond.selects "WallFractionsModel" ⟨"WallFractionsModel", "binomial", "(III)V"⟩ ⟨"WallFractionsModel", "binomial", "(III)V"⟩ ∈ TT := TT_4 175 (by decide +kernel) rfl
theorem w_896 : Cond.code ⟨"WallFractionsModel", "binomial", "(III)V"⟩ prog_9_method_33_code 8 (Option.none : Option ClassFile.FieldType) ∈ TT := TT_4 176 rfl rfl
theorem w_897 : Cond.constantLong "WallFractionsModel" 112 500 ∈ TT := TT_4 177 (by decide +kernel) rfl
theorem w_898 : Cond.methodLink "WallFractionsModel" 114 ⟨"WallFractionsModel", "by", "(IJ)J"⟩ ∈ TT := TT_4 178 (by decide +kernel) rfl
theorem w_900 : Cond.instanceMethod ⟨"WallFractionsModel", "by", "(IJ)J"⟩ ∈ TT := TT_4 180 (by decide +kernel) rfl
theorem w_901 : Cond.code ⟨"WallFractionsModel", "by", "(IJ)J"⟩ prog_9_method_16_code 9 (Option.some ClassFile.FieldType.long) ∈ TT := TT_4 181 rfl rfl
theorem w_902 : Cond.methodLink "WallFractionsLaw" 120 ⟨"WallFractionsModel", "round", "(IIII)V"⟩ ∈ TT := TT_4 182 (by decide +kernel) rfl
theorem w_903 : Cond.instanceMethod ⟨"WallFractionsModel", "round", "(IIII)V"⟩ ∈ TT := TT_4 183 (by decide +kernel) rfl
theorem w_904 : Cond.selects "WallFractionsModel" ⟨"WallFractionsModel", "round", "(IIII)V"⟩ ⟨"WallFractionsModel", "round", "(IIII)V"⟩ ∈ TT := TT_4 184 (by decide +kernel) rfl
theorem w_905 : Cond.code ⟨"WallFractionsModel", "round", "(IIII)V"⟩ prog_9_method_36_code 6 (Option.none : Option ClassFile.FieldType) ∈ TT := TT_4 185 rfl rfl
theorem w_906 : Cond.constantLong "WallFractionsModel" 121 40 ∈ TT := TT_4 186 (by decide +kernel) rfl
theorem w_907 : Cond.constantLong "WallFractionsModel" 123 2 ∈ TT := TT_4 187 (by decide +kernel) rfl
theorem w_908 : Cond.methodLink "WallFractionsModel" 118 ⟨"WallFractionsModel", "tens", "(II)V"⟩ ∈ TT := TT_4 188 (by decide +kernel) rfl
theorem w_910 : Cond.instanceMethod ⟨"WallFractionsModel", "tens", "(II)V"⟩ ∈ TT := TT_4 190 (by decide +kernel) rfl
theorem w_911 : Cond.code ⟨"WallFractionsModel", "tens", "(II)V"⟩ prog_9_method_15_code 4 (Option.none : Option ClassFile.FieldType) ∈ TT := TT_4 191 rfl rfl
theorem w_912 : Cond.constantLong "WallFractionsModel" 44 10 ∈ TT := TT_4 192 (by decide +kernel) rfl
theorem w_913 : Cond.methodLink "WallFractionsModel" 125 ⟨"WallFractionsModel", "floor", "(IZ)V"⟩ ∈ TT := TT_4 193 (by decide +kernel) rfl
theorem w_915 : Cond.instanceMethod ⟨"WallFractionsModel", "floor", "(IZ)V"⟩ ∈ TT := TT_4 195 (by decide +kernel) rfl
theorem w_916 : Cond.code ⟨"WallFractionsModel", "floor", "(IZ)V"⟩ prog_9_method_34_code 4 (Option.none : Option ClassFile.FieldType) ∈ TT := TT_4 196 rfl rfl
theorem w_917 : Cond.methodLink "WallFractionsModel" 129 ⟨"WallFractionsModel", "units", "(III)Z"⟩ ∈ TT := TT_4 197 (by decide +kernel) rfl
theorem w_919 : Cond.instanceMethod ⟨"WallFractionsModel", "units", "(III)Z"⟩ ∈ TT := TT_4 199 (by decide +kernel) rfl
theorem w_920 : Cond.code ⟨"WallFractionsModel", "units", "(III)Z"⟩ prog_9_method_35_code 4 (Option.some ClassFile.FieldType.boolean) ∈ TT := TT_4 200 rfl rfl
theorem w_921 : Cond.methodLink "WallFractionsLaw" 123 ⟨"WallFractionsModel", "root", "(III)V"⟩ ∈ TT := TT_4 201 (by decide +kernel) rfl
theorem w_922 : Cond.instanceMethod ⟨"WallFractionsModel", "root", "(III)V"⟩ ∈ TT := TT_4 202 (by decide +kernel) rfl
theorem w_923 : Cond.selects "WallFractionsModel" ⟨"WallFractionsModel", "root", "(III)V"⟩ ⟨"WallFractionsModel", "root", "(III)V"⟩ ∈ TT := TT_4 203 (by decide +kernel) rfl
theorem w_924 : Cond.code ⟨"WallFractionsModel", "root", "(III)V"⟩ prog_9_method_38_code 4 (Option.none : Option ClassFile.FieldType) ∈ TT := TT_4 204 rfl rfl
theorem w_925 : Cond.methodLink "WallFractionsModel" 136 ⟨"WallFractionsModel", "takeRoot", "()V"⟩ ∈ TT := TT_4 205 (by decide +kernel) rfl
theorem w_927 : Cond.instanceMethod ⟨"WallFractionsModel", "takeRoot", "()V"⟩ ∈ TT := TT_4 207 (by decide +kernel) rfl
theorem w_928 : Cond.code ⟨"WallFractionsModel", "takeRoot", "()V"⟩ prog_9_method_37_code 5 (Option.none : Option ClassFile.FieldType) ∈ TT := TT_4 208 rfl rfl
theorem w_929 : Cond.methodLink "WallFractionsModel" 132 ⟨"WallFractionsModel", "digitsIn", "(I)I"⟩ ∈ TT := TT_4 209 (by decide +kernel) rfl
theorem w_931 : Cond.instanceMethod ⟨"WallFractionsModel", "digitsIn", "(I)I"⟩ ∈ TT := TT_4 211 (by decide +kernel) rfl
theorem w_932 : Cond.code ⟨"WallFractionsModel", "digitsIn", "(I)I"⟩ prog_9_method_21_code 4 (Option.some ClassFile.FieldType.int) ∈ TT := TT_4 212 rfl rfl
theorem w_933 : Cond.methodLink "WallFractionsLaw" 127 ⟨"WallFractionsModel", "compare", "(II)I"⟩ ∈ TT := TT_4 213 (by decide +kernel) rfl
theorem w_934 : Cond.instanceMethod ⟨"WallFractionsModel", "compare", "(II)I"⟩ ∈ TT := TT_4 214 (by decide +kernel) rfl
theorem w_935 : Cond.selects "WallFractionsModel" ⟨"WallFractionsModel", "compare", "(II)I"⟩ ⟨"WallFractionsModel", "compare", "(II)I"⟩ ∈ TT := TT_4 215 (by decide +kernel) rfl
theorem w_936 : Cond.code ⟨"WallFractionsModel", "compare", "(II)I"⟩ prog_9_method_39_code 3 (Option.some ClassFile.FieldType.int) ∈ TT := TT_4 216 rfl rfl
theorem w_937 : Cond.methodLink "WallFractionsLaw" 131 ⟨"WallFractionsModel", "sign", "(I)I"⟩ ∈ TT := TT_4 217 (by decide +kernel) rfl
theorem w_938 : Cond.instanceMethod ⟨"WallFractionsModel", "sign", "(I)I"⟩ ∈ TT := TT_4 218 (by decide +kernel) rfl
theorem w_939 : Cond.selects "WallFractionsModel" ⟨"WallFractionsModel", "sign", "(I)I"⟩ ⟨"WallFractionsModel", "sign", "(I)I"⟩ ∈ TT := TT_4 219 (by decide +kernel) rfl
theorem w_940 : Cond.code ⟨"WallFractionsModel", "sign", "(I)I"⟩ prog_9_method_40_code 2 (Option.some ClassFile.FieldType.int) ∈ TT := TT_4 220 rfl rfl
theorem w_941 : Cond.methodLink "WallFractionsLaw" 134 ⟨"WallFractionsModel", "digits", "(II)I"⟩ ∈ TT := TT_4 221 (by decide +kernel) rfl
theorem w_942 : Cond.instanceMethod ⟨"WallFractionsModel", "digits", "(II)I"⟩ ∈ TT := TT_4 222 (by decide +kernel) rfl
theorem w_943 : Cond.selects "WallFractionsModel" ⟨"WallFractionsModel", "digits", "(II)I"⟩ ⟨"WallFractionsModel", "digits", "(II)I"⟩ ∈ TT := TT_4 223 (by decide +kernel) rfl
theorem w_944 : Cond.code ⟨"WallFractionsModel", "digits", "(II)I"⟩ prog_9_method_41_code 3 (Option.some ClassFile.FieldType.int) ∈ TT := TT_4 224 rfl rfl
theorem w_945 : Cond.methodLink "WallFractionsLaw" 138 ⟨"WallFractionsModel", "digit", "(III)I"⟩ ∈ TT := TT_4 225 (by decide +kernel) rfl
theorem w_946 : Cond.instanceMethod ⟨"WallFractionsModel", "digit", "(III)I"⟩ ∈ TT := TT_4 226 (by decide +kernel) rfl
theorem w_947 : Cond.selects "WallFractionsModel" ⟨"WallFractionsModel", "digit", "(III)I"⟩ ⟨"WallFractionsModel", "digit", "(III)I"⟩ ∈ TT := TT_4 227 (by decide +kernel) rfl
theorem w_948 : Cond.code ⟨"WallFractionsModel", "digit", "(III)I"⟩ prog_9_method_42_code 6 (Option.some ClassFile.FieldType.int) ∈ TT := TT_4 228 rfl rfl
theorem w_949 : Cond.methodLink "WallFractionsLaw" 141 ⟨"WallFractionsModel", "behind", "(II)I"⟩ ∈ TT := TT_4 229 (by decide +kernel) rfl
theorem w_950 : Cond.instanceMethod ⟨"WallFractionsModel", "behind", "(II)I"⟩ ∈ TT := TT_4 230 (by decide +kernel) rfl
theorem w_951 : Cond.selects "WallFractionsModel" ⟨"WallFractionsModel", "behind", "(II)I"⟩ ⟨"WallFractionsModel", "behind", "(II)I"⟩ ∈ TT := TT_4 231 (by decide +kernel) rfl
theorem w_952 : Cond.code ⟨"WallFractionsModel", "behind", "(II)I"⟩ prog_9_method_43_code 4 (Option.some ClassFile.FieldType.int) ∈ TT := TT_4 232 rfl rfl
theorem w_953 : Cond.constantLong "WallFractionsModel" 139 300 ∈ TT := TT_4 233 (by decide +kernel) rfl
theorem w_954 : Cond.methodLink "WallFractionsLaw" 144 ⟨"WallFractionsModel", "modulo", "(III)I"⟩ ∈ TT := TT_4 234 (by decide +kernel) rfl
theorem w_955 : Cond.instanceMethod ⟨"WallFractionsModel", "modulo", "(III)I"⟩ ∈ TT := TT_4 235 (by decide +kernel) rfl
theorem w_956 : Cond.selects "WallFractionsModel" ⟨"WallFractionsModel", "modulo", "(III)I"⟩ ⟨"WallFractionsModel", "modulo", "(III)I"⟩ ∈ TT := TT_4 236 (by decide +kernel) rfl
theorem w_957 : Cond.code ⟨"WallFractionsModel", "modulo", "(III)I"⟩ prog_9_method_44_code 4 (Option.some ClassFile.FieldType.int) ∈ TT := TT_4 237 rfl rfl
theorem w_958 : Cond.methodLink "WallFractionsLaw" 147 ⟨"WallFractionsModel", "weight", "(II)I"⟩ ∈ TT := TT_4 238 (by decide +kernel) rfl
theorem w_959 : Cond.instanceMethod ⟨"WallFractionsModel", "weight", "(II)I"⟩ ∈ TT := TT_4 239 (by decide +kernel) rfl
theorem w_960 : Cond.selects "WallFractionsModel" ⟨"WallFractionsModel", "weight", "(II)I"⟩ ⟨"WallFractionsModel", "weight", "(II)I"⟩ ∈ TT := TT_5 0 (by decide +kernel) rfl
theorem w_961 : Cond.code ⟨"WallFractionsModel", "weight", "(II)I"⟩ prog_9_method_45_code 4 (Option.some ClassFile.FieldType.int) ∈ TT := TT_5 1 rfl rfl
theorem w_962 : Cond.constantLong "WallFractionsModel" 141 9 ∈ TT := TT_5 2 (by decide +kernel) rfl
theorem w_963 : Cond.methodLink "WallFractionsLaw" 150 ⟨"WallFractionsModel", "share", "(III)V"⟩ ∈ TT := TT_5 3 (by decide +kernel) rfl
theorem w_964 : Cond.instanceMethod ⟨"WallFractionsModel", "share", "(III)V"⟩ ∈ TT := TT_5 4 (by decide +kernel) rfl
theorem w_965 : Cond.selects "WallFractionsModel" ⟨"WallFractionsModel", "share", "(III)V"⟩ ⟨"WallFractionsModel", "share", "(III)V"⟩ ∈ TT := TT_5 5 (by decide +kernel) rfl
theorem w_966 : Cond.code ⟨"WallFractionsModel", "share", "(III)V"⟩ prog_9_method_46_code 9 (Option.none : Option ClassFile.FieldType) ∈ TT := TT_5 6 rfl rfl
theorem w_967 : Cond.constantLong "WallFractionsLaw" 82 4294967295 ∈ TT := TT_5 7 (by decide +kernel) rfl
theorem w_968 : Cond.sameMethod "java/lang/Throwable" "java/lang/Throwable" "fillInStackTrace" "(I)Ljava/lang/Throwable;" ∈ TT := TT_5 8 (by decide +kernel) rfl
end
section
def R_Dv : String := "WallFractions$Divider"
def F_Dv : u_T := fun k => match k with
  | 0 => ("WallFractions$Divider", "left", "[J", true)
  | _ => ("WallFractions$Divider", "by", "[J", true)
def t_Dv : Nat → FieldType := fun k => match k with
  | 0 => .array .long
  | _ => .array .long
theorem n_Dv : ∀ a, a < 2 → ∀ b, b < 2 → a ≠ b → (F_Dv a).2.1 ≠ (F_Dv b).2.1 := by decide +kernel
theorem t_Dv_ok : ∀ k, k < 2 → parseFieldDescriptor (F_Dv k).2.2.1 = some (t_Dv k) := by decide +kernel
theorem i_Dv : ∀ w ∈ u_ws R_Dv F_Dv 2, w ∈ TT := by
  intro w h
  obtain ⟨k, hk, rfl⟩ := List.mem_map.mp h
  have h9 := List.mem_range.mp hk
  match k, h9 with
  | 0, _ => exact w_81
  | 1, _ => exact w_83
  | n + 2, h => exact absurd h (by omega)
def R_Fr : String := "WallFractions$Fraction"
def F_Fr : u_T := fun k => match k with
  | 0 => ("WallFractions$Fraction", "above", "LWallFractions$Whole;", true)
  | 1 => ("WallFractions$Fraction", "below", "LWallFractions$Whole;", true)
  | _ => ("WallFractions$Fraction", "negative", "Z", false)
def t_Fr : Nat → FieldType := fun k => match k with
  | 0 => .object "WallFractions$Whole"
  | 1 => .object "WallFractions$Whole"
  | _ => .boolean
theorem n_Fr : ∀ a, a < 3 → ∀ b, b < 3 → a ≠ b → (F_Fr a).2.1 ≠ (F_Fr b).2.1 := by decide +kernel
theorem t_Fr_ok : ∀ k, k < 3 → parseFieldDescriptor (F_Fr k).2.2.1 = some (t_Fr k) := by decide +kernel
theorem i_Fr : ∀ w ∈ u_ws R_Fr F_Fr 3, w ∈ TT := by
  intro w h
  obtain ⟨k, hk, rfl⟩ := List.mem_map.mp h
  have h9 := List.mem_range.mp hk
  match k, h9 with
  | 0, _ => exact w_66
  | 1, _ => exact w_68
  | 2, _ => exact w_70
  | n + 3, h => exact absurd h (by omega)
def R_Ms : String := "WallFractions$Measure"
def F_Ms : u_T := fun k => match k with
  | 0 => ("WallFractions$Measure", "divider", "LWallFractions$Divider;", true)
  | 1 => ("WallFractions$Measure", "quotient", "LWallFractions$Whole;", true)
  | 2 => ("WallFractions$Measure", "greater", "LWallFractions$Whole;", false)
  | 3 => ("WallFractions$Measure", "lesser", "LWallFractions$Whole;", false)
  | 4 => ("WallFractions$Measure", "rest", "LWallFractions$Whole;", false)
  | 5 => ("WallFractions$Measure", "a", "J", false)
  | 6 => ("WallFractions$Measure", "b", "J", false)
  | 7 => ("WallFractions$Measure", "c", "J", false)
  | _ => ("WallFractions$Measure", "d", "J", false)
def t_Ms : Nat → FieldType := fun k => match k with
  | 0 => .object "WallFractions$Divider"
  | 1 => .object "WallFractions$Whole"
  | 2 => .object "WallFractions$Whole"
  | 3 => .object "WallFractions$Whole"
  | 4 => .object "WallFractions$Whole"
  | 5 => .long
  | 6 => .long
  | 7 => .long
  | _ => .long
theorem n_Ms : ∀ a, a < 9 → ∀ b, b < 9 → a ≠ b → (F_Ms a).2.1 ≠ (F_Ms b).2.1 := by decide +kernel
theorem t_Ms_ok : ∀ k, k < 9 → parseFieldDescriptor (F_Ms k).2.2.1 = some (t_Ms k) := by decide +kernel
theorem i_Ms : ∀ w ∈ u_ws R_Ms F_Ms 9, w ∈ TT := by
  intro w h
  obtain ⟨k, hk, rfl⟩ := List.mem_map.mp h
  have h9 := List.mem_range.mp hk
  match k, h9 with
  | 0, _ => exact w_109
  | 1, _ => exact w_111
  | 2, _ => exact w_113
  | 3, _ => exact w_115
  | 4, _ => exact w_117
  | 5, _ => exact w_119
  | 6, _ => exact w_121
  | 7, _ => exact w_123
  | 8, _ => exact w_125
  | n + 9, h => exact absurd h (by omega)
def R_Rk : String := "WallFractions$Reckoner"
def F_Rk : u_T := fun k => match k with
  | 0 => ("WallFractions$Reckoner", "divider", "LWallFractions$Divider;", true)
  | 1 => ("WallFractions$Reckoner", "measure", "LWallFractions$Measure;", true)
  | 2 => ("WallFractions$Reckoner", "out", "LWallFractions$Fraction;", true)
  | 3 => ("WallFractions$Reckoner", "left", "LWallFractions$Whole;", true)
  | 4 => ("WallFractions$Reckoner", "right", "LWallFractions$Whole;", true)
  | 5 => ("WallFractions$Reckoner", "quotient", "LWallFractions$Whole;", true)
  | _ => ("WallFractions$Reckoner", "rest", "LWallFractions$Whole;", true)
def t_Rk : Nat → FieldType := fun k => match k with
  | 0 => .object "WallFractions$Divider"
  | 1 => .object "WallFractions$Measure"
  | 2 => .object "WallFractions$Fraction"
  | 3 => .object "WallFractions$Whole"
  | 4 => .object "WallFractions$Whole"
  | 5 => .object "WallFractions$Whole"
  | _ => .object "WallFractions$Whole"
theorem n_Rk : ∀ a, a < 7 → ∀ b, b < 7 → a ≠ b → (F_Rk a).2.1 ≠ (F_Rk b).2.1 := by decide +kernel
theorem t_Rk_ok : ∀ k, k < 7 → parseFieldDescriptor (F_Rk k).2.2.1 = some (t_Rk k) := by decide +kernel
theorem i_Rk : ∀ w ∈ u_ws R_Rk F_Rk 7, w ∈ TT := by
  intro w h
  obtain ⟨k, hk, rfl⟩ := List.mem_map.mp h
  have h9 := List.mem_range.mp hk
  match k, h9 with
  | 0, _ => exact w_140
  | 1, _ => exact w_142
  | 2, _ => exact w_144
  | 3, _ => exact w_146
  | 4, _ => exact w_148
  | 5, _ => exact w_150
  | 6, _ => exact w_152
  | n + 7, h => exact absurd h (by omega)
def R_Sh : String := "WallFractions$Sharing"
def F_Sh : u_T := fun k => match k with
  | 0 => ("WallFractions$Sharing", "divider", "LWallFractions$Divider;", true)
  | 1 => ("WallFractions$Sharing", "weights", "[I", true)
  | 2 => ("WallFractions$Sharing", "rests", "[J", true)
  | 3 => ("WallFractions$Sharing", "sum", "LWallFractions$Whole;", true)
  | 4 => ("WallFractions$Sharing", "product", "LWallFractions$Whole;", true)
  | 5 => ("WallFractions$Sharing", "rest", "LWallFractions$Whole;", true)
  | _ => ("WallFractions$Sharing", "part", "LWallFractions$Whole;", true)
def t_Sh : Nat → FieldType := fun k => match k with
  | 0 => .object "WallFractions$Divider"
  | 1 => .array .int
  | 2 => .array .long
  | 3 => .object "WallFractions$Whole"
  | 4 => .object "WallFractions$Whole"
  | 5 => .object "WallFractions$Whole"
  | _ => .object "WallFractions$Whole"
theorem n_Sh : ∀ a, a < 7 → ∀ b, b < 7 → a ≠ b → (F_Sh a).2.1 ≠ (F_Sh b).2.1 := by decide +kernel
theorem t_Sh_ok : ∀ k, k < 7 → parseFieldDescriptor (F_Sh k).2.2.1 = some (t_Sh k) := by decide +kernel
theorem i_Sh : ∀ w ∈ u_ws R_Sh F_Sh 7, w ∈ TT := by
  intro w h
  obtain ⟨k, hk, rfl⟩ := List.mem_map.mp h
  have h9 := List.mem_range.mp hk
  match k, h9 with
  | 0, _ => exact w_170
  | 1, _ => exact w_172
  | 2, _ => exact w_174
  | 3, _ => exact w_176
  | 4, _ => exact w_178
  | 5, _ => exact w_180
  | 6, _ => exact w_182
  | n + 7, h => exact absurd h (by omega)
def R_Wh : String := "WallFractions$Whole"
def F_Wh : u_T := fun k => match k with
  | 0 => ("WallFractions$Whole", "limbs", "[J", true)
  | _ => ("WallFractions$Whole", "size", "I", false)
def t_Wh : Nat → FieldType := fun k => match k with
  | 0 => .array .long
  | _ => .int
theorem n_Wh : ∀ a, a < 2 → ∀ b, b < 2 → a ≠ b → (F_Wh a).2.1 ≠ (F_Wh b).2.1 := by decide +kernel
theorem t_Wh_ok : ∀ k, k < 2 → parseFieldDescriptor (F_Wh k).2.2.1 = some (t_Wh k) := by decide +kernel
theorem i_Wh : ∀ w ∈ u_ws R_Wh F_Wh 2, w ∈ TT := by
  intro w h
  obtain ⟨k, hk, rfl⟩ := List.mem_map.mp h
  have h9 := List.mem_range.mp hk
  match k, h9 with
  | 0, _ => exact w_46
  | 1, _ => exact w_48
  | n + 2, h => exact absurd h (by omega)
def R_Wf : String := "WallFractions"
def F_Wf : u_T := fun k => match k with
  | 0 => ("WallFractions", "registers", "[LWallFractions$Fraction;", true)
  | 1 => ("WallFractions", "reckoner", "LWallFractions$Reckoner;", true)
  | _ => ("WallFractions", "sharing", "LWallFractions$Sharing;", true)
def t_Wf : Nat → FieldType := fun k => match k with
  | 0 => .array (.object "WallFractions$Fraction")
  | 1 => .object "WallFractions$Reckoner"
  | _ => .object "WallFractions$Sharing"
theorem n_Wf : ∀ a, a < 3 → ∀ b, b < 3 → a ≠ b → (F_Wf a).2.1 ≠ (F_Wf b).2.1 := by decide +kernel
theorem t_Wf_ok : ∀ k, k < 3 → parseFieldDescriptor (F_Wf k).2.2.1 = some (t_Wf k) := by decide +kernel
theorem i_Wf : ∀ w ∈ u_ws R_Wf F_Wf 3, w ∈ TT := by
  intro w h
  obtain ⟨k, hk, rfl⟩ := List.mem_map.mp h
  have h9 := List.mem_range.mp hk
  match k, h9 with
  | 0, _ => exact w_189
  | 1, _ => exact w_191
  | 2, _ => exact w_193
  | n + 3, h => exact absurd h (by omega)
def R_Mo : String := "WallFractionsModel"
def F_Mo : u_T := fun k => match k with
  | 0 => ("WallFractionsModel", "thrown", "I", false)
  | 1 => ("WallFractionsModel", "cells", "[I", true)
  | 2 => ("WallFractionsModel", "lengths", "[I", true)
  | 3 => ("WallFractionsModel", "signs", "[I", true)
  | 4 => ("WallFractionsModel", "weights", "[I", true)
  | _ => ("WallFractionsModel", "rests", "[J", true)
def t_Mo : Nat → FieldType := fun k => match k with
  | 0 => .int
  | 1 => .array .int
  | 2 => .array .int
  | 3 => .array .int
  | 4 => .array .int
  | _ => .array .long
theorem n_Mo : ∀ a, a < 6 → ∀ b, b < 6 → a ≠ b → (F_Mo a).2.1 ≠ (F_Mo b).2.1 := by decide +kernel
theorem t_Mo_ok : ∀ k, k < 6 → parseFieldDescriptor (F_Mo k).2.2.1 = some (t_Mo k) := by decide +kernel
theorem i_Mo : ∀ w ∈ u_ws R_Mo F_Mo 6, w ∈ TT := by
  intro w h
  obtain ⟨k, hk, rfl⟩ := List.mem_map.mp h
  have h9 := List.mem_range.mp hk
  match k, h9 with
  | 0, _ => exact w_771
  | 1, _ => exact w_773
  | 2, _ => exact w_775
  | 3, _ => exact w_777
  | 4, _ => exact w_779
  | 5, _ => exact w_781
  | n + 6, h => exact absurd h (by omega)
/-- the kinds of objects -/
abbrev classes : List vw_C := [(R_Dv, F_Dv, 2), (R_Fr, F_Fr, 3), (R_Ms, F_Ms, 9), (R_Rk, F_Rk, 7), (R_Sh, F_Sh, 7), (R_Wh, F_Wh, 2), (R_Wf, F_Wf, 3), (R_Mo, F_Mo, 6)]
def R_La : String := "WallFractionsLaw"
def R_Mt : String := "java/lang/Math"
/-- what a call of a method leans on -/
def hw_mB (y : MethodName) (bytes : ByteArray) (maxL : Nat) (ret : Option FieldType) (n : Nat) : Prop := Cond.code y bytes maxL ret ∈ TT ∧ Cond.initialized y.cls ∈ TT ∧ y.cls ≠ "java/lang/invoke/MethodHandle" ∧ y.cls ≠ "java/lang/invoke/VarHandle" ∧ (parseMethodDescriptor y.desc).map (fun d => d.parameters.length) = some n
def hw_mV (y : MethodName) (bytes : ByteArray) (maxL : Nat) (ret : Option FieldType) (n : Nat) : Prop := hw_mB y bytes maxL ret n ∧ Cond.instanceMethod y ∈ TT ∧ Cond.selects y.cls y y ∈ TT
def hw_mS (y : MethodName) (bytes : ByteArray) (maxL : Nat) (ret : Option FieldType) (n : Nat) : Prop := hw_mB y bytes maxL ret n ∧ Cond.static y ∈ TT
def hw_mI (y : MethodName) (bytes : ByteArray) (maxL : Nat) (n : Nat) : Prop := hw_mB y bytes maxL none n ∧ y.name = "<init>" ∧ Cond.instanceMethod y ∈ TT
abbrev b_Wf_init : ByteArray := prog_1_method_1_code
def y_Wf_init : MethodName := ⟨R_Wf, "<init>", "()V"⟩
theorem m_Wf_init : hw_mI y_Wf_init b_Wf_init 2 0 := ⟨⟨w_22, w_1, by decide +kernel, by decide +kernel, by decide +kernel⟩, rfl, w_21⟩
abbrev b_Wf_set : ByteArray := prog_1_method_2_code
def y_Wf_set : MethodName := ⟨R_Wf, "set", "(IJJ)V"⟩
theorem m_Wf_set : hw_mV y_Wf_set b_Wf_set 6 none 3 := ⟨⟨w_204, w_1, by decide +kernel, by decide +kernel, by decide +kernel⟩, w_202, w_203⟩
abbrev b_Wf_more : ByteArray := prog_1_method_3_code
def y_Wf_more : MethodName := ⟨R_Wf, "more", "(II)V"⟩
theorem m_Wf_more : hw_mV y_Wf_more b_Wf_more 3 none 2 := ⟨⟨w_357, w_1, by decide +kernel, by decide +kernel, by decide +kernel⟩, w_355, w_356⟩
abbrev b_Wf_add : ByteArray := prog_1_method_4_code
def y_Wf_add : MethodName := ⟨R_Wf, "add", "(III)V"⟩
theorem m_Wf_add : hw_mV y_Wf_add b_Wf_add 4 none 3 := ⟨⟨w_395, w_1, by decide +kernel, by decide +kernel, by decide +kernel⟩, w_393, w_394⟩
abbrev b_Wf_subtract : ByteArray := prog_1_method_5_code
def y_Wf_subtract : MethodName := ⟨R_Wf, "subtract", "(III)V"⟩
theorem m_Wf_subtract : hw_mV y_Wf_subtract b_Wf_subtract 4 none 3 := ⟨⟨w_522, w_1, by decide +kernel, by decide +kernel, by decide +kernel⟩, w_520, w_521⟩
abbrev b_Wf_multiply : ByteArray := prog_1_method_6_code
def y_Wf_multiply : MethodName := ⟨R_Wf, "multiply", "(III)V"⟩
theorem m_Wf_multiply : hw_mV y_Wf_multiply b_Wf_multiply 4 none 3 := ⟨⟨w_529, w_1, by decide +kernel, by decide +kernel, by decide +kernel⟩, w_527, w_528⟩
abbrev b_Wf_divide : ByteArray := prog_1_method_7_code
def y_Wf_divide : MethodName := ⟨R_Wf, "divide", "(III)V"⟩
theorem m_Wf_divide : hw_mV y_Wf_divide b_Wf_divide 4 none 3 := ⟨⟨w_540, w_1, by decide +kernel, by decide +kernel, by decide +kernel⟩, w_538, w_539⟩
abbrev b_Wf_power : ByteArray := prog_1_method_8_code
def y_Wf_power : MethodName := ⟨R_Wf, "power", "(III)V"⟩
theorem m_Wf_power : hw_mV y_Wf_power b_Wf_power 4 none 3 := ⟨⟨w_549, w_1, by decide +kernel, by decide +kernel, by decide +kernel⟩, w_547, w_548⟩
abbrev b_Wf_binomial : ByteArray := prog_1_method_9_code
def y_Wf_binomial : MethodName := ⟨R_Wf, "binomial", "(III)V"⟩
theorem m_Wf_binomial : hw_mV y_Wf_binomial b_Wf_binomial 4 none 3 := ⟨⟨w_567, w_1, by decide +kernel, by decide +kernel, by decide +kernel⟩, w_565, w_566⟩
abbrev b_Wf_round : ByteArray := prog_1_method_10_code
def y_Wf_round : MethodName := ⟨R_Wf, "round", "(IIII)V"⟩
theorem m_Wf_round : hw_mV y_Wf_round b_Wf_round 5 none 4 := ⟨⟨w_583, w_1, by decide +kernel, by decide +kernel, by decide +kernel⟩, w_581, w_582⟩
abbrev b_Wf_root : ByteArray := prog_1_method_11_code
def y_Wf_root : MethodName := ⟨R_Wf, "root", "(III)V"⟩
theorem m_Wf_root : hw_mV y_Wf_root b_Wf_root 4 none 3 := ⟨⟨w_609, w_1, by decide +kernel, by decide +kernel, by decide +kernel⟩, w_607, w_608⟩
abbrev b_Wf_compare : ByteArray := prog_1_method_12_code
def y_Wf_compare : MethodName := ⟨R_Wf, "compare", "(II)I"⟩
theorem m_Wf_compare : hw_mV y_Wf_compare b_Wf_compare 3 (some .int) 2 := ⟨⟨w_631, w_1, by decide +kernel, by decide +kernel, by decide +kernel⟩, w_629, w_630⟩
abbrev b_Wf_sign : ByteArray := prog_1_method_13_code
def y_Wf_sign : MethodName := ⟨R_Wf, "sign", "(I)I"⟩
theorem m_Wf_sign : hw_mV y_Wf_sign b_Wf_sign 2 (some .int) 1 := ⟨⟨w_642, w_1, by decide +kernel, by decide +kernel, by decide +kernel⟩, w_640, w_641⟩
abbrev b_Wf_digits : ByteArray := prog_1_method_14_code
def y_Wf_digits : MethodName := ⟨R_Wf, "digits", "(II)I"⟩
theorem m_Wf_digits : hw_mV y_Wf_digits b_Wf_digits 3 (some .int) 2 := ⟨⟨w_654, w_1, by decide +kernel, by decide +kernel, by decide +kernel⟩, w_652, w_653⟩
abbrev b_Wf_digit : ByteArray := prog_1_method_15_code
def y_Wf_digit : MethodName := ⟨R_Wf, "digit", "(III)I"⟩
theorem m_Wf_digit : hw_mV y_Wf_digit b_Wf_digit 5 (some .int) 3 := ⟨⟨w_667, w_1, by decide +kernel, by decide +kernel, by decide +kernel⟩, w_665, w_666⟩
abbrev b_Wf_behind : ByteArray := prog_1_method_16_code
def y_Wf_behind : MethodName := ⟨R_Wf, "behind", "(II)I"⟩
theorem m_Wf_behind : hw_mV y_Wf_behind b_Wf_behind 3 (some .int) 2 := ⟨⟨w_695, w_1, by decide +kernel, by decide +kernel, by decide +kernel⟩, w_693, w_694⟩
abbrev b_Wf_modulo : ByteArray := prog_1_method_17_code
def y_Wf_modulo : MethodName := ⟨R_Wf, "modulo", "(III)I"⟩
theorem m_Wf_modulo : hw_mV y_Wf_modulo b_Wf_modulo 5 (some .int) 3 := ⟨⟨w_709, w_1, by decide +kernel, by decide +kernel, by decide +kernel⟩, w_707, w_708⟩
abbrev b_Wf_weight : ByteArray := prog_1_method_18_code
def y_Wf_weight : MethodName := ⟨R_Wf, "weight", "(II)I"⟩
theorem m_Wf_weight : hw_mV y_Wf_weight b_Wf_weight 3 (some .int) 2 := ⟨⟨w_721, w_1, by decide +kernel, by decide +kernel, by decide +kernel⟩, w_719, w_720⟩
abbrev b_Wf_share : ByteArray := prog_1_method_19_code
def y_Wf_share : MethodName := ⟨R_Wf, "share", "(III)V"⟩
theorem m_Wf_share : hw_mV y_Wf_share b_Wf_share 4 none 3 := ⟨⟨w_733, w_1, by decide +kernel, by decide +kernel, by decide +kernel⟩, w_731, w_732⟩
abbrev b_Wf_requireWithin : ByteArray := prog_1_method_20_code
def y_Wf_requireWithin : MethodName := ⟨R_Wf, "requireWithin", "(JJJ)V"⟩
theorem m_Wf_requireWithin : hw_mS y_Wf_requireWithin b_Wf_requireWithin 6 none 3 := ⟨⟨w_281, w_1, by decide +kernel, by decide +kernel, by decide +kernel⟩, w_280⟩
abbrev b_Wf_requireRegister : ByteArray := prog_1_method_21_code
def y_Wf_requireRegister : MethodName := ⟨R_Wf, "requireRegister", "(I)V"⟩
theorem m_Wf_requireRegister : hw_mS y_Wf_requireRegister b_Wf_requireRegister 1 none 1 := ⟨⟨w_207, w_1, by decide +kernel, by decide +kernel, by decide +kernel⟩, w_206⟩
abbrev b_Wf_requireRegisters : ByteArray := prog_1_method_22_code
def y_Wf_requireRegisters : MethodName := ⟨R_Wf, "requireRegisters", "(III)V"⟩
theorem m_Wf_requireRegisters : hw_mS y_Wf_requireRegisters b_Wf_requireRegisters 3 none 3 := ⟨⟨w_398, w_1, by decide +kernel, by decide +kernel, by decide +kernel⟩, w_397⟩
abbrev b_Wf_requireWhole : ByteArray := prog_1_method_23_code
def y_Wf_requireWhole : MethodName := ⟨R_Wf, "requireWhole", "(LWallFractions$Fraction;)V"⟩
theorem m_Wf_requireWhole : hw_mS y_Wf_requireWhole b_Wf_requireWhole 1 none 1 := ⟨⟨w_361, w_1, by decide +kernel, by decide +kernel, by decide +kernel⟩, w_360⟩
abbrev b_Wf_partOf : ByteArray := prog_1_method_24_code
def y_Wf_partOf : MethodName := ⟨R_Wf, "partOf", "(II)LWallFractions$Whole;"⟩
theorem m_Wf_partOf : hw_mV y_Wf_partOf b_Wf_partOf 3 (some (.object "WallFractions$Whole")) 2 := ⟨⟨w_658, w_1, by decide +kernel, by decide +kernel, by decide +kernel⟩, w_657, TT_sel (q := (⟨"WallFractions", "partOf", "(II)LWallFractions$Whole;"⟩, 3)) 16 (by decide +kernel)⟩
abbrev b_Wf_keep : ByteArray := prog_1_method_25_code
def y_Wf_keep : MethodName := ⟨R_Wf, "keep", "(I)V"⟩
theorem m_Wf_keep : hw_mV y_Wf_keep b_Wf_keep 2 none 1 := ⟨⟨w_314, w_1, by decide +kernel, by decide +kernel, by decide +kernel⟩, w_313, TT_sel (q := (⟨"WallFractions", "keep", "(I)V"⟩, 3)) 1 (by decide +kernel)⟩
abbrev b_Mo_init : ByteArray := prog_9_method_1_code
def y_Mo_init : MethodName := ⟨R_Mo, "<init>", "()V"⟩
theorem m_Mo_init : hw_mI y_Mo_init b_Mo_init 2 0 := ⟨⟨w_758, w_8, by decide +kernel, by decide +kernel, by decide +kernel⟩, rfl, w_757⟩
abbrev b_Mo_thrown : ByteArray := prog_9_method_2_code
def y_Mo_thrown : MethodName := ⟨R_Mo, "thrown", "()I"⟩
theorem m_Mo_thrown : hw_mV y_Mo_thrown b_Mo_thrown 1 (some .int) 0 := ⟨⟨w_787, w_8, by decide +kernel, by decide +kernel, by decide +kernel⟩, w_785, w_786⟩
abbrev b_Mo_in : ByteArray := prog_9_method_3_code
def y_Mo_in : MethodName := ⟨R_Mo, "in", "(JJJ)Z"⟩
theorem m_Mo_in : hw_mS y_Mo_in b_Mo_in 6 (some .boolean) 3 := ⟨⟨w_839, w_8, by decide +kernel, by decide +kernel, by decide +kernel⟩, w_838⟩
abbrev b_Mo_isRegister : ByteArray := prog_9_method_4_code
def y_Mo_isRegister : MethodName := ⟨R_Mo, "isRegister", "(I)Z"⟩
theorem m_Mo_isRegister : hw_mS y_Mo_isRegister b_Mo_isRegister 1 (some .boolean) 1 := ⟨⟨w_795, w_8, by decide +kernel, by decide +kernel, by decide +kernel⟩, w_794⟩
abbrev b_Mo_cell : ByteArray := prog_9_method_5_code
def y_Mo_cell : MethodName := ⟨R_Mo, "cell", "(II)I"⟩
theorem m_Mo_cell : hw_mV y_Mo_cell b_Mo_cell 3 (some .int) 2 := ⟨⟨w_819, w_8, by decide +kernel, by decide +kernel, by decide +kernel⟩, w_818, TT_sel (q := (⟨"WallFractionsModel", "cell", "(II)I"⟩, 6)) 24 (by decide +kernel)⟩
abbrev b_Mo_trim : ByteArray := prog_9_method_6_code
def y_Mo_trim : MethodName := ⟨R_Mo, "trim", "(II)V"⟩
theorem m_Mo_trim : hw_mV y_Mo_trim b_Mo_trim 4 none 2 := ⟨⟨w_831, w_8, by decide +kernel, by decide +kernel, by decide +kernel⟩, w_830, TT_sel (q := (⟨"WallFractionsModel", "trim", "(II)V"⟩, 6)) 27 (by decide +kernel)⟩
abbrev b_Mo_setLong : ByteArray := prog_9_method_7_code
def y_Mo_setLong : MethodName := ⟨R_Mo, "setLong", "(IJ)V"⟩
theorem m_Mo_setLong : hw_mV y_Mo_setLong b_Mo_setLong 7 none 2 := ⟨⟨w_763, w_8, by decide +kernel, by decide +kernel, by decide +kernel⟩, w_762, TT_sel (q := (⟨"WallFractionsModel", "setLong", "(IJ)V"⟩, 6)) 18 (by decide +kernel)⟩
abbrev b_Mo_copy : ByteArray := prog_9_method_8_code
def y_Mo_copy : MethodName := ⟨R_Mo, "copy", "(II)V"⟩
theorem m_Mo_copy : hw_mV y_Mo_copy b_Mo_copy 4 none 2 := ⟨⟨w_807, w_8, by decide +kernel, by decide +kernel, by decide +kernel⟩, w_806, TT_sel (q := (⟨"WallFractionsModel", "copy", "(II)V"⟩, 6)) 21 (by decide +kernel)⟩
abbrev b_Mo_isZero : ByteArray := prog_9_method_9_code
def y_Mo_isZero : MethodName := ⟨R_Mo, "isZero", "(I)Z"⟩
theorem m_Mo_isZero : hw_mV y_Mo_isZero b_Mo_isZero 2 (some .boolean) 1 := ⟨⟨w_811, w_8, by decide +kernel, by decide +kernel, by decide +kernel⟩, w_810, TT_sel (q := (⟨"WallFractionsModel", "isZero", "(I)Z"⟩, 6)) 22 (by decide +kernel)⟩
abbrev b_Mo_order : ByteArray := prog_9_method_10_code
def y_Mo_order : MethodName := ⟨R_Mo, "order", "(II)I"⟩
theorem m_Mo_order : hw_mV y_Mo_order b_Mo_order 5 (some .int) 2 := ⟨⟨w_871, w_8, by decide +kernel, by decide +kernel, by decide +kernel⟩, w_870, TT_sel (q := (⟨"WallFractionsModel", "order", "(II)I"⟩, 6)) 33 (by decide +kernel)⟩
abbrev b_Mo_plus : ByteArray := prog_9_method_11_code
def y_Mo_plus : MethodName := ⟨R_Mo, "plus", "(III)V"⟩
theorem m_Mo_plus : hw_mV y_Mo_plus b_Mo_plus 8 none 3 := ⟨⟨w_867, w_8, by decide +kernel, by decide +kernel, by decide +kernel⟩, w_866, TT_sel (q := (⟨"WallFractionsModel", "plus", "(III)V"⟩, 6)) 32 (by decide +kernel)⟩
abbrev b_Mo_less : ByteArray := prog_9_method_12_code
def y_Mo_less : MethodName := ⟨R_Mo, "less", "(III)V"⟩
theorem m_Mo_less : hw_mV y_Mo_less b_Mo_less 8 none 3 := ⟨⟨w_875, w_8, by decide +kernel, by decide +kernel, by decide +kernel⟩, w_874, TT_sel (q := (⟨"WallFractionsModel", "less", "(III)V"⟩, 6)) 34 (by decide +kernel)⟩
abbrev b_Mo_product : ByteArray := prog_9_method_13_code
def y_Mo_product : MethodName := ⟨R_Mo, "product", "(III)V"⟩
theorem m_Mo_product : hw_mV y_Mo_product b_Mo_product 9 none 3 := ⟨⟨w_863, w_8, by decide +kernel, by decide +kernel, by decide +kernel⟩, w_862, TT_sel (q := (⟨"WallFractionsModel", "product", "(III)V"⟩, 6)) 31 (by decide +kernel)⟩
abbrev b_Mo_times : ByteArray := prog_9_method_14_code
def y_Mo_times : MethodName := ⟨R_Mo, "times", "(IJJ)V"⟩
theorem m_Mo_times : hw_mV y_Mo_times b_Mo_times 12 none 3 := ⟨⟨w_848, w_8, by decide +kernel, by decide +kernel, by decide +kernel⟩, w_847, TT_sel (q := (⟨"WallFractionsModel", "times", "(IJJ)V"⟩, 6)) 29 (by decide +kernel)⟩
abbrev b_Mo_tens : ByteArray := prog_9_method_15_code
def y_Mo_tens : MethodName := ⟨R_Mo, "tens", "(II)V"⟩
theorem m_Mo_tens : hw_mV y_Mo_tens b_Mo_tens 4 none 2 := ⟨⟨w_911, w_8, by decide +kernel, by decide +kernel, by decide +kernel⟩, w_910, TT_sel (q := (⟨"WallFractionsModel", "tens", "(II)V"⟩, 6)) 36 (by decide +kernel)⟩
abbrev b_Mo_by : ByteArray := prog_9_method_16_code
def y_Mo_by : MethodName := ⟨R_Mo, "by", "(IJ)J"⟩
theorem m_Mo_by : hw_mV y_Mo_by b_Mo_by 9 (some .long) 2 := ⟨⟨w_901, w_8, by decide +kernel, by decide +kernel, by decide +kernel⟩, w_900, TT_sel (q := (⟨"WallFractionsModel", "by", "(IJ)J"⟩, 6)) 35 (by decide +kernel)⟩
abbrev b_Mo_holds : ByteArray := prog_9_method_17_code
def y_Mo_holds : MethodName := ⟨R_Mo, "holds", "(III)Z"⟩
theorem m_Mo_holds : hw_mV y_Mo_holds b_Mo_holds 6 (some .boolean) 3 := ⟨⟨w_823, w_8, by decide +kernel, by decide +kernel, by decide +kernel⟩, w_822, TT_sel (q := (⟨"WallFractionsModel", "holds", "(III)Z"⟩, 6)) 25 (by decide +kernel)⟩
abbrev b_Mo_takeOff : ByteArray := prog_9_method_18_code
def y_Mo_takeOff : MethodName := ⟨R_Mo, "takeOff", "(IIII)V"⟩
theorem m_Mo_takeOff : hw_mV y_Mo_takeOff b_Mo_takeOff 9 none 4 := ⟨⟨w_827, w_8, by decide +kernel, by decide +kernel, by decide +kernel⟩, w_826, TT_sel (q := (⟨"WallFractionsModel", "takeOff", "(IIII)V"⟩, 6)) 26 (by decide +kernel)⟩
abbrev b_Mo_part : ByteArray := prog_9_method_19_code
def y_Mo_part : MethodName := ⟨R_Mo, "part", "(III)V"⟩
theorem m_Mo_part : hw_mV y_Mo_part b_Mo_part 14 none 3 := ⟨⟨w_815, w_8, by decide +kernel, by decide +kernel, by decide +kernel⟩, w_814, TT_sel (q := (⟨"WallFractionsModel", "part", "(III)V"⟩, 6)) 23 (by decide +kernel)⟩
abbrev b_Mo_divisor : ByteArray := prog_9_method_20_code
def y_Mo_divisor : MethodName := ⟨R_Mo, "divisor", "(II)I"⟩
theorem m_Mo_divisor : hw_mV y_Mo_divisor b_Mo_divisor 6 (some .int) 2 := ⟨⟨w_803, w_8, by decide +kernel, by decide +kernel, by decide +kernel⟩, w_802, TT_sel (q := (⟨"WallFractionsModel", "divisor", "(II)I"⟩, 6)) 20 (by decide +kernel)⟩
abbrev b_Mo_digitsIn : ByteArray := prog_9_method_21_code
def y_Mo_digitsIn : MethodName := ⟨R_Mo, "digitsIn", "(I)I"⟩
theorem m_Mo_digitsIn : hw_mV y_Mo_digitsIn b_Mo_digitsIn 4 (some .int) 1 := ⟨⟨w_932, w_8, by decide +kernel, by decide +kernel, by decide +kernel⟩, w_931, TT_sel (q := (⟨"WallFractionsModel", "digitsIn", "(I)I"⟩, 6)) 40 (by decide +kernel)⟩
abbrev b_Mo_finish : ByteArray := prog_9_method_22_code
def y_Mo_finish : MethodName := ⟨R_Mo, "finish", "(II)Z"⟩
theorem m_Mo_finish : hw_mV y_Mo_finish b_Mo_finish 4 (some .boolean) 2 := ⟨⟨w_799, w_8, by decide +kernel, by decide +kernel, by decide +kernel⟩, w_798, TT_sel (q := (⟨"WallFractionsModel", "finish", "(II)Z"⟩, 6)) 19 (by decide +kernel)⟩
abbrev b_Mo_set : ByteArray := prog_9_method_23_code
def y_Mo_set : MethodName := ⟨R_Mo, "set", "(IJJ)V"⟩
theorem m_Mo_set : hw_mV y_Mo_set b_Mo_set 9 none 3 := ⟨⟨w_791, w_8, by decide +kernel, by decide +kernel, by decide +kernel⟩, w_789, w_790⟩
abbrev b_Mo_isWhole : ByteArray := prog_9_method_24_code
def y_Mo_isWhole : MethodName := ⟨R_Mo, "isWhole", "(I)Z"⟩
theorem m_Mo_isWhole : hw_mV y_Mo_isWhole b_Mo_isWhole 2 (some .boolean) 1 := ⟨⟨w_843, w_8, by decide +kernel, by decide +kernel, by decide +kernel⟩, w_842, TT_sel (q := (⟨"WallFractionsModel", "isWhole", "(I)Z"⟩, 6)) 28 (by decide +kernel)⟩
abbrev b_Mo_more : ByteArray := prog_9_method_25_code
def y_Mo_more : MethodName := ⟨R_Mo, "more", "(II)V"⟩
theorem m_Mo_more : hw_mV y_Mo_more b_Mo_more 3 none 2 := ⟨⟨w_835, w_8, by decide +kernel, by decide +kernel, by decide +kernel⟩, w_833, w_834⟩
abbrev b_Mo_sum : ByteArray := prog_9_method_26_code
def y_Mo_sum : MethodName := ⟨R_Mo, "sum", "(IIII)V"⟩
theorem m_Mo_sum : hw_mV y_Mo_sum b_Mo_sum 6 none 4 := ⟨⟨w_859, w_8, by decide +kernel, by decide +kernel, by decide +kernel⟩, w_858, TT_sel (q := (⟨"WallFractionsModel", "sum", "(IIII)V"⟩, 6)) 30 (by decide +kernel)⟩
abbrev b_Mo_areThere : ByteArray := prog_9_method_27_code
def y_Mo_areThere : MethodName := ⟨R_Mo, "areThere", "(III)Z"⟩
theorem m_Mo_areThere : hw_mS y_Mo_areThere b_Mo_areThere 3 (some .boolean) 3 := ⟨⟨w_855, w_8, by decide +kernel, by decide +kernel, by decide +kernel⟩, w_854⟩
abbrev b_Mo_add : ByteArray := prog_9_method_28_code
def y_Mo_add : MethodName := ⟨R_Mo, "add", "(III)V"⟩
theorem m_Mo_add : hw_mV y_Mo_add b_Mo_add 4 none 3 := ⟨⟨w_852, w_8, by decide +kernel, by decide +kernel, by decide +kernel⟩, w_850, w_851⟩
abbrev b_Mo_subtract : ByteArray := prog_9_method_29_code
def y_Mo_subtract : MethodName := ⟨R_Mo, "subtract", "(III)V"⟩
theorem m_Mo_subtract : hw_mV y_Mo_subtract b_Mo_subtract 4 none 3 := ⟨⟨w_879, w_8, by decide +kernel, by decide +kernel, by decide +kernel⟩, w_877, w_878⟩
abbrev b_Mo_multiply : ByteArray := prog_9_method_30_code
def y_Mo_multiply : MethodName := ⟨R_Mo, "multiply", "(III)V"⟩
theorem m_Mo_multiply : hw_mV y_Mo_multiply b_Mo_multiply 4 none 3 := ⟨⟨w_883, w_8, by decide +kernel, by decide +kernel, by decide +kernel⟩, w_881, w_882⟩
abbrev b_Mo_divide : ByteArray := prog_9_method_31_code
def y_Mo_divide : MethodName := ⟨R_Mo, "divide", "(III)V"⟩
theorem m_Mo_divide : hw_mV y_Mo_divide b_Mo_divide 4 none 3 := ⟨⟨w_887, w_8, by decide +kernel, by decide +kernel, by decide +kernel⟩, w_885, w_886⟩
abbrev b_Mo_power : ByteArray := prog_9_method_32_code
def y_Mo_power : MethodName := ⟨R_Mo, "power", "(III)V"⟩
theorem m_Mo_power : hw_mV y_Mo_power b_Mo_power 5 none 3 := ⟨⟨w_891, w_8, by decide +kernel, by decide +kernel, by decide +kernel⟩, w_889, w_890⟩
abbrev b_Mo_binomial : ByteArray := prog_9_method_33_code
def y_Mo_binomial : MethodName := ⟨R_Mo, "binomial", "(III)V"⟩
theorem m_Mo_binomial : hw_mV y_Mo_binomial b_Mo_binomial 8 none 3 := ⟨⟨w_896, w_8, by decide +kernel, by decide +kernel, by decide +kernel⟩, w_894, w_895⟩
abbrev b_Mo_floor : ByteArray := prog_9_method_34_code
def y_Mo_floor : MethodName := ⟨R_Mo, "floor", "(IZ)V"⟩
theorem m_Mo_floor : hw_mV y_Mo_floor b_Mo_floor 4 none 2 := ⟨⟨w_916, w_8, by decide +kernel, by decide +kernel, by decide +kernel⟩, w_915, TT_sel (q := (⟨"WallFractionsModel", "floor", "(IZ)V"⟩, 6)) 37 (by decide +kernel)⟩
abbrev b_Mo_units : ByteArray := prog_9_method_35_code
def y_Mo_units : MethodName := ⟨R_Mo, "units", "(III)Z"⟩
theorem m_Mo_units : hw_mV y_Mo_units b_Mo_units 4 (some .boolean) 3 := ⟨⟨w_920, w_8, by decide +kernel, by decide +kernel, by decide +kernel⟩, w_919, TT_sel (q := (⟨"WallFractionsModel", "units", "(III)Z"⟩, 6)) 38 (by decide +kernel)⟩
abbrev b_Mo_round : ByteArray := prog_9_method_36_code
def y_Mo_round : MethodName := ⟨R_Mo, "round", "(IIII)V"⟩
theorem m_Mo_round : hw_mV y_Mo_round b_Mo_round 6 none 4 := ⟨⟨w_905, w_8, by decide +kernel, by decide +kernel, by decide +kernel⟩, w_903, w_904⟩
abbrev b_Mo_takeRoot : ByteArray := prog_9_method_37_code
def y_Mo_takeRoot : MethodName := ⟨R_Mo, "takeRoot", "()V"⟩
theorem m_Mo_takeRoot : hw_mV y_Mo_takeRoot b_Mo_takeRoot 5 none 0 := ⟨⟨w_928, w_8, by decide +kernel, by decide +kernel, by decide +kernel⟩, w_927, TT_sel (q := (⟨"WallFractionsModel", "takeRoot", "()V"⟩, 6)) 39 (by decide +kernel)⟩
abbrev b_Mo_root : ByteArray := prog_9_method_38_code
def y_Mo_root : MethodName := ⟨R_Mo, "root", "(III)V"⟩
theorem m_Mo_root : hw_mV y_Mo_root b_Mo_root 4 none 3 := ⟨⟨w_924, w_8, by decide +kernel, by decide +kernel, by decide +kernel⟩, w_922, w_923⟩
abbrev b_Mo_compare : ByteArray := prog_9_method_39_code
def y_Mo_compare : MethodName := ⟨R_Mo, "compare", "(II)I"⟩
theorem m_Mo_compare : hw_mV y_Mo_compare b_Mo_compare 3 (some .int) 2 := ⟨⟨w_936, w_8, by decide +kernel, by decide +kernel, by decide +kernel⟩, w_934, w_935⟩
abbrev b_Mo_sign : ByteArray := prog_9_method_40_code
def y_Mo_sign : MethodName := ⟨R_Mo, "sign", "(I)I"⟩
theorem m_Mo_sign : hw_mV y_Mo_sign b_Mo_sign 2 (some .int) 1 := ⟨⟨w_940, w_8, by decide +kernel, by decide +kernel, by decide +kernel⟩, w_938, w_939⟩
abbrev b_Mo_digits : ByteArray := prog_9_method_41_code
def y_Mo_digits : MethodName := ⟨R_Mo, "digits", "(II)I"⟩
theorem m_Mo_digits : hw_mV y_Mo_digits b_Mo_digits 3 (some .int) 2 := ⟨⟨w_944, w_8, by decide +kernel, by decide +kernel, by decide +kernel⟩, w_942, w_943⟩
abbrev b_Mo_digit : ByteArray := prog_9_method_42_code
def y_Mo_digit : MethodName := ⟨R_Mo, "digit", "(III)I"⟩
theorem m_Mo_digit : hw_mV y_Mo_digit b_Mo_digit 6 (some .int) 3 := ⟨⟨w_948, w_8, by decide +kernel, by decide +kernel, by decide +kernel⟩, w_946, w_947⟩
abbrev b_Mo_behind : ByteArray := prog_9_method_43_code
def y_Mo_behind : MethodName := ⟨R_Mo, "behind", "(II)I"⟩
theorem m_Mo_behind : hw_mV y_Mo_behind b_Mo_behind 4 (some .int) 2 := ⟨⟨w_952, w_8, by decide +kernel, by decide +kernel, by decide +kernel⟩, w_950, w_951⟩
abbrev b_Mo_modulo : ByteArray := prog_9_method_44_code
def y_Mo_modulo : MethodName := ⟨R_Mo, "modulo", "(III)I"⟩
theorem m_Mo_modulo : hw_mV y_Mo_modulo b_Mo_modulo 4 (some .int) 3 := ⟨⟨w_957, w_8, by decide +kernel, by decide +kernel, by decide +kernel⟩, w_955, w_956⟩
abbrev b_Mo_weight : ByteArray := prog_9_method_45_code
def y_Mo_weight : MethodName := ⟨R_Mo, "weight", "(II)I"⟩
theorem m_Mo_weight : hw_mV y_Mo_weight b_Mo_weight 4 (some .int) 2 := ⟨⟨w_961, w_8, by decide +kernel, by decide +kernel, by decide +kernel⟩, w_959, w_960⟩
abbrev b_Mo_share : ByteArray := prog_9_method_46_code
def y_Mo_share : MethodName := ⟨R_Mo, "share", "(III)V"⟩
theorem m_Mo_share : hw_mV y_Mo_share b_Mo_share 9 none 3 := ⟨⟨w_966, w_8, by decide +kernel, by decide +kernel, by decide +kernel⟩, w_964, w_965⟩
abbrev b_Dv_init : ByteArray := prog_2_method_1_code
def y_Dv_init : MethodName := ⟨R_Dv, "<init>", "()V"⟩
theorem m_Dv_init : hw_mI y_Dv_init b_Dv_init 1 0 := ⟨⟨w_77, w_4, by decide +kernel, by decide +kernel, by decide +kernel⟩, rfl, w_76⟩
abbrev b_Dv_split : ByteArray := prog_2_method_2_code
def y_Dv_split : MethodName := ⟨R_Dv, "split", "(LWallFractions$Whole;LWallFractions$Whole;LWallFractions$Whole;LWallFractions$Whole;)V"⟩
theorem m_Dv_split : hw_mV y_Dv_split b_Dv_split 5 none 4 := ⟨⟨w_461, w_4, by decide +kernel, by decide +kernel, by decide +kernel⟩, w_459, w_460⟩
abbrev b_Dv_splitLong : ByteArray := prog_2_method_3_code
def y_Dv_splitLong : MethodName := ⟨R_Dv, "splitLong", "(LWallFractions$Whole;LWallFractions$Whole;LWallFractions$Whole;LWallFractions$Whole;)V"⟩
theorem m_Dv_splitLong : hw_mV y_Dv_splitLong b_Dv_splitLong 10 none 4 := ⟨⟨w_475, w_4, by decide +kernel, by decide +kernel, by decide +kernel⟩, w_474, TT_sel (q := (⟨"WallFractions$Divider", "splitLong", "(LWallFractions$Whole;LWallFractions$Whole;LWallFractions$Whole;LWallFractions$Whole;)V"⟩, 2)) 7 (by decide +kernel)⟩
abbrev b_Dv_lay : ByteArray := prog_2_method_4_code
def y_Dv_lay : MethodName := ⟨R_Dv, "lay", "(LWallFractions$Whole;J[J)V"⟩
theorem m_Dv_lay : hw_mS y_Dv_lay b_Dv_lay 9 none 3 := ⟨⟨w_479, w_4, by decide +kernel, by decide +kernel, by decide +kernel⟩, w_478⟩
abbrev b_Dv_takeOff : ByteArray := prog_2_method_5_code
def y_Dv_takeOff : MethodName := ⟨R_Dv, "takeOff", "(II)J"⟩
theorem m_Dv_takeOff : hw_mV y_Dv_takeOff b_Dv_takeOff 10 (some .long) 2 := ⟨⟨w_483, w_4, by decide +kernel, by decide +kernel, by decide +kernel⟩, w_482, TT_sel (q := (⟨"WallFractions$Divider", "takeOff", "(II)J"⟩, 2)) 8 (by decide +kernel)⟩
abbrev b_Dv_guess : ByteArray := prog_2_method_6_code
def y_Dv_guess : MethodName := ⟨R_Dv, "guess", "(II)J"⟩
theorem m_Dv_guess : hw_mV y_Dv_guess b_Dv_guess 11 (some .long) 2 := ⟨⟨w_487, w_4, by decide +kernel, by decide +kernel, by decide +kernel⟩, w_486, TT_sel (q := (⟨"WallFractions$Divider", "guess", "(II)J"⟩, 2)) 9 (by decide +kernel)⟩
abbrev b_Dv_putBack : ByteArray := prog_2_method_7_code
def y_Dv_putBack : MethodName := ⟨R_Dv, "putBack", "(II)V"⟩
theorem m_Dv_putBack : hw_mV y_Dv_putBack b_Dv_putBack 8 none 2 := ⟨⟨w_494, w_4, by decide +kernel, by decide +kernel, by decide +kernel⟩, w_493, TT_sel (q := (⟨"WallFractions$Divider", "putBack", "(II)V"⟩, 2)) 10 (by decide +kernel)⟩
abbrev b_Fr_init : ByteArray := prog_3_method_1_code
def y_Fr_init : MethodName := ⟨R_Fr, "<init>", "()V"⟩
theorem m_Fr_init : hw_mI y_Fr_init b_Fr_init 1 0 := ⟨⟨w_31, w_2, by decide +kernel, by decide +kernel, by decide +kernel⟩, rfl, w_30⟩
abbrev b_Fr_copyFrom : ByteArray := prog_3_method_2_code
def y_Fr_copyFrom : MethodName := ⟨R_Fr, "copyFrom", "(LWallFractions$Fraction;)V"⟩
theorem m_Fr_copyFrom : hw_mV y_Fr_copyFrom b_Fr_copyFrom 2 none 1 := ⟨⟨w_342, w_2, by decide +kernel, by decide +kernel, by decide +kernel⟩, w_340, w_341⟩
abbrev b_Fr_fits : ByteArray := prog_3_method_3_code
def y_Fr_fits : MethodName := ⟨R_Fr, "fits", "()Z"⟩
theorem m_Fr_fits : hw_mV y_Fr_fits b_Fr_fits 1 (some .boolean) 0 := ⟨⟨w_322, w_2, by decide +kernel, by decide +kernel, by decide +kernel⟩, w_320, w_321⟩
abbrev b_Fr_direction : ByteArray := prog_3_method_4_code
def y_Fr_direction : MethodName := ⟨R_Fr, "direction", "()I"⟩
theorem m_Fr_direction : hw_mV y_Fr_direction b_Fr_direction 1 (some .int) 0 := ⟨⟨w_646, w_2, by decide +kernel, by decide +kernel, by decide +kernel⟩, w_644, w_645⟩
abbrev b_Ms_init : ByteArray := prog_4_method_1_code
def y_Ms_init : MethodName := ⟨R_Ms, "<init>", "(LWallFractions$Divider;)V"⟩
theorem m_Ms_init : hw_mI y_Ms_init b_Ms_init 2 1 := ⟨⟨w_96, w_6, by decide +kernel, by decide +kernel, by decide +kernel⟩, rfl, w_95⟩
abbrev b_Ms_of : ByteArray := prog_4_method_2_code
def y_Ms_of : MethodName := ⟨R_Ms, "of", "(LWallFractions$Whole;LWallFractions$Whole;)LWallFractions$Whole;"⟩
theorem m_Ms_of : hw_mV y_Ms_of b_Ms_of 5 (some (.object "WallFractions$Whole")) 2 := ⟨⟨w_433, w_6, by decide +kernel, by decide +kernel, by decide +kernel⟩, w_431, w_432⟩
abbrev b_Ms_ofShort : ByteArray := prog_4_method_3_code
def y_Ms_ofShort : MethodName := ⟨R_Ms, "ofShort", "(JJ)J"⟩
theorem m_Ms_ofShort : hw_mS y_Ms_ofShort b_Ms_ofShort 11 (some .long) 2 := ⟨⟨w_308, w_6, by decide +kernel, by decide +kernel, by decide +kernel⟩, w_307⟩
abbrev b_Ms_shift : ByteArray := prog_4_method_4_code
def y_Ms_shift : MethodName := ⟨R_Ms, "shift", "()V"⟩
theorem m_Ms_shift : hw_mV y_Ms_shift b_Ms_shift 2 none 0 := ⟨⟨w_500, w_6, by decide +kernel, by decide +kernel, by decide +kernel⟩, w_499, TT_sel (q := (⟨"WallFractions$Measure", "shift", "()V"⟩, 9)) 11 (by decide +kernel)⟩
abbrev b_Ms_gather : ByteArray := prog_4_method_5_code
def y_Ms_gather : MethodName := ⟨R_Ms, "gather", "()V"⟩
theorem m_Ms_gather : hw_mV y_Ms_gather b_Ms_gather 16 none 0 := ⟨⟨w_443, w_6, by decide +kernel, by decide +kernel, by decide +kernel⟩, w_442, TT_sel (q := (⟨"WallFractions$Measure", "gather", "()V"⟩, 9)) 5 (by decide +kernel)⟩
abbrev b_Ms_leading : ByteArray := prog_4_method_6_code
def y_Ms_leading : MethodName := ⟨R_Ms, "leading", "(LWallFractions$Whole;J)J"⟩
theorem m_Ms_leading : hw_mV y_Ms_leading b_Ms_leading 7 (some .long) 2 := ⟨⟨w_454, w_6, by decide +kernel, by decide +kernel, by decide +kernel⟩, w_453, TT_sel (q := (⟨"WallFractions$Measure", "leading", "(LWallFractions$Whole;J)J"⟩, 9)) 6 (by decide +kernel)⟩
abbrev b_Ms_catchUp : ByteArray := prog_4_method_7_code
def y_Ms_catchUp : MethodName := ⟨R_Ms, "catchUp", "()V"⟩
theorem m_Ms_catchUp : hw_mV y_Ms_catchUp b_Ms_catchUp 15 none 0 := ⟨⟨w_504, w_6, by decide +kernel, by decide +kernel, by decide +kernel⟩, w_503, TT_sel (q := (⟨"WallFractions$Measure", "catchUp", "()V"⟩, 9)) 12 (by decide +kernel)⟩
abbrev b_Rk_init : ByteArray := prog_5_method_1_code
def y_Rk_init : MethodName := ⟨R_Rk, "<init>", "(LWallFractions$Divider;)V"⟩
theorem m_Rk_init : hw_mI y_Rk_init b_Rk_init 2 1 := ⟨⟨w_90, w_5, by decide +kernel, by decide +kernel, by decide +kernel⟩, rfl, w_89⟩
abbrev b_Rk_requireFit : ByteArray := prog_5_method_2_code
def y_Rk_requireFit : MethodName := ⟨R_Rk, "requireFit", "()V"⟩
theorem m_Rk_requireFit : hw_mV y_Rk_requireFit b_Rk_requireFit 1 none 0 := ⟨⟨w_318, w_5, by decide +kernel, by decide +kernel, by decide +kernel⟩, w_316, w_317⟩
abbrev b_Rk_ratio : ByteArray := prog_5_method_3_code
def y_Rk_ratio : MethodName := ⟨R_Rk, "ratio", "(JJ)V"⟩
theorem m_Rk_ratio : hw_mV y_Rk_ratio b_Rk_ratio 7 none 2 := ⟨⟨w_302, w_5, by decide +kernel, by decide +kernel, by decide +kernel⟩, w_300, w_301⟩
abbrev b_Rk_lengthen : ByteArray := prog_5_method_4_code
def y_Rk_lengthen : MethodName := ⟨R_Rk, "lengthen", "(LWallFractions$Fraction;I)V"⟩
theorem m_Rk_lengthen : hw_mV y_Rk_lengthen b_Rk_lengthen 3 none 2 := ⟨⟨w_372, w_5, by decide +kernel, by decide +kernel, by decide +kernel⟩, w_370, w_371⟩
abbrev b_Rk_total : ByteArray := prog_5_method_5_code
def y_Rk_total : MethodName := ⟨R_Rk, "total", "(LWallFractions$Fraction;LWallFractions$Fraction;Z)V"⟩
theorem m_Rk_total : hw_mV y_Rk_total b_Rk_total 4 none 3 := ⟨⟨w_402, w_5, by decide +kernel, by decide +kernel, by decide +kernel⟩, w_400, w_401⟩
abbrev b_Rk_product : ByteArray := prog_5_method_6_code
def y_Rk_product : MethodName := ⟨R_Rk, "product", "(LWallFractions$Fraction;LWallFractions$Whole;LWallFractions$Whole;Z)V"⟩
theorem m_Rk_product : hw_mV y_Rk_product b_Rk_product 5 none 4 := ⟨⟨w_533, w_5, by decide +kernel, by decide +kernel, by decide +kernel⟩, w_531, w_532⟩
abbrev b_Rk_raise : ByteArray := prog_5_method_7_code
def y_Rk_raise : MethodName := ⟨R_Rk, "raise", "(LWallFractions$Fraction;I)V"⟩
theorem m_Rk_raise : hw_mV y_Rk_raise b_Rk_raise 4 none 2 := ⟨⟨w_554, w_5, by decide +kernel, by decide +kernel, by decide +kernel⟩, w_552, w_553⟩
abbrev b_Rk_multiplyOut : ByteArray := prog_5_method_8_code
def y_Rk_multiplyOut : MethodName := ⟨R_Rk, "multiplyOut", "(LWallFractions$Fraction;)V"⟩
theorem m_Rk_multiplyOut : hw_mV y_Rk_multiplyOut b_Rk_multiplyOut 2 none 1 := ⟨⟨w_558, w_5, by decide +kernel, by decide +kernel, by decide +kernel⟩, w_557, TT_sel (q := (⟨"WallFractions$Reckoner", "multiplyOut", "(LWallFractions$Fraction;)V"⟩, 7)) 13 (by decide +kernel)⟩
abbrev b_Rk_choose : ByteArray := prog_5_method_9_code
def y_Rk_choose : MethodName := ⟨R_Rk, "choose", "(II)V"⟩
theorem m_Rk_choose : hw_mV y_Rk_choose b_Rk_choose 5 none 2 := ⟨⟨w_572, w_5, by decide +kernel, by decide +kernel, by decide +kernel⟩, w_570, w_571⟩
abbrev b_Rk_shorten : ByteArray := prog_5_method_10_code
def y_Rk_shorten : MethodName := ⟨R_Rk, "shorten", "(LWallFractions$Fraction;II)V"⟩
theorem m_Rk_shorten : hw_mV y_Rk_shorten b_Rk_shorten 4 none 3 := ⟨⟨w_589, w_5, by decide +kernel, by decide +kernel, by decide +kernel⟩, w_587, w_588⟩
abbrev b_Rk_goesUp : ByteArray := prog_5_method_11_code
def y_Rk_goesUp : MethodName := ⟨R_Rk, "goesUp", "(LWallFractions$Fraction;I)Z"⟩
theorem m_Rk_goesUp : hw_mV y_Rk_goesUp b_Rk_goesUp 3 (some .boolean) 2 := ⟨⟨w_597, w_5, by decide +kernel, by decide +kernel, by decide +kernel⟩, w_596, TT_sel (q := (⟨"WallFractions$Reckoner", "goesUp", "(LWallFractions$Fraction;I)Z"⟩, 7)) 14 (by decide +kernel)⟩
abbrev b_Rk_extractRoot : ByteArray := prog_5_method_12_code
def y_Rk_extractRoot : MethodName := ⟨R_Rk, "extractRoot", "(LWallFractions$Fraction;I)V"⟩
theorem m_Rk_extractRoot : hw_mV y_Rk_extractRoot b_Rk_extractRoot 3 none 2 := ⟨⟨w_614, w_5, by decide +kernel, by decide +kernel, by decide +kernel⟩, w_612, w_613⟩
abbrev b_Rk_squareRoot : ByteArray := prog_5_method_13_code
def y_Rk_squareRoot : MethodName := ⟨R_Rk, "squareRoot", "(LWallFractions$Whole;LWallFractions$Whole;)V"⟩
theorem m_Rk_squareRoot : hw_mV y_Rk_squareRoot b_Rk_squareRoot 5 none 2 := ⟨⟨w_618, w_5, by decide +kernel, by decide +kernel, by decide +kernel⟩, w_617, TT_sel (q := (⟨"WallFractions$Reckoner", "squareRoot", "(LWallFractions$Whole;LWallFractions$Whole;)V"⟩, 7)) 15 (by decide +kernel)⟩
abbrev b_Rk_putOut : ByteArray := prog_5_method_14_code
def y_Rk_putOut : MethodName := ⟨R_Rk, "putOut", "(LWallFractions$Whole;IZ)V"⟩
theorem m_Rk_putOut : hw_mV y_Rk_putOut b_Rk_putOut 4 none 3 := ⟨⟨w_602, w_5, by decide +kernel, by decide +kernel, by decide +kernel⟩, w_600, w_601⟩
abbrev b_Rk_reduce : ByteArray := prog_5_method_15_code
def y_Rk_reduce : MethodName := ⟨R_Rk, "reduce", "()V"⟩
theorem m_Rk_reduce : hw_mV y_Rk_reduce b_Rk_reduce 2 none 0 := ⟨⟨w_429, w_5, by decide +kernel, by decide +kernel, by decide +kernel⟩, w_428, TT_sel (q := (⟨"WallFractions$Reckoner", "reduce", "()V"⟩, 7)) 4 (by decide +kernel)⟩
abbrev b_Rk_order : ByteArray := prog_5_method_16_code
def y_Rk_order : MethodName := ⟨R_Rk, "order", "(LWallFractions$Fraction;LWallFractions$Fraction;)I"⟩
theorem m_Rk_order : hw_mV y_Rk_order b_Rk_order 3 (some .int) 2 := ⟨⟨w_635, w_5, by decide +kernel, by decide +kernel, by decide +kernel⟩, w_633, w_634⟩
abbrev b_Rk_decimalBehind : ByteArray := prog_5_method_17_code
def y_Rk_decimalBehind : MethodName := ⟨R_Rk, "decimalBehind", "(LWallFractions$Fraction;I)I"⟩
theorem m_Rk_decimalBehind : hw_mV y_Rk_decimalBehind b_Rk_decimalBehind 4 (some .int) 2 := ⟨⟨w_700, w_5, by decide +kernel, by decide +kernel, by decide +kernel⟩, w_698, w_699⟩
abbrev b_Sh_init : ByteArray := prog_6_method_1_code
def y_Sh_init : MethodName := ⟨R_Sh, "<init>", "(LWallFractions$Divider;)V"⟩
theorem m_Sh_init : hw_mI y_Sh_init b_Sh_init 2 1 := ⟨⟨w_159, w_7, by decide +kernel, by decide +kernel, by decide +kernel⟩, rfl, w_158⟩
abbrev b_Sh_exchange : ByteArray := prog_6_method_2_code
def y_Sh_exchange : MethodName := ⟨R_Sh, "exchange", "(II)I"⟩
theorem m_Sh_exchange : hw_mV y_Sh_exchange b_Sh_exchange 4 (some .int) 2 := ⟨⟨w_726, w_7, by decide +kernel, by decide +kernel, by decide +kernel⟩, w_724, w_725⟩
abbrev b_Sh_sumOfWeights : ByteArray := prog_6_method_3_code
def y_Sh_sumOfWeights : MethodName := ⟨R_Sh, "sumOfWeights", "()J"⟩
theorem m_Sh_sumOfWeights : hw_mV y_Sh_sumOfWeights b_Sh_sumOfWeights 4 (some .long) 0 := ⟨⟨w_737, w_7, by decide +kernel, by decide +kernel, by decide +kernel⟩, w_735, w_736⟩
abbrev b_Sh_shareOf : ByteArray := prog_6_method_4_code
def y_Sh_shareOf : MethodName := ⟨R_Sh, "shareOf", "(LWallFractions$Whole;I)LWallFractions$Whole;"⟩
theorem m_Sh_shareOf : hw_mV y_Sh_shareOf b_Sh_shareOf 8 (some (.object "WallFractions$Whole")) 2 := ⟨⟨w_742, w_7, by decide +kernel, by decide +kernel, by decide +kernel⟩, w_740, w_741⟩
abbrev b_Sh_rank : ByteArray := prog_6_method_5_code
def y_Sh_rank : MethodName := ⟨R_Sh, "rank", "(I)J"⟩
theorem m_Sh_rank : hw_mV y_Sh_rank b_Sh_rank 5 (some .long) 1 := ⟨⟨w_752, w_7, by decide +kernel, by decide +kernel, by decide +kernel⟩, w_751, TT_sel (q := (⟨"WallFractions$Sharing", "rank", "(I)J"⟩, 7)) 17 (by decide +kernel)⟩
abbrev b_Wh_init : ByteArray := prog_7_method_1_code
def y_Wh_init : MethodName := ⟨R_Wh, "<init>", "()V"⟩
theorem m_Wh_init : hw_mI y_Wh_init b_Wh_init 1 0 := ⟨⟨w_37, w_3, by decide +kernel, by decide +kernel, by decide +kernel⟩, rfl, w_36⟩
abbrev b_Wh_requireRoom : ByteArray := prog_7_method_2_code
def y_Wh_requireRoom : MethodName := ⟨R_Wh, "requireRoom", "(I)V"⟩
theorem m_Wh_requireRoom : hw_mS y_Wh_requireRoom b_Wh_requireRoom 1 none 1 := ⟨⟨w_381, w_3, by decide +kernel, by decide +kernel, by decide +kernel⟩, w_380⟩
abbrev b_Wh_settle : ByteArray := prog_7_method_3_code
def y_Wh_settle : MethodName := ⟨R_Wh, "settle", "(I)V"⟩
theorem m_Wh_settle : hw_mV y_Wh_settle b_Wh_settle 2 none 1 := ⟨⟨w_388, w_3, by decide +kernel, by decide +kernel, by decide +kernel⟩, w_387, TT_sel (q := (⟨"WallFractions$Whole", "settle", "(I)V"⟩, 2)) 2 (by decide +kernel)⟩
abbrev b_Wh_limbAt : ByteArray := prog_7_method_4_code
def y_Wh_limbAt : MethodName := ⟨R_Wh, "limbAt", "(I)J"⟩
theorem m_Wh_limbAt : hw_mV y_Wh_limbAt b_Wh_limbAt 2 (some .long) 1 := ⟨⟨w_417, w_3, by decide +kernel, by decide +kernel, by decide +kernel⟩, w_416, TT_sel (q := (⟨"WallFractions$Whole", "limbAt", "(I)J"⟩, 2)) 3 (by decide +kernel)⟩
abbrev b_Wh_become : ByteArray := prog_7_method_5_code
def y_Wh_become : MethodName := ⟨R_Wh, "become", "(J)V"⟩
theorem m_Wh_become : hw_mV y_Wh_become b_Wh_become 5 none 1 := ⟨⟨w_55, w_3, by decide +kernel, by decide +kernel, by decide +kernel⟩, w_53, w_54⟩
abbrev b_Wh_becomeTenTo : ByteArray := prog_7_method_6_code
def y_Wh_becomeTenTo : MethodName := ⟨R_Wh, "becomeTenTo", "(I)V"⟩
theorem m_Wh_becomeTenTo : hw_mV y_Wh_becomeTenTo b_Wh_becomeTenTo 4 none 1 := ⟨⟨w_593, w_3, by decide +kernel, by decide +kernel, by decide +kernel⟩, w_591, w_592⟩
abbrev b_Wh_copyFrom : ByteArray := prog_7_method_7_code
def y_Wh_copyFrom : MethodName := ⟨R_Wh, "copyFrom", "(LWallFractions$Whole;)V"⟩
theorem m_Wh_copyFrom : hw_mV y_Wh_copyFrom b_Wh_copyFrom 2 none 1 := ⟨⟨w_346, w_3, by decide +kernel, by decide +kernel, by decide +kernel⟩, w_344, w_345⟩
abbrev b_Wh_lowest : ByteArray := prog_7_method_8_code
def y_Wh_lowest : MethodName := ⟨R_Wh, "lowest", "()J"⟩
theorem m_Wh_lowest : hw_mV y_Wh_lowest b_Wh_lowest 1 (some .long) 0 := ⟨⟨w_510, w_3, by decide +kernel, by decide +kernel, by decide +kernel⟩, w_508, w_509⟩
abbrev b_Wh_isZero : ByteArray := prog_7_method_9_code
def y_Wh_isZero : MethodName := ⟨R_Wh, "isZero", "()Z"⟩
theorem m_Wh_isZero : hw_mV y_Wh_isZero b_Wh_isZero 1 (some .boolean) 0 := ⟨⟨w_439, w_3, by decide +kernel, by decide +kernel, by decide +kernel⟩, w_437, w_438⟩
abbrev b_Wh_isOne : ByteArray := prog_7_method_10_code
def y_Wh_isOne : MethodName := ⟨R_Wh, "isOne", "()Z"⟩
theorem m_Wh_isOne : hw_mV y_Wh_isOne b_Wh_isOne 1 (some .boolean) 0 := ⟨⟨w_365, w_3, by decide +kernel, by decide +kernel, by decide +kernel⟩, w_363, w_364⟩
abbrev b_Wh_order : ByteArray := prog_7_method_11_code
def y_Wh_order : MethodName := ⟨R_Wh, "order", "(LWallFractions$Whole;)I"⟩
theorem m_Wh_order : hw_mV y_Wh_order b_Wh_order 3 (some .int) 1 := ⟨⟨w_421, w_3, by decide +kernel, by decide +kernel, by decide +kernel⟩, w_419, w_420⟩
abbrev b_Wh_becomeSum : ByteArray := prog_7_method_12_code
def y_Wh_becomeSum : MethodName := ⟨R_Wh, "becomeSum", "(LWallFractions$Whole;LWallFractions$Whole;)V"⟩
theorem m_Wh_becomeSum : hw_mV y_Wh_becomeSum b_Wh_becomeSum 9 none 2 := ⟨⟨w_410, w_3, by decide +kernel, by decide +kernel, by decide +kernel⟩, w_408, w_409⟩
abbrev b_Wh_becomeDifference : ByteArray := prog_7_method_13_code
def y_Wh_becomeDifference : MethodName := ⟨R_Wh, "becomeDifference", "(LWallFractions$Whole;LWallFractions$Whole;)V"⟩
theorem m_Wh_becomeDifference : hw_mV y_Wh_becomeDifference b_Wh_becomeDifference 9 none 2 := ⟨⟨w_425, w_3, by decide +kernel, by decide +kernel, by decide +kernel⟩, w_423, w_424⟩
abbrev b_Wh_becomeProduct : ByteArray := prog_7_method_14_code
def y_Wh_becomeProduct : MethodName := ⟨R_Wh, "becomeProduct", "(LWallFractions$Whole;LWallFractions$Whole;)V"⟩
theorem m_Wh_becomeProduct : hw_mV y_Wh_becomeProduct b_Wh_becomeProduct 12 none 2 := ⟨⟨w_406, w_3, by decide +kernel, by decide +kernel, by decide +kernel⟩, w_404, w_405⟩
abbrev b_Wh_grow : ByteArray := prog_7_method_15_code
def y_Wh_grow : MethodName := ⟨R_Wh, "grow", "(JJ)V"⟩
theorem m_Wh_grow : hw_mV y_Wh_grow b_Wh_grow 10 none 2 := ⟨⟨w_378, w_3, by decide +kernel, by decide +kernel, by decide +kernel⟩, w_376, w_377⟩
abbrev b_Wh_becomeQuotient : ByteArray := prog_7_method_16_code
def y_Wh_becomeQuotient : MethodName := ⟨R_Wh, "becomeQuotient", "(LWallFractions$Whole;J)J"⟩
theorem m_Wh_becomeQuotient : hw_mV y_Wh_becomeQuotient b_Wh_becomeQuotient 10 (some .long) 2 := ⟨⟨w_471, w_3, by decide +kernel, by decide +kernel, by decide +kernel⟩, w_469, w_470⟩
abbrev b_Wh_restBy : ByteArray := prog_7_method_17_code
def y_Wh_restBy : MethodName := ⟨R_Wh, "restBy", "(J)J"⟩
theorem m_Wh_restBy : hw_mV y_Wh_restBy b_Wh_restBy 6 (some .long) 1 := ⟨⟨w_714, w_3, by decide +kernel, by decide +kernel, by decide +kernel⟩, w_712, w_713⟩
abbrev b_Wh_decimalLength : ByteArray := prog_7_method_18_code
def y_Wh_decimalLength : MethodName := ⟨R_Wh, "decimalLength", "()I"⟩
theorem m_Wh_decimalLength : hw_mV y_Wh_decimalLength b_Wh_decimalLength 1 (some .int) 0 := ⟨⟨w_622, w_3, by decide +kernel, by decide +kernel, by decide +kernel⟩, w_620, w_621⟩
abbrev b_Wh_topLength : ByteArray := prog_7_method_19_code
def y_Wh_topLength : MethodName := ⟨R_Wh, "topLength", "()I"⟩
theorem m_Wh_topLength : hw_mV y_Wh_topLength b_Wh_topLength 4 (some .int) 0 := ⟨⟨w_449, w_3, by decide +kernel, by decide +kernel, by decide +kernel⟩, w_447, w_448⟩
abbrev b_Wh_decimalAt : ByteArray := prog_7_method_20_code
def y_Wh_decimalAt : MethodName := ⟨R_Wh, "decimalAt", "(I)I"⟩
theorem m_Wh_decimalAt : hw_mV y_Wh_decimalAt b_Wh_decimalAt 2 (some .int) 1 := ⟨⟨w_687, w_3, by decide +kernel, by decide +kernel, by decide +kernel⟩, w_685, w_686⟩
abbrev b_La_set : ByteArray := method_3_code
def y_La_set : MethodName := ⟨R_La, "set", "(LWallFractions;IJJ)I"⟩
abbrev b_La_more : ByteArray := method_4_code
def y_La_more : MethodName := ⟨R_La, "more", "(LWallFractions;II)I"⟩
abbrev b_La_add : ByteArray := method_5_code
def y_La_add : MethodName := ⟨R_La, "add", "(LWallFractions;III)I"⟩
abbrev b_La_subtract : ByteArray := method_6_code
def y_La_subtract : MethodName := ⟨R_La, "subtract", "(LWallFractions;III)I"⟩
abbrev b_La_multiply : ByteArray := method_7_code
def y_La_multiply : MethodName := ⟨R_La, "multiply", "(LWallFractions;III)I"⟩
abbrev b_La_divide : ByteArray := method_8_code
def y_La_divide : MethodName := ⟨R_La, "divide", "(LWallFractions;III)I"⟩
abbrev b_La_power : ByteArray := method_9_code
def y_La_power : MethodName := ⟨R_La, "power", "(LWallFractions;III)I"⟩
abbrev b_La_binomial : ByteArray := method_10_code
def y_La_binomial : MethodName := ⟨R_La, "binomial", "(LWallFractions;III)I"⟩
abbrev b_La_round : ByteArray := method_11_code
def y_La_round : MethodName := ⟨R_La, "round", "(LWallFractions;IIII)I"⟩
abbrev b_La_root : ByteArray := method_12_code
def y_La_root : MethodName := ⟨R_La, "root", "(LWallFractions;III)I"⟩
abbrev b_La_compare : ByteArray := method_13_code
def y_La_compare : MethodName := ⟨R_La, "compare", "(LWallFractions;II[J)I"⟩
abbrev b_La_sign : ByteArray := method_14_code
def y_La_sign : MethodName := ⟨R_La, "sign", "(LWallFractions;I[J)I"⟩
abbrev b_La_digits : ByteArray := method_15_code
def y_La_digits : MethodName := ⟨R_La, "digits", "(LWallFractions;II[J)I"⟩
abbrev b_La_digit : ByteArray := method_16_code
def y_La_digit : MethodName := ⟨R_La, "digit", "(LWallFractions;III[J)I"⟩
abbrev b_La_behind : ByteArray := method_17_code
def y_La_behind : MethodName := ⟨R_La, "behind", "(LWallFractions;II[J)I"⟩
abbrev b_La_modulo : ByteArray := method_18_code
def y_La_modulo : MethodName := ⟨R_La, "modulo", "(LWallFractions;III[J)I"⟩
abbrev b_La_weight : ByteArray := method_19_code
def y_La_weight : MethodName := ⟨R_La, "weight", "(LWallFractions;II[J)I"⟩
abbrev b_La_share : ByteArray := method_20_code
def y_La_share : MethodName := ⟨R_La, "share", "(LWallFractions;III)I"⟩
abbrev b_La_law : ByteArray := code
def y_La_law : MethodName := ⟨R_La, "law", "([I)Z"⟩
abbrev b_Mt_abs : ByteArray := prog_15_method_61_code
def y_Mt_abs : MethodName := ⟨R_Mt, "abs", "(J)J"⟩
theorem m_Mt_abs : hw_mS y_Mt_abs b_Mt_abs 2 (some .long) 1 := ⟨⟨w_305, w_14, by decide +kernel, by decide +kernel, by decide +kernel⟩, w_304⟩
abbrev b_Mt_floorDiv : ByteArray := prog_15_method_49_code
def y_Mt_floorDiv : MethodName := ⟨R_Mt, "floorDiv", "(JJ)J"⟩
theorem m_Mt_floorDiv : hw_mS y_Mt_floorDiv b_Mt_floorDiv 6 (some .long) 2 := ⟨⟨w_490, w_14, by decide +kernel, by decide +kernel, by decide +kernel⟩, w_489⟩
abbrev b_Mt_max : ByteArray := prog_15_method_65_code
def y_Mt_max : MethodName := ⟨R_Mt, "max", "(II)I"⟩
theorem m_Mt_max : hw_mS y_Mt_max b_Mt_max 2 (some .int) 2 := ⟨⟨w_413, w_14, by decide +kernel, by decide +kernel, by decide +kernel⟩, w_412⟩
abbrev b_Mt_min : ByteArray := prog_15_method_69_code
def y_Mt_min : MethodName := ⟨R_Mt, "min", "(II)I"⟩
theorem m_Mt_min : hw_mS y_Mt_min b_Mt_min 2 (some .int) 2 := ⟨⟨w_575, w_14, by decide +kernel, by decide +kernel, by decide +kernel⟩, w_574⟩
end
section
/-! a world as a function: the cells at the addresses L hold what f says -/
/-- private members of nest mates, texts -/
def NF : List (String × Nat × String × String × String) := [("WallFractions$Divider", 43, "WallFractions$Whole", "limbs", "[J"), ("WallFractions$Measure", 112, "WallFractions$Whole", "limbs", "[J"), ("WallFractions$Divider", 31, "WallFractions$Whole", "size", "I"), ("WallFractions$Measure", 40, "WallFractions$Whole", "size", "I"), ("WallFractions$Fraction", 33, "WallFractions$Whole", "size", "I"), ("WallFractions$Reckoner", 68, "WallFractions$Fraction", "above", "LWallFractions$Whole;"), ("WallFractions", 85, "WallFractions$Fraction", "above", "LWallFractions$Whole;"), ("WallFractions$Reckoner", 75, "WallFractions$Fraction", "below", "LWallFractions$Whole;"), ("WallFractions", 89, "WallFractions$Fraction", "below", "LWallFractions$Whole;"), ("WallFractions$Reckoner", 78, "WallFractions$Fraction", "negative", "Z"), ("WallFractions", 77, "WallFractions$Fraction", "negative", "Z"), ("WallFractions", 202, "WallFractions$Reckoner", "out", "LWallFractions$Fraction;"), ("WallFractions$Measure", 79, "WallFractions", "TENS", "[J"), ("WallFractions$Whole", 32, "WallFractions", "TENS", "[J"), ("WallFractions$Reckoner", 164, "WallFractions", "TENS", "[J")]
def NM : List (String × Nat × MethodName) := [("WallFractions$Measure", 108, ⟨"WallFractions$Whole", "limbAt", "(I)J"⟩), ("WallFractions$Divider", 64, ⟨"WallFractions$Whole", "settle", "(I)V"⟩), ("WallFractions$Measure", 118, ⟨"WallFractions$Whole", "settle", "(I)V"⟩)]
def ST : List (String × Nat × String) := [("WallFractions", 192, "there is no such register"), ("WallFractions", 189, "a number is out of its bounds"), ("WallFractions", 51, "below is 0"), ("WallFractions$Reckoner", 53, "it does not fit"), ("WallFractions", 197, "the register is not whole"), ("WallFractions$Whole", 21, "too long a number"), ("WallFractions$Divider", 26, "no call divides by 0"), ("WallFractions", 102, "b is 0"), ("WallFractions", 123, "a is below 0"), ("WallFractions", 145, "there is no such digit"), ("WallFractions", 174, "all weights are 0")]
def tyD (D : va_G) : List (ClassId × FieldType) := [(D.1 100, .long), (D.1 101, .int), (D.1 102, .object "WallFractions$Fraction")]
def XK (t0 : Nat) (A : Nat → Prop) (U : State) (H : Heap) : Prop :=
  (∀ q ∈ NF, va_Nw (.fieldLinkNest q.1 q.2.1 q.2.2.1 q.2.2.2.1 q.2.2.2.2 "WallFractions") U) ∧ (∀ q ∈ NM, va_Nw (.methodLinkNest q.1 q.2.1 q.2.2 "WallFractions") U) ∧ (∀ q ∈ ST, ∃ sa, vk_R q.1 q.2.1 q.2.2 sa U) ∧
  va_Z "WallFractions" "TENS" "[J" (.ref t0) A U H ∧ va_T .long t0 10 (fun j => .long (lN (10 ^ j))) A U H ∧ vx_Zq Bundle.tN "UNASSIGNED_STACK" Bundle.steD A U H ∧ vx_Zq Bundle.tN "SUPPRESSED_SENTINEL" Bundle.listD A U H
theorem XK.warm {t0 : Nat} {A : Nat → Prop} {s U : State} {H : Heap} (h : XK t0 A s H) (hw : s.WarmedH U.vm) : XK t0 A U H := by
  obtain ⟨h1, h2, h3, h4, h5, h6, h7⟩ := h
  exact ⟨fun q hq => va_Nw.warmF hw (h1 q hq), fun q hq => va_Nw.warmM hw (h2 q hq), fun q hq => (h3 q hq).imp fun sa h => vk_R.warm hw h, va_Z.moved hw.alike h4, va_T.moved hw.alike h5, vx_Zq.moved hw.alike h6, vx_Zq.moved hw.alike h7⟩
theorem XK.kept {t0 : Nat} {A : Nat → Prop} {s : State} {H H1 : Heap} (h : XK t0 A s H) (hq : ∀ a : Nat, a < H.size → ¬ A a → H1[a]? = H[a]?) : XK t0 A s H1 := by
  obtain ⟨h1, h2, h3, h4, h5, h6, h7⟩ := h
  exact ⟨h1, h2, h3, va_Z.kept h4 hq, va_T.kept h5 hq, vx_Zq.kept h6 hq, vx_Zq.kept h7 hq⟩
theorem XK.narrow {t0 : Nat} {A B : Nat → Prop} {s : State} {H : Heap} (h : XK t0 A s H) (hAB : ∀ q, B q → A q) : XK t0 B s H := by
  obtain ⟨h1, h2, h3, h4, h5, h6, h7⟩ := h
  exact ⟨h1, h2, h3, va_Z.narrow h4 hAB, va_T.narrow h5 hAB, vx_Zq.narrow h6 hAB, vx_Zq.narrow h7 hAB⟩
def hw_A (L : List Nat) (sz : Nat) : Nat → Prop := fun q => q ∈ L ∨ sz ≤ q
def hw_I (D : va_G) (t0 : Nat) (A : Nat → Prop) (s : State) (L : List Nat) (f : Nat → va_E) (H : Heap) (locs : List Loc) : Prop :=
  va_P D classes (va_pl L f) H ∧ va_D A (va_pl L f) ∧ va_S A s.heap H locs ∧ (∀ q, s.heap.size ≤ q → A q) ∧ va_K D classes (tyD D) s ∧ XK t0 A s s.heap
/-- a cell -/
def hw_c (L : List Nat) (f : Nat → va_E) (a : Nat) (e : va_E) : Prop := a ∈ L ∧ f a = e
theorem hw_c.up {L : List Nat} {f : Nat → va_E} {a b : Nat} {e e' : va_E} (h : hw_c L f a e) (hn : a ≠ b) : hw_c L (va_up f b e') a e := ⟨h.1, by simp only [va_up]; rw [if_neg hn]; exact h.2⟩
theorem hw_c.self {L : List Nat} {f : Nat → va_E} {a : Nat} {e e' : va_E} (h : hw_c L f a e) : hw_c L (va_up f a e') a e' := ⟨h.1, by simp [va_up]⟩
theorem hw_up_ne {α : Type} {f : Nat → α} {a b : Nat} {e : α} (h : a ≠ b) : va_up f b e a = f a := by simp only [va_up]; rw [if_neg h]
theorem hw_up_eq {α : Type} {f : Nat → α} {a : Nat} {e : α} : va_up f a e a = e := by simp [va_up]
theorem hw_pl_get {L : List Nat} {f : Nat → va_E} {a : Nat} {e : va_E} (h : hw_c L f a e) : ∃ k : Nat, (va_pl L f)[k]? = some (a, e) := by
  obtain ⟨k, hk⟩ := va_pl_get (X := []) (f := f) h.1
  exact ⟨k, by rw [← h.2]; simpa using hk⟩
theorem hw_pl_set {A : Nat → Prop} {L : List Nat} {f : Nat → va_E} {a k : Nat} {e e' : va_E} (hD : va_D A (va_pl L f)) (h : hw_c L f a e) (hk : (va_pl L f)[k]? = some (a, e)) : (va_pl L f).set k (a, e') = va_pl L (va_up f a e') := by
  have := va_pl_set (X := []) (L := L) (f := f) (a := a) (k := k) (e := e') (A := A) (by simpa using hD) h.1 (by rw [h.2]; simpa using hk)
  simpa using this
theorem hw_pl_mem {L : List Nat} {f : Nat → va_E} {q : Nat} {e : va_E} {k : Nat} (h : (va_pl L f)[k]? = some (q, e)) : q ∈ L := by
  unfold va_pl at h
  rw [List.getElem?_map] at h
  cases hk : L[k]? with
  | none => rw [hk] at h; cases h
  | some a =>
    rw [hk] at h
    cases h
    exact List.mem_of_getElem? hk
theorem hw_A_iff {L : List Nat} {f : Nat → va_E} {sz q : Nat} : va_A (va_pl L f) sz q ↔ hw_A L sz q := by
  constructor
  · rintro (⟨k, e, h⟩ | h)
    · exact Or.inl (hw_pl_mem h)
    · exact Or.inr h
  · rintro (h | h)
    · obtain ⟨k, hk⟩ := hw_pl_get (L := L) (f := f) (a := q) ⟨h, rfl⟩
      exact Or.inl ⟨k, _, hk⟩
    · exact Or.inr h
theorem hw_D_any {A : Nat → Prop} {L : List Nat} {f f' : Nat → va_E} (h : va_D A (va_pl L f)) : va_D A (va_pl L f') := by
  have at' : ∀ {f : Nat → va_E} (k : Nat) (q : Nat × va_E), (va_pl L f)[k]? = some q → L[k]? = some q.1 ∧ q.2 = f q.1 := by
    intro f k q hq
    unfold va_pl at hq
    rw [List.getElem?_map] at hq
    cases hk : L[k]? with
    | none => rw [hk] at hq; cases hq
    | some a => rw [hk] at hq; cases hq; exact ⟨rfl, rfl⟩
  have of' : ∀ (k : Nat) (a : Nat), L[k]? = some a → (va_pl L f)[k]? = some (a, f a) := by
    intro k a ha
    unfold va_pl
    rw [List.getElem?_map, ha]; rfl
  refine ⟨fun i j p q hp hq e => ?_, fun k q hk => ?_⟩
  · have h1 := (at' i p hp).1
    have h2 := (at' j q hq).1
    exact h.1 i j _ _ (of' i _ h1) (of' j _ h2) e
  · exact h.2 k (q.1, f q.1) (of' k _ (at' k q hk).1)
theorem hw_I.P {D : va_G} {t0 : Nat} {A : Nat → Prop} {s : State} {L : List Nat} {f : Nat → va_E} {H : Heap} {locs : List Loc} (h : hw_I D t0 A s L f H locs) : va_P D classes (va_pl L f) H := h.1
theorem hw_I.mk {D : va_G} {t0 : Nat} {A : Nat → Prop} {s : State} {L L' : List Nat} {f f' : Nat → va_E} {H H' : Heap} {locs locs' : List Loc} (h : hw_I D t0 A s L f H locs) (h1 : va_P D classes (va_pl L' f') H') (h2 : va_D A (va_pl L' f')) (h3 : va_S A s.heap H' locs') : hw_I D t0 A s L' f' H' locs' := ⟨h1, h2, h3, h.2.2.2.1, h.2.2.2.2⟩
theorem hw_I.inA {D : va_G} {t0 : Nat} {A : Nat → Prop} {s : State} {L : List Nat} {f : Nat → va_E} {H : Heap} {locs : List Loc} (h : hw_I D t0 A s L f H locs) : ∀ q, hw_A L H.size q → A q := by
  rintro q (hq | hq)
  · obtain ⟨k, hk⟩ := hw_pl_get (L := L) (f := f) (a := q) ⟨hq, rfl⟩
    exact h.2.1.2 k _ hk
  · exact h.2.2.2.1 q (Nat.le_trans h.2.2.1.1 hq)
/-- a world that is like another on its cells -/
theorem hw_I.congr {D : va_G} {t0 : Nat} {A : Nat → Prop} {s : State} {L : List Nat} {f f' : Nat → va_E} {H : Heap} {locs : List Loc} (h : hw_I D t0 A s L f H locs) (he : ∀ a, a ∈ L → f a = f' a) : hw_I D t0 A s L f' H locs := by
  have : va_pl L f = va_pl L f' := by
    unfold va_pl
    exact List.map_congr_left (fun a ha => by rw [he a ha])
  unfold hw_I
  rw [← this]
  exact h
section HW
variable {p : Program} {l : Launch} {e : Env} {R : Room} {s : State} {m : MethodId} {args : Array Value} {below : List Frame} {meth : Method} {c : Code} {H : Heap} {locs : List Loc} {cells slots : Nat} {Q : State → Prop}
variable {cc : ByteArray} {pc : Nat} {ls : Array Slot} {rest : List Value} {D : va_G} {t0 : Nat} {A : Nat → Prop} {a : Nat} {L : List Nat} {f : Nat → va_E}
theorem hw_get (hexec : p.tables.exec = Jvm.exec) (hb : c.code = cc) {own ref C : String} {T : u_T} {N ci index : Nat} {Ts : List Cond} (hts : ∀ w ∈ Ts, w.before args s = true) (hin : ∀ w ∈ u_ws C T N, w ∈ Ts) (hown : s.vm.findClass own = some m.cls) (hI : hw_I D t0 A s L f H locs) {fs : List Value} (he : hw_c L f a (.inr (ci, fs))) (hc : classes[ci]? = some (C, T, N)) (k : Nat) (hk : k < N) (hlink : (Cond.fieldLink own index ref (T k).2.1 (T k).2.2.1).before args s = true) (hsame : ∀ x, s.fieldFound? (T k).1 (T k).2.1 (T k).2.2.1 = some x → s.fieldFound? ref (T k).2.1 (T k).2.2.1 = some x) {v : Value} (hv : fs[k]? = some v) (hdg : decode cc pc = .ok (.getfield index, 3))
    (kk : W p l e R s m args below meth c H locs cells slots Q (F0 m (pc + 3) ls (v :: rest))) : W p l e R s m args below meth c H locs cells slots Q (F0 m pc ls (.ref a :: rest)) := by
  obtain ⟨q0, hq⟩ := hw_pl_get he
  exact va_get hexec hb hts hin hown hI.2.2.2.2.1 hI.1 q0 hq hc k hk hlink hsame hv hdg kk
theorem hw_getN (hexec : p.tables.exec = Jvm.exec) (hb : c.code = cc) {own ref C host : String} {T : u_T} {N ci index : Nat} {Ts : List Cond} (hts : ∀ w ∈ Ts, w.before args s = true) (hin : ∀ w ∈ u_ws C T N, w ∈ Ts) (hown : s.vm.findClass own = some m.cls) (hI : hw_I D t0 A s L f H locs) {fs : List Value} (he : hw_c L f a (.inr (ci, fs))) (hc : classes[ci]? = some (C, T, N)) (k : Nat) (hk : k < N) (hlink : (Cond.fieldLinkNest own index ref (T k).2.1 (T k).2.2.1 host).before args s = true) (hsame : ∀ x, s.fieldFound? (T k).1 (T k).2.1 (T k).2.2.1 = some x → s.fieldFound? ref (T k).2.1 (T k).2.2.1 = some x) {v : Value} (hv : fs[k]? = some v) (hdg : decode cc pc = .ok (.getfield index, 3))
    (kk : W p l e R s m args below meth c H locs cells slots Q (F0 m (pc + 3) ls (v :: rest))) : W p l e R s m args below meth c H locs cells slots Q (F0 m pc ls (.ref a :: rest)) := by
  obtain ⟨q0, hq⟩ := hw_pl_get he
  exact va_getN hexec hb hts hin hown hI.2.2.2.2.1 hI.1 q0 hq hc k hk hlink hsame hv hdg kk
theorem hw_put (hexec : p.tables.exec = Jvm.exec) (hb : c.code = cc) {own ref C : String} {T : u_T} {N ci index : Nat} {Ts : List Cond} (hts : ∀ w ∈ Ts, w.before args s = true) (hin : ∀ w ∈ u_ws C T N, w ∈ Ts) (ty0 : Nat → FieldType) (hty : ∀ k, k < N → parseFieldDescriptor (T k).2.2.1 = some (ty0 k)) (hnm : ∀ a, a < N → ∀ b, b < N → a ≠ b → (T a).2.1 ≠ (T b).2.1) (hown : s.vm.findClass own = some m.cls) (hI : hw_I D t0 A s L f H locs) {fs : List Value} (he : hw_c L f a (.inr (ci, fs))) (hc : classes[ci]? = some (C, T, N)) (k : Nat) (hk : k < N) (hlink : (Cond.fieldLink own index ref (T k).2.1 (T k).2.2.1).before args s = true) (hsame : ∀ x, s.fieldFound? (T k).1 (T k).2.1 (T k).2.2.1 = some x → s.fieldFound? ref (T k).2.1 (T k).2.2.1 = some x) (hfin : (T k).2.2.2 = false) {ty : FieldType} {v : Value} (hd : parseFieldDescriptor (T k).2.2.1 = some ty) (hn : narrow ty v = v) (hfit : fits ty v = true) (hl : k < fs.length)
    (hdg : decode cc pc = .ok (.putfield index, 3)) (kk : ∀ (H1 : Heap) (locs1 : List Loc), hw_I D t0 A s L (va_up f a (.inr (ci, fs.set k v))) H1 locs1 → W p l e R s m args below meth c H1 locs1 cells slots Q (F0 m (pc + 3) ls rest)) : W p l e R s m args below meth c H locs cells slots Q (F0 m pc ls (v :: .ref a :: rest)) := by
  obtain ⟨q0, hq⟩ := hw_pl_get he
  refine va_put hexec hb hts hin ty0 hty hnm hown hI.2.2.2.2.1 hI.1 hI.2.1 hI.2.2.1 q0 hq hc k hk hlink hsame hfin hd hn hfit hl hdg (fun H1 locs1 h1 h2 h3 => ?_)
  rw [hw_pl_set hI.2.1 he hq] at h1 h2
  exact kk H1 locs1 (hI.mk h1 h2 h3)
theorem hw_putF (hexec : p.tables.exec = Jvm.exec) (hb : c.code = cc) {own ref C : String} {T : u_T} {N ci index : Nat} {Ts : List Cond} (hts : ∀ w ∈ Ts, w.before args s = true) (hin : ∀ w ∈ u_ws C T N, w ∈ Ts) (ty0 : Nat → FieldType) (hty : ∀ k, k < N → parseFieldDescriptor (T k).2.2.1 = some (ty0 k)) (hnm : ∀ a, a < N → ∀ b, b < N → a ≠ b → (T a).2.1 ≠ (T b).2.1) (hown : s.vm.findClass own = some m.cls) (hI : hw_I D t0 A s L f H locs) {fs : List Value} (he : hw_c L f a (.inr (ci, fs))) (hc : classes[ci]? = some (C, T, N)) (k : Nat) (hk : k < N) (hlink : (Cond.fieldLink own index ref (T k).2.1 (T k).2.2.1).before args s = true) (hsame : ∀ x, s.fieldFound? (T k).1 (T k).2.1 (T k).2.2.1 = some x → s.fieldFound? ref (T k).2.1 (T k).2.2.1 = some x) (hfin : (T k).2.2.2 = true) (hin2 : meth.name = "<init>") (hdecl : (T k).1 = own) {ty : FieldType} {v : Value} (hd : parseFieldDescriptor (T k).2.2.1 = some ty) (hn : narrow ty v = v) (hfit : fits ty v = true) (hl : k < fs.length)
    (hdg : decode cc pc = .ok (.putfield index, 3)) (kk : ∀ (H1 : Heap) (locs1 : List Loc), hw_I D t0 A s L (va_up f a (.inr (ci, fs.set k v))) H1 locs1 → W p l e R s m args below meth c H1 locs1 cells slots Q (F0 m (pc + 3) ls rest)) : W p l e R s m args below meth c H locs cells slots Q (F0 m pc ls (v :: .ref a :: rest)) := by
  obtain ⟨q0, hq⟩ := hw_pl_get he
  refine va_putF hexec hb hts hin ty0 hty hnm hown hI.2.2.2.2.1 hI.1 hI.2.1 hI.2.2.1 q0 hq hc k hk hlink hsame hfin hin2 hdecl hd hn hfit hl hdg (fun H1 locs1 h1 h2 h3 => ?_)
  rw [hw_pl_set hI.2.1 he hq] at h1 h2
  exact kk H1 locs1 (hI.mk h1 h2 h3)
theorem hw_putN (hexec : p.tables.exec = Jvm.exec) (hb : c.code = cc) {own ref C host : String} {T : u_T} {N ci index : Nat} {Ts : List Cond} (hts : ∀ w ∈ Ts, w.before args s = true) (hin : ∀ w ∈ u_ws C T N, w ∈ Ts) (ty0 : Nat → FieldType) (hty : ∀ k, k < N → parseFieldDescriptor (T k).2.2.1 = some (ty0 k)) (hnm : ∀ a, a < N → ∀ b, b < N → a ≠ b → (T a).2.1 ≠ (T b).2.1) (hown : s.vm.findClass own = some m.cls) (hI : hw_I D t0 A s L f H locs) {fs : List Value} (he : hw_c L f a (.inr (ci, fs))) (hc : classes[ci]? = some (C, T, N)) (k : Nat) (hk : k < N) (hlink : (Cond.fieldLinkNest own index ref (T k).2.1 (T k).2.2.1 host).before args s = true) (hsame : ∀ x, s.fieldFound? (T k).1 (T k).2.1 (T k).2.2.1 = some x → s.fieldFound? ref (T k).2.1 (T k).2.2.1 = some x) (hfin : (T k).2.2.2 = false) {ty : FieldType} {v : Value} (hd : parseFieldDescriptor (T k).2.2.1 = some ty) (hn : narrow ty v = v) (hfit : fits ty v = true) (hl : k < fs.length)
    (hdg : decode cc pc = .ok (.putfield index, 3)) (kk : ∀ (H1 : Heap) (locs1 : List Loc), hw_I D t0 A s L (va_up f a (.inr (ci, fs.set k v))) H1 locs1 → W p l e R s m args below meth c H1 locs1 cells slots Q (F0 m (pc + 3) ls rest)) : W p l e R s m args below meth c H locs cells slots Q (F0 m pc ls (v :: .ref a :: rest)) := by
  obtain ⟨q0, hq⟩ := hw_pl_get he
  refine va_putN hexec hb hts hin ty0 hty hnm hown hI.2.2.2.2.1 hI.1 hI.2.1 hI.2.2.1 q0 hq hc k hk hlink hsame hfin hd hn hfit hl hdg (fun H1 locs1 h1 h2 h3 => ?_)
  rw [hw_pl_set hI.2.1 he hq] at h1 h2
  exact kk H1 locs1 (hI.mk h1 h2 h3)
theorem hw_lald (hexec : p.tables.exec = Jvm.exec) (hb : c.code = cc) (hI : hw_I D t0 A s L f H locs) (k0 : Nat) {cA : ClassId} {n : Nat} {h : Nat → Int64} (ha : hw_c L f a (.inl (cA, n, .inr (.inl h)))) (ht : (tyD D)[k0]? = some (cA, .long)) {i : Int32} (hin : vp_in i n) (hdg : decode cc pc = .ok (.laload, 1))
    (kk : W p l e R s m args below meth c H locs cells slots Q (F0 m (pc + 1) ls (.long (h i.toNatClampNeg) :: rest))) : W p l e R s m args below meth c H locs cells slots Q (F0 m pc ls (.int i :: .ref a :: rest)) := by
  obtain ⟨q0, hq⟩ := hw_pl_get ha
  exact va_lald hexec hb hI.2.2.2.2.1 hI.1 q0 k0 hq ht hin hdg kk
theorem hw_iald (hexec : p.tables.exec = Jvm.exec) (hb : c.code = cc) (hI : hw_I D t0 A s L f H locs) (k0 : Nat) {cA : ClassId} {n : Nat} {h : Nat → Int32} (ha : hw_c L f a (.inl (cA, n, .inl h))) (ht : (tyD D)[k0]? = some (cA, .int)) {i : Int32} (hin : vp_in i n) (hdg : decode cc pc = .ok (.iaload, 1))
    (kk : W p l e R s m args below meth c H locs cells slots Q (F0 m (pc + 1) ls (.int (h i.toNatClampNeg) :: rest))) : W p l e R s m args below meth c H locs cells slots Q (F0 m pc ls (.int i :: .ref a :: rest)) := by
  obtain ⟨q0, hq⟩ := hw_pl_get ha
  exact va_iald hexec hb hI.2.2.2.2.1 hI.1 q0 k0 hq ht hin hdg kk
theorem hw_aald (hexec : p.tables.exec = Jvm.exec) (hb : c.code = cc) (hI : hw_I D t0 A s L f H locs) (k0 : Nat) {cA : ClassId} {C : String} {n : Nat} {h : Nat → Option Nat} (ha : hw_c L f a (.inl (cA, n, .inr (.inr (.inr (.inr h)))))) (ht : (tyD D)[k0]? = some (cA, .object C)) {i : Int32} {x : Nat} (hin : vp_in i n) (hv : h i.toNatClampNeg = some x) (hdg : decode cc pc = .ok (.aaload, 1))
    (kk : W p l e R s m args below meth c H locs cells slots Q (F0 m (pc + 1) ls (.ref x :: rest))) : W p l e R s m args below meth c H locs cells slots Q (F0 m pc ls (.int i :: .ref a :: rest)) := by
  obtain ⟨q0, hq⟩ := hw_pl_get ha
  refine va_aldq hexec hb hI.2.2.2.2.1 hI.1 q0 k0 hq ht hin hdg ?_
  rw [hv]
  exact kk
theorem hw_last (hexec : p.tables.exec = Jvm.exec) (hb : c.code = cc) (hI : hw_I D t0 A s L f H locs) (k0 : Nat) {cA : ClassId} {n : Nat} {h : Nat → Int64} (ha : hw_c L f a (.inl (cA, n, .inr (.inl h)))) (ht : (tyD D)[k0]? = some (cA, .long)) {i : Int32} {x : Int64} (hin : vp_in i n) (hdg : decode cc pc = .ok (.lastore, 1))
    (kk : ∀ (H1 : Heap) (locs1 : List Loc), hw_I D t0 A s L (va_up f a (.inl (cA, n, .inr (.inl (vp_updL h i.toNatClampNeg x))))) H1 locs1 → W p l e R s m args below meth c H1 locs1 cells slots Q (F0 m (pc + 1) ls rest)) : W p l e R s m args below meth c H locs cells slots Q (F0 m pc ls (.long x :: .int i :: .ref a :: rest)) := by
  obtain ⟨q0, hq⟩ := hw_pl_get ha
  refine va_last hexec hb hI.2.2.2.2.1 hI.1 hI.2.1 hI.2.2.1 q0 k0 hq ht hin hdg (fun H1 locs1 h1 h2 h3 => ?_)
  rw [hw_pl_set hI.2.1 ha hq] at h1 h2
  exact kk H1 locs1 (hI.mk h1 h2 h3)
theorem hw_iast (hexec : p.tables.exec = Jvm.exec) (hb : c.code = cc) (hI : hw_I D t0 A s L f H locs) (k0 : Nat) {cA : ClassId} {n : Nat} {h : Nat → Int32} (ha : hw_c L f a (.inl (cA, n, .inl h))) (ht : (tyD D)[k0]? = some (cA, .int)) {i : Int32} {x : Int32} (hin : vp_in i n) (hdg : decode cc pc = .ok (.iastore, 1))
    (kk : ∀ (H1 : Heap) (locs1 : List Loc), hw_I D t0 A s L (va_up f a (.inl (cA, n, .inl (upd h i.toNatClampNeg x)))) H1 locs1 → W p l e R s m args below meth c H1 locs1 cells slots Q (F0 m (pc + 1) ls rest)) : W p l e R s m args below meth c H locs cells slots Q (F0 m pc ls (.int x :: .int i :: .ref a :: rest)) := by
  obtain ⟨q0, hq⟩ := hw_pl_get ha
  refine va_iast hexec hb hI.2.2.2.2.1 hI.1 hI.2.1 hI.2.2.1 q0 k0 hq ht hin hdg (fun H1 locs1 h1 h2 h3 => ?_)
  rw [hw_pl_set hI.2.1 ha hq] at h1 h2
  exact kk H1 locs1 (hI.mk h1 h2 h3)
theorem hw_copyl (hexec : p.tables.exec = Jvm.exec) (hb : c.code = cc) (hml : c.maxLocals = ls.size) {own : String} {index : Nat} (hown : s.vm.findClass own = some m.cls) (hlink : (Cond.methodLink own index arraycopyName).before args s = true) (hnat : (Cond.native arraycopyName).before args s = true) (hstat : (Cond.static arraycopyName).before args s = true) (hini : (Cond.initialized "java/lang/System").before args s = true)
    (hI : hw_I D t0 A s L f H locs) (k0 k1 : Nat) {a0 : Nat} {c0 c1 : ClassId} {n0 n1 : Nat} {h0 h1 : Nat → Int64} (ha0 : hw_c L f a0 (.inl (c0, n0, .inr (.inl h0)))) (ha1 : hw_c L f a (.inl (c1, n1, .inr (.inl h1)))) (ht0 : (tyD D)[k0]? = some (c0, .long)) (ht1 : (tyD D)[k1]? = some (c1, .long))
    {sp dp n : Int32} (g1 : ¬ sp < 0) (g2 : ¬ dp < 0) (g3 : ¬ n < 0) (g4 : sp.toNatClampNeg + n.toNatClampNeg ≤ n0) (g5 : dp.toNatClampNeg + n.toNatClampNeg ≤ n1)
    (hframes : 1 ≤ R.frames) (hlocals : (rest.map fun v => v.category).sum + (nativeFrameWords "java/lang/System" "arraycopy" 5 + 11) ≤ R.locals) (hdg : decode cc pc = .ok (.invokestatic index, 3))
    (kk : ∀ (H1 : Heap) (locs1 : List Loc), hw_I D t0 A s L (va_up f a (.inl (c1, n1, .inr (.inl (va_cpy h0 h1 sp.toNatClampNeg dp.toNatClampNeg n.toNatClampNeg))))) H1 locs1 → W p l e R s m args below meth c H1 locs1 cells slots Q (F0 m (pc + 3) ls rest)) : W p l e R s m args below meth c H locs cells slots Q (F0 m pc ls (.int n :: .int dp :: .ref a :: .int sp :: .ref a0 :: rest)) := by
  obtain ⟨q0, hq0⟩ := hw_pl_get ha0
  obtain ⟨q1, hq1⟩ := hw_pl_get ha1
  refine va_copyl hexec hb hml hown hlink hnat hstat hini hI.2.2.2.2.1 hI.1 hI.2.1 hI.2.2.1 q0 q1 k0 k1 hq0 hq1 ht0 ht1 rfl g1 g2 g3 g4 g5 (fun i _ => rfl) hframes hlocals hdg (fun H1 locs1 h1 h2 h3 => ?_)
  rw [hw_pl_set hI.2.1 ha1 hq1] at h1 h2
  exact kk H1 locs1 (hI.mk h1 h2 h3)
theorem hw_recv (hI : hw_I D t0 A s L f H locs) {ci : Nat} {q : vw_C} {fs : List Value} (hc : classes[ci]? = some q) (he : hw_c L f a (.inr (ci, fs))) : ∃ cell : Cell, H[a]? = some cell ∧ cell.vm.isStatics = false ∧ s.vm.findClass q.1 = some cell.cls := by
  obtain ⟨q0, hq⟩ := hw_pl_get he
  exact va_recv hI.2.2.2.2.1 hI.1 hc hq
end HW
/-! ends of methods, calls -/
def hw_Pc (t0 : Nat) (av : List Value) (D : va_G) (L : List Nat) (f : Nat → va_E) (sz : Nat) : Array Value → State → Prop :=
  va_Pc av (fun U => U.heap.size = sz ∧ va_P D classes (va_pl L f) U.heap ∧ va_K D classes (tyD D) U ∧ va_D (fun _ => True) (va_pl L f) ∧ XK t0 (hw_A L sz) U U.heap)
def hw_Q (D : va_G) (L : List Nat) (sz : Nat) (post : Outcome → List Nat → (Nat → va_E) → Prop) : Array Value → State → Outcome → State → Prop := fun _ st oc t =>
  (∃ (L' : List Nat) (f' : Nat → va_E), post oc L' f' ∧ va_P D classes (va_pl L' f') t.heap ∧ va_D (hw_A L sz) (va_pl L' f')) ∧ va_F (hw_A L sz) st t
def hw_X (D : va_G) (L : List Nat) (sz : Nat) (px : String → List Nat → (Nat → va_E) → Prop) : String → State → State → Prop := fun E st t =>
  (∃ (L' : List Nat) (f' : Nat → va_E), px E L' f' ∧ va_P D classes (va_pl L' f') t.heap ∧ va_D (hw_A L sz) (va_pl L' f')) ∧ va_F (hw_A L sz) st t
theorem hw_blind {t0 : Nat} {av : List Value} {D : va_G} {L : List Nat} {f : Nat → va_E} {sz : Nat} : FrameBlind (hw_Pc t0 av D L f sz) := by
  rintro a U g mk ⟨h1, h2, h3, h4, h5, h6⟩
  exact ⟨h1, h2, h3, va_K.moved (u := U) (U := U.calling g mk a) (Vm.Alike.refl U.vm) h4, h5, h6.warm (U := U.calling g mk a) (State.WarmedH.refl U)⟩
theorem hw_start {t0 : Nat} {av : List Value} {D : va_G} {L : List Nat} {f : Nat → va_E} {sz : Nat} {args : Array Value} {s : State} (h : hw_Pc t0 av D L f sz args s) : args = av.toArray ∧ s.heap.size = sz ∧ hw_I D t0 (hw_A L sz) s L f s.heap [] := by
  obtain ⟨h1, h2, h3, h4, h5, h6⟩ := h
  exact ⟨h1, h2, h3, ⟨h5.1, fun k q hk => Or.inl (hw_pl_mem hk)⟩, va_S.rf, fun q hq => Or.inr (by omega), h4, h6⟩
theorem hw_pre {D : va_G} {t0 : Nat} {A : Nat → Prop} {s : State} {L : List Nat} {f : Nat → va_E} {H : Heap} {locs : List Loc} (hI : hw_I D t0 A s L f H locs) (av : List Value) : ∀ U : State, U.heap = H → s.WarmedH U.vm → hw_Pc t0 av D L f H.size av.toArray U := by
  intro U hU hw
  refine ⟨rfl, by rw [hU], by rw [hU]; exact hI.1, va_K.moved hw.alike hI.2.2.2.2.1, hI.2.1.weaken (fun _ _ _ _ => trivial), ?_⟩
  have h := ((hI.2.2.2.2.2.kept hI.2.2.1.2.1).warm hw).narrow hI.inA
  rw [hU]
  exact h
/-- behind a call -/
theorem hw_back {D : va_G} {t0 : Nat} {A : Nat → Prop} {s : State} {L L' : List Nat} {f f' : Nat → va_E} {H : Heap} {locs L2 : List Loc} {st₀ t T' : State} (hI : hw_I D t0 A s L f H locs) (h0 : st₀.heap = H) (e1 : T'.heap = t.heap) (hL : ∀ q ∈ L2, hw_A L H.size q.base) (hP' : va_P D classes (va_pl L' f') t.heap) (hD' : va_D (hw_A L H.size) (va_pl L' f')) (hF : va_F (hw_A L H.size) st₀ t) : hw_I D t0 A s L' f' T'.heap (locs ++ L2) := by
  obtain ⟨hz, hk⟩ := hF
  rw [h0] at hz hk
  refine ⟨by rw [e1]; exact hP', hD'.weaken (fun _ q _ h => hI.inA q.1 h), ⟨Nat.le_trans hI.2.2.1.1 (by rw [e1]; exact hz), fun q h1 h2 => ?_, fun q hq => ?_⟩, hI.2.2.2⟩
  · rw [e1, hk q (Nat.lt_of_lt_of_le h1 hI.2.2.1.1) (fun z => h2 (hI.inA q z))]
    exact hI.2.2.1.2.1 q h1 h2
  · rcases List.mem_append.mp hq with h | h
    · exact hI.2.2.1.2.2 q h
    · exact hI.inA _ (hL q h)
theorem hw_cb {R : Room} {s : State} {args : Array Value} {own : String} {index : Nat} {y : MethodName} {bytes : ByteArray} {maxL : Nat} {ret : Option FieldType} {rm : Room} {n : Nat} (hT : ∀ w ∈ TT, w.before args s = true) (hm : hw_mB y bytes maxL ret n) (hl : Cond.methodLink own index y ∈ TT) (hR : rm.frames + 1 ≤ R.frames ∧ 8 + (maxL + 11) + rm.locals ≤ R.locals) : CallB R s args own index y bytes maxL ret (Cond.code y bytes maxL ret :: TT) rm rm.cells rm.slots n := by
  obtain ⟨h1, h2, h3, h4, h5⟩ := hm
  refine ⟨rfl, rfl, hR.1, hR.2, fun w hw a' U hW => ?_, List.mem_cons_self, hT _ h1, hT _ h2, ⟨h3, h4⟩, fun sig h => ?_, hT _ hl⟩
  · have hw2 : w ∈ TT := (List.mem_cons.mp hw).elim (fun e => by rw [e]; exact h1) id
    exact word_at hW (TT_good w hw2) (hT w hw2)
  · rw [h] at h5
    exact (Option.some.inj h5).symm
section HC
variable {p : Program} {l : Launch} {e : Env} {R : Room} {s : State} {m : MethodId} {args : Array Value} {below : List Frame} {meth : Method} {c : Code} {H : Heap} {locs : List Loc} {cells slots : Nat} {Q : State → Prop}
variable {cc : ByteArray} {pc : Nat} {ls : Array Slot} {rest st0 : List Value} {D : va_G} {t0 : Nat} {A : Nat → Prop} {L : List Nat} {f : Nat → va_E} {post : Outcome → List Nat → (Nat → va_E) → Prop} {px : String → List Nat → (Nat → va_E) → Prop} {a : Array Value}
theorem hw_run {mc ms : Nat} (hI : hw_I D t0 A s L f H locs) (hr : va_Run p l e R s m args below meth c H locs cells slots mc ms (F0 m pc ls st0) rest (hw_Q D L H.size post a) (hw_A L H.size))
    (kr : ∀ (v : Option Value) (L' : List Nat) (f' : Nat → va_E) (H' : Heap) (locs' : List Loc), post (.returned v) L' f' → hw_I D t0 A s L' f' H' locs' → W p l e R s m args below meth c H' locs' (cells + mc) (slots + ms) Q (F0 m (pc + 3) ls (v.toList ++ rest))) :
    W p l e R s m args below meth c H locs cells slots Q (F0 m pc ls st0) := by
  intro T hT X
  obtain ⟨v, st₀, t, T', L2, h0, X', hL, e1, e2, ⟨⟨L', f', hp, hP', hD'⟩, hF⟩, st⟩ := hr T hT X
  obtain ⟨t2, a1, b1⟩ := kr v L' f' T'.heap (locs ++ L2) hp (hw_back hI h0 e1 hL hP' hD' hF) T' rfl X'
  exact ⟨t2, st t2 a1, b1⟩
theorem hw_xrun {mc ms : Nat} (hI : hw_I D t0 A s L f H locs) (hr : vx_Run p l e R s m args below meth c H locs cells slots mc ms (F0 m pc ls st0) rest (hw_Q D L H.size post a) (hw_X D L H.size px) (hw_A L H.size))
    (kr : ∀ (v : Option Value) (L' : List Nat) (f' : Nat → va_E) (H' : Heap) (locs' : List Loc), post (.returned v) L' f' → hw_I D t0 A s L' f' H' locs' → W p l e R s m args below meth c H' locs' (cells + mc) (slots + ms) Q (F0 m (pc + 3) ls (v.toList ++ rest)))
    (kx : ∀ (E : String) (ce : Cell) (q9 : Addr) (L' : List Nat) (f' : Nat → va_E) (H' : Heap) (locs' : List Loc), px E L' f' → hw_I D t0 A s L' f' H' locs' → H'[q9]? = some ce → ce.vm = .none → s.vm.findClass E = some ce.cls → vx_W p l e R s m args below meth c H' locs' (cells + mc) (slots + ms) Q (F0 m pc ls rest) q9) :
    W p l e R s m args below meth c H locs cells slots Q (F0 m pc ls st0) := by
  intro T hT X
  rcases hr T hT X with ⟨v, st₀, t, T', L2, h0, X', hL, e1, e2, ⟨⟨L', f', hp, hP', hD'⟩, hF⟩, st⟩ | ⟨q, st₀, t, T', L2, E, ce, h0, X', hL, e1, e2, ⟨⟨L', f', hp, hP', hD'⟩, hF⟩, hce, hcv, hcl, st⟩
  · obtain ⟨t2, a1, b1⟩ := kr v L' f' T'.heap (locs ++ L2) hp (hw_back hI h0 e1 hL hP' hD' hF) T' rfl X'
    exact ⟨t2, st t2 a1, b1⟩
  · obtain ⟨t2, a1, b1⟩ := kx E ce q L' f' T'.heap (locs ++ L2) hp (hw_back hI h0 e1 hL hP' hD' hF) (by rw [e1]; exact hce) hcv hcl T' rfl X'
    exact ⟨t2, st.trans a1, b1⟩
variable {own : String} {nL index maxL n ci N b : Nat} {y : MethodName} {bytes : ByteArray} {ret : Option FieldType} {rm : Room} {As : List Value} {fs : List Value} {T : u_T}
/-- a call of an instance method -/
theorem hw_cV (S : CallFix p m c cc nL s args TT own) (hI : hw_I D t0 A s L f H locs) (hm : hw_mV y bytes maxL ret n) (hl : Cond.methodLink own index y ∈ TT)
    (hM : Met l y (Cond.code y bytes maxL ret :: TT) rm (hw_Pc t0 (.ref b :: As) D L f H.size) (hw_Q D L H.size post) rm.cells rm.slots (hw_A L H.size)) (hb : hw_c L f b (.inr (ci, fs))) (hci : classes[ci]? = some (y.cls, T, N)) (hls : ls.size = nL) (hn : As.length = n) (hst : st0 = As.reverse ++ .ref b :: rest) (hW : (rest.map fun v => v.category).sum ≤ 8)
    (hdg : decode cc pc = .ok (.invokevirtual index, 3)) (hR : rm.frames + 1 ≤ R.frames ∧ 8 + (maxL + 11) + rm.locals ≤ R.locals) (hf : cells + rm.cells ≤ R.cells ∧ slots + rm.slots ≤ R.slots)
    (kr : ∀ (v : Option Value) (L' : List Nat) (f' : Nat → va_E) (H' : Heap) (locs' : List Loc), post (.returned v) L' f' → hw_I D t0 A s L' f' H' locs' → W p l e R s m args below meth c H' locs' (cells + rm.cells) (slots + rm.slots) Q (F0 m (pc + 3) ls (v.toList ++ rest))) :
    W p l e R s m args below meth c H locs cells slots Q (F0 m pc ls st0) :=
  hw_run hI (va_runV (As := As) (rest := rest) S hM ⟨hw_cb S.2.2.2.2 hm.1 hl hR, S.2.2.2.2 _ hm.2.1, S.2.2.2.2 _ hm.2.2⟩ ⟨hw_blind, hw_recv hI hci hb, hw_pre hI _⟩ rfl hn hls hst (lv_room hW) hdg hf) kr
theorem hw_cVN (S : CallFix p m c cc nL s args TT own) (hI : hw_I D t0 A s L f H locs) (hm : hw_mV y bytes maxL ret n) (hl : (own, index, y) ∈ NM)
    (hM : Met l y (Cond.code y bytes maxL ret :: TT) rm (hw_Pc t0 (.ref b :: As) D L f H.size) (hw_Q D L H.size post) rm.cells rm.slots (hw_A L H.size)) (hb : hw_c L f b (.inr (ci, fs))) (hci : classes[ci]? = some (y.cls, T, N)) (hls : ls.size = nL) (hn : As.length = n) (hst : st0 = As.reverse ++ .ref b :: rest) (hW : (rest.map fun v => v.category).sum ≤ 8)
    (hdg : decode cc pc = .ok (.invokevirtual index, 3)) (hR : rm.frames + 1 ≤ R.frames ∧ 8 + (maxL + 11) + rm.locals ≤ R.locals) (hf : cells + rm.cells ≤ R.cells ∧ slots + rm.slots ≤ R.slots)
    (kr : ∀ (v : Option Value) (L' : List Nat) (f' : Nat → va_E) (H' : Heap) (locs' : List Loc), post (.returned v) L' f' → hw_I D t0 A s L' f' H' locs' → W p l e R s m args below meth c H' locs' (cells + rm.cells) (slots + rm.slots) Q (F0 m (pc + 3) ls (v.toList ++ rest))) :
    W p l e R s m args below meth c H locs cells slots Q (F0 m pc ls st0) := by
  have hT := S.2.2.2.2
  obtain ⟨⟨h1, h2, h3, h4, h5⟩, h6, h7⟩ := hm
  refine hw_run hI (va_runVN (host := "WallFractions") (As := As) (rest := rest) S hM ⟨⟨⟨rfl, rfl, hR.1, hR.2, fun w hw a' U hW => ?_, List.mem_cons_self⟩, hT _ h1, hT _ h2, ⟨h3, h4⟩, fun sig h => ?_, va_Nw.use rfl (hI.2.2.2.2.2.2.1 _ hl)⟩, hT _ h6, hT _ h7⟩ ⟨hw_blind, hw_recv hI hci hb, hw_pre hI _⟩ rfl hn hls hst (lv_room hW) hdg hf) kr
  · have hw2 : w ∈ TT := (List.mem_cons.mp hw).elim (fun e => by rw [e]; exact h1) id
    exact word_at hW (TT_good w hw2) (hT w hw2)
  · rw [h] at h5
    exact (Option.some.inj h5).symm
theorem hw_cS (S : CallFix p m c cc nL s args TT own) (hI : hw_I D t0 A s L f H locs) (hm : hw_mS y bytes maxL ret n) (hl : Cond.methodLink own index y ∈ TT)
    (hM : Met l y (Cond.code y bytes maxL ret :: TT) rm (hw_Pc t0 As D L f H.size) (hw_Q D L H.size post) rm.cells rm.slots (hw_A L H.size)) (hls : ls.size = nL) (hn : As.length = n) (hst : st0 = As.reverse ++ rest) (hW : (rest.map fun v => v.category).sum ≤ 8)
    (hdg : decode cc pc = .ok (.invokestatic index, 3)) (hR : rm.frames + 1 ≤ R.frames ∧ 8 + (maxL + 11) + rm.locals ≤ R.locals) (hf : cells + rm.cells ≤ R.cells ∧ slots + rm.slots ≤ R.slots)
    (kr : ∀ (v : Option Value) (L' : List Nat) (f' : Nat → va_E) (H' : Heap) (locs' : List Loc), post (.returned v) L' f' → hw_I D t0 A s L' f' H' locs' → W p l e R s m args below meth c H' locs' (cells + rm.cells) (slots + rm.slots) Q (F0 m (pc + 3) ls (v.toList ++ rest))) :
    W p l e R s m args below meth c H locs cells slots Q (F0 m pc ls st0) :=
  hw_run hI (va_runS (As := As) (rest := rest) S hM ⟨hw_cb S.2.2.2.2 hm.1 hl hR, S.2.2.2.2 _ hm.2⟩ ⟨hw_blind, hw_pre hI _⟩ rfl hn hls hst (lv_room hW) hdg hf) kr
theorem hw_cI (S : CallFix p m c cc nL s args TT own) (hI : hw_I D t0 A s L f H locs) (hm : hw_mI y bytes maxL n) (hl : Cond.methodLink own index y ∈ TT)
    (hM : Met l y (Cond.code y bytes maxL none :: TT) rm (hw_Pc t0 (.ref b :: As) D L f H.size) (hw_Q D L H.size post) rm.cells rm.slots (hw_A L H.size)) (hls : ls.size = nL) (hn : As.length = n) (hst : st0 = As.reverse ++ .ref b :: rest) (hW : (rest.map fun v => v.category).sum ≤ 8)
    (hdg : decode cc pc = .ok (.invokespecial index, 3)) (hR : rm.frames + 1 ≤ R.frames ∧ 8 + (maxL + 11) + rm.locals ≤ R.locals) (hf : cells + rm.cells ≤ R.cells ∧ slots + rm.slots ≤ R.slots)
    (kr : ∀ (v : Option Value) (L' : List Nat) (f' : Nat → va_E) (H' : Heap) (locs' : List Loc), post (.returned v) L' f' → hw_I D t0 A s L' f' H' locs' → W p l e R s m args below meth c H' locs' (cells + rm.cells) (slots + rm.slots) Q (F0 m (pc + 3) ls (v.toList ++ rest))) :
    W p l e R s m args below meth c H locs cells slots Q (F0 m pc ls st0) :=
  hw_run hI (va_runI (As := As) (rest := rest) S hM ⟨hw_cb S.2.2.2.2 hm.1 hl hR, hm.2.1, S.2.2.2.2 _ hm.2.2⟩ ⟨hw_blind, hw_pre hI _⟩ rfl hn hls hst (lv_room hW) hdg hf) kr
/-- calls of methods that may throw -/
theorem hw_xV (S : CallFix p m c cc nL s args TT own) (hI : hw_I D t0 A s L f H locs) (hm : hw_mV y bytes maxL ret n) (hl : Cond.methodLink own index y ∈ TT)
    (hM : vx_Met l y (Cond.code y bytes maxL ret :: TT) rm (hw_Pc t0 (.ref b :: As) D L f H.size) (hw_Q D L H.size post) (hw_X D L H.size px) rm.cells rm.slots (hw_A L H.size)) (hb : hw_c L f b (.inr (ci, fs))) (hci : classes[ci]? = some (y.cls, T, N)) (hls : ls.size = nL) (hn : As.length = n) (hst : st0 = As.reverse ++ .ref b :: rest) (hW : (rest.map fun v => v.category).sum ≤ 8)
    (hdg : decode cc pc = .ok (.invokevirtual index, 3)) (hR : rm.frames + 1 ≤ R.frames ∧ 8 + (maxL + 11) + rm.locals ≤ R.locals) (hf : cells + rm.cells ≤ R.cells ∧ slots + rm.slots ≤ R.slots)
    (kr : ∀ (v : Option Value) (L' : List Nat) (f' : Nat → va_E) (H' : Heap) (locs' : List Loc), post (.returned v) L' f' → hw_I D t0 A s L' f' H' locs' → W p l e R s m args below meth c H' locs' (cells + rm.cells) (slots + rm.slots) Q (F0 m (pc + 3) ls (v.toList ++ rest)))
    (kx : ∀ (E : String) (ce : Cell) (q9 : Addr) (L' : List Nat) (f' : Nat → va_E) (H' : Heap) (locs' : List Loc), px E L' f' → hw_I D t0 A s L' f' H' locs' → H'[q9]? = some ce → ce.vm = .none → s.vm.findClass E = some ce.cls → vx_W p l e R s m args below meth c H' locs' (cells + rm.cells) (slots + rm.slots) Q (F0 m pc ls rest) q9) :
    W p l e R s m args below meth c H locs cells slots Q (F0 m pc ls st0) :=
  hw_xrun hI (vx_runV (As := As) (rest := rest) S hM ⟨hw_cb S.2.2.2.2 hm.1 hl hR, S.2.2.2.2 _ hm.2.1, S.2.2.2.2 _ hm.2.2⟩ ⟨hw_blind, hw_recv hI hci hb, hw_pre hI _⟩ rfl hn hls hst (lv_room hW) hdg hf) kr kx
theorem hw_xS (S : CallFix p m c cc nL s args TT own) (hI : hw_I D t0 A s L f H locs) (hm : hw_mS y bytes maxL ret n) (hl : Cond.methodLink own index y ∈ TT)
    (hM : vx_Met l y (Cond.code y bytes maxL ret :: TT) rm (hw_Pc t0 As D L f H.size) (hw_Q D L H.size post) (hw_X D L H.size px) rm.cells rm.slots (hw_A L H.size)) (hls : ls.size = nL) (hn : As.length = n) (hst : st0 = As.reverse ++ rest) (hW : (rest.map fun v => v.category).sum ≤ 8)
    (hdg : decode cc pc = .ok (.invokestatic index, 3)) (hR : rm.frames + 1 ≤ R.frames ∧ 8 + (maxL + 11) + rm.locals ≤ R.locals) (hf : cells + rm.cells ≤ R.cells ∧ slots + rm.slots ≤ R.slots)
    (kr : ∀ (v : Option Value) (L' : List Nat) (f' : Nat → va_E) (H' : Heap) (locs' : List Loc), post (.returned v) L' f' → hw_I D t0 A s L' f' H' locs' → W p l e R s m args below meth c H' locs' (cells + rm.cells) (slots + rm.slots) Q (F0 m (pc + 3) ls (v.toList ++ rest)))
    (kx : ∀ (E : String) (ce : Cell) (q9 : Addr) (L' : List Nat) (f' : Nat → va_E) (H' : Heap) (locs' : List Loc), px E L' f' → hw_I D t0 A s L' f' H' locs' → H'[q9]? = some ce → ce.vm = .none → s.vm.findClass E = some ce.cls → vx_W p l e R s m args below meth c H' locs' (cells + rm.cells) (slots + rm.slots) Q (F0 m pc ls rest) q9) :
    W p l e R s m args below meth c H locs cells slots Q (F0 m pc ls st0) :=
  hw_xrun hI (vx_runS (As := As) (rest := rest) S hM ⟨hw_cb S.2.2.2.2 hm.1 hl hR, S.2.2.2.2 _ hm.2⟩ ⟨hw_blind, hw_pre hI _⟩ rfl hn hls hst (lv_room hW) hdg hf) kr kx
/-! ends -/
variable {L0 : List Nat} {sz : Nat}
theorem hw_q (hI : hw_I D t0 (hw_A L0 sz) s L f H locs) {oc : Outcome} (hp : post oc L f) : ∀ t : State, t.heap = H → s.WarmedH t.vm → hw_Q D L0 sz post args s oc t := fun t ht _ => ⟨⟨L, f, hp, by rw [ht]; exact hI.1, hI.2.1⟩, hI.2.2.1.F ht⟩
theorem hw_vret (hx : p.tables.exec = Jvm.exec) (hb : c.code = cc) (hr : meth.sig.returnType = none) (hlocks : meth.locks = false) (hI : hw_I D t0 (hw_A L0 sz) s L f H locs) (hdg : decode cc pc = .ok (.return_, 1)) (hp : post (.returned none) L f) : W p l e R s m args below meth c H locs cells slots (MQ below (hw_Q D L0 sz post) args s cells slots (hw_A L0 sz)) (F0 m pc ls []) := W.vret hx hb hr (hw_q hI hp) hI.2.2.1.2.2 hdg hlocks
theorem hw_iret {v : Int32} (hx : p.tables.exec = Jvm.exec) (hb : c.code = cc) (hr : meth.sig.returnType = some .int) (hlocks : meth.locks = false) (hI : hw_I D t0 (hw_A L0 sz) s L f H locs) (hdg : decode cc pc = .ok (.ireturn, 1)) (hp : post (.returned (some (.int v))) L f) : W p l e R s m args below meth c H locs cells slots (MQ below (hw_Q D L0 sz post) args s cells slots (hw_A L0 sz)) (F0 m pc ls [.int v]) := W.iret hx hb hr (hw_q hI hp) hI.2.2.1.2.2 hdg hlocks
theorem hw_lret {v : Int64} (hx : p.tables.exec = Jvm.exec) (hb : c.code = cc) (hr : meth.sig.returnType = some .long) (hlocks : meth.locks = false) (hI : hw_I D t0 (hw_A L0 sz) s L f H locs) (hdg : decode cc pc = .ok (.lreturn, 1)) (hp : post (.returned (some (.long v))) L f) : W p l e R s m args below meth c H locs cells slots (MQ below (hw_Q D L0 sz post) args s cells slots (hw_A L0 sz)) (F0 m pc ls [.long v]) := W.lret hx hb hr (hw_q hI hp) hI.2.2.1.2.2 hdg hlocks
theorem hw_zret {v : Int32} (hx : p.tables.exec = Jvm.exec) (hb : c.code = cc) (hr : meth.sig.returnType = some .boolean) (hlocks : meth.locks = false) (hI : hw_I D t0 (hw_A L0 sz) s L f H locs) (hn : narrow .boolean (.int v) = .int v) (hdg : decode cc pc = .ok (.ireturn, 1)) (hp : post (.returned (some (.int v))) L f) : W p l e R s m args below meth c H locs cells slots (MQ below (hw_Q D L0 sz post) args s cells slots (hw_A L0 sz)) (F0 m pc ls [.int v]) := W.zret hx hb hr hn (hw_q hI hp) hI.2.2.1.2.2 hdg hlocks
end HC
end
section
theorem d_Dv_init_0 : decode b_Dv_init 0 = .ok (.aload_n 0, 1) := by decide +kernel
theorem d_Dv_init_1 : decode b_Dv_init 1 = .ok (.invokespecial 3, 3) := by decide +kernel
theorem d_Dv_init_4 : decode b_Dv_init 4 = .ok (.aload_n 0, 1) := by decide +kernel
theorem d_Dv_init_5 : decode b_Dv_init 5 = .ok (.bipush 42, 2) := by decide +kernel
theorem d_Dv_init_7 : decode b_Dv_init 7 = .ok (.newarray .long, 2) := by decide +kernel
theorem d_Dv_init_9 : decode b_Dv_init 9 = .ok (.putfield 9, 3) := by decide +kernel
theorem d_Dv_init_12 : decode b_Dv_init 12 = .ok (.aload_n 0, 1) := by decide +kernel
theorem d_Dv_init_13 : decode b_Dv_init 13 = .ok (.bipush 42, 2) := by decide +kernel
theorem d_Dv_init_15 : decode b_Dv_init 15 = .ok (.newarray .long, 2) := by decide +kernel
theorem d_Dv_init_17 : decode b_Dv_init 17 = .ok (.putfield 15, 3) := by decide +kernel
theorem d_Dv_init_20 : decode b_Dv_init 20 = .ok (.return_, 1) := by decide +kernel
theorem d_Dv_split_0 : decode b_Dv_split 0 = .ok (.aload_n 2, 1) := by decide +kernel
theorem d_Dv_split_1 : decode b_Dv_split 1 = .ok (.invokevirtual 18, 3) := by decide +kernel
theorem d_Dv_split_4 : decode b_Dv_split 4 = .ok (.ifCond .eq 13, 3) := by decide +kernel
theorem d_Dv_split_7 : decode b_Dv_split 7 = .ok (.new 24, 3) := by decide +kernel
theorem d_Dv_split_10 : decode b_Dv_split 10 = .ok (.dup, 1) := by decide +kernel
theorem d_Dv_split_11 : decode b_Dv_split 11 = .ok (.ldc 26, 2) := by decide +kernel
theorem d_Dv_split_13 : decode b_Dv_split 13 = .ok (.invokespecial 28, 3) := by decide +kernel
theorem d_Dv_split_16 : decode b_Dv_split 16 = .ok (.athrow, 1) := by decide +kernel
theorem d_Dv_split_17 : decode b_Dv_split 17 = .ok (.aload_n 1, 1) := by decide +kernel
theorem d_Dv_split_18 : decode b_Dv_split 18 = .ok (.getfield 31, 3) := by decide +kernel
theorem d_Dv_split_21 : decode b_Dv_split 21 = .ok (.aload_n 2, 1) := by decide +kernel
theorem d_Dv_split_22 : decode b_Dv_split 22 = .ok (.getfield 31, 3) := by decide +kernel
theorem d_Dv_split_25 : decode b_Dv_split 25 = .ok (.if_icmp .ge 17, 3) := by decide +kernel
theorem d_Dv_split_28 : decode b_Dv_split 28 = .ok (.aload 4, 2) := by decide +kernel
theorem d_Dv_split_30 : decode b_Dv_split 30 = .ok (.aload_n 1, 1) := by decide +kernel
theorem d_Dv_split_31 : decode b_Dv_split 31 = .ok (.invokevirtual 35, 3) := by decide +kernel
theorem d_Dv_split_34 : decode b_Dv_split 34 = .ok (.aload_n 3, 1) := by decide +kernel
theorem d_Dv_split_35 : decode b_Dv_split 35 = .ok (.lconst 0, 1) := by decide +kernel
theorem d_Dv_split_36 : decode b_Dv_split 36 = .ok (.invokevirtual 39, 3) := by decide +kernel
theorem d_Dv_split_39 : decode b_Dv_split 39 = .ok (.goto 39, 3) := by decide +kernel
theorem d_Dv_split_42 : decode b_Dv_split 42 = .ok (.aload_n 2, 1) := by decide +kernel
theorem d_Dv_split_43 : decode b_Dv_split 43 = .ok (.getfield 31, 3) := by decide +kernel
theorem d_Dv_split_46 : decode b_Dv_split 46 = .ok (.iconst 1, 1) := by decide +kernel
theorem d_Dv_split_47 : decode b_Dv_split 47 = .ok (.if_icmp .ne 22, 3) := by decide +kernel
theorem d_Dv_split_50 : decode b_Dv_split 50 = .ok (.aload 4, 2) := by decide +kernel
theorem d_Dv_split_52 : decode b_Dv_split 52 = .ok (.aload_n 3, 1) := by decide +kernel
theorem d_Dv_split_53 : decode b_Dv_split 53 = .ok (.aload_n 1, 1) := by decide +kernel
theorem d_Dv_split_54 : decode b_Dv_split 54 = .ok (.aload_n 2, 1) := by decide +kernel
theorem d_Dv_split_55 : decode b_Dv_split 55 = .ok (.getfield 43, 3) := by decide +kernel
theorem d_Dv_split_58 : decode b_Dv_split 58 = .ok (.iconst 0, 1) := by decide +kernel
theorem d_Dv_split_59 : decode b_Dv_split 59 = .ok (.laload, 1) := by decide +kernel
theorem d_Dv_split_60 : decode b_Dv_split 60 = .ok (.invokevirtual 46, 3) := by decide +kernel
theorem d_Dv_split_63 : decode b_Dv_split 63 = .ok (.invokevirtual 39, 3) := by decide +kernel
theorem d_Dv_split_66 : decode b_Dv_split 66 = .ok (.goto 12, 3) := by decide +kernel
theorem d_Dv_split_69 : decode b_Dv_split 69 = .ok (.aload_n 0, 1) := by decide +kernel
theorem d_Dv_split_70 : decode b_Dv_split 70 = .ok (.aload_n 1, 1) := by decide +kernel
theorem d_Dv_split_71 : decode b_Dv_split 71 = .ok (.aload_n 2, 1) := by decide +kernel
theorem d_Dv_split_72 : decode b_Dv_split 72 = .ok (.aload_n 3, 1) := by decide +kernel
theorem d_Dv_split_73 : decode b_Dv_split 73 = .ok (.aload 4, 2) := by decide +kernel
theorem d_Dv_split_75 : decode b_Dv_split 75 = .ok (.invokevirtual 50, 3) := by decide +kernel
theorem d_Dv_split_78 : decode b_Dv_split 78 = .ok (.return_, 1) := by decide +kernel
theorem d_Dv_splitLong_0 : decode b_Dv_splitLong 0 = .ok (.aload_n 2, 1) := by decide +kernel
theorem d_Dv_splitLong_1 : decode b_Dv_splitLong 1 = .ok (.getfield 31, 3) := by decide +kernel
theorem d_Dv_splitLong_4 : decode b_Dv_splitLong 4 = .ok (.istore 5, 2) := by decide +kernel
theorem d_Dv_splitLong_6 : decode b_Dv_splitLong 6 = .ok (.aload_n 1, 1) := by decide +kernel
theorem d_Dv_splitLong_7 : decode b_Dv_splitLong 7 = .ok (.getfield 31, 3) := by decide +kernel
theorem d_Dv_splitLong_10 : decode b_Dv_splitLong 10 = .ok (.iload 5, 2) := by decide +kernel
theorem d_Dv_splitLong_12 : decode b_Dv_splitLong 12 = .ok (.isub, 1) := by decide +kernel
theorem d_Dv_splitLong_13 : decode b_Dv_splitLong 13 = .ok (.istore 6, 2) := by decide +kernel
theorem d_Dv_splitLong_15 : decode b_Dv_splitLong 15 = .ok (.ldc2_w 54, 3) := by decide +kernel
theorem d_Dv_splitLong_18 : decode b_Dv_splitLong 18 = .ok (.aload_n 2, 1) := by decide +kernel
theorem d_Dv_splitLong_19 : decode b_Dv_splitLong 19 = .ok (.getfield 43, 3) := by decide +kernel
theorem d_Dv_splitLong_22 : decode b_Dv_splitLong 22 = .ok (.iload 5, 2) := by decide +kernel
theorem d_Dv_splitLong_24 : decode b_Dv_splitLong 24 = .ok (.iconst 1, 1) := by decide +kernel
theorem d_Dv_splitLong_25 : decode b_Dv_splitLong 25 = .ok (.isub, 1) := by decide +kernel
theorem d_Dv_splitLong_26 : decode b_Dv_splitLong 26 = .ok (.laload, 1) := by decide +kernel
theorem d_Dv_splitLong_27 : decode b_Dv_splitLong 27 = .ok (.lconst 1, 1) := by decide +kernel
theorem d_Dv_splitLong_28 : decode b_Dv_splitLong 28 = .ok (.ladd, 1) := by decide +kernel
theorem d_Dv_splitLong_29 : decode b_Dv_splitLong 29 = .ok (.ldiv, 1) := by decide +kernel
theorem d_Dv_splitLong_30 : decode b_Dv_splitLong 30 = .ok (.lstore 7, 2) := by decide +kernel
theorem d_Dv_splitLong_32 : decode b_Dv_splitLong 32 = .ok (.aload_n 1, 1) := by decide +kernel
theorem d_Dv_splitLong_33 : decode b_Dv_splitLong 33 = .ok (.lload 7, 2) := by decide +kernel
theorem d_Dv_splitLong_35 : decode b_Dv_splitLong 35 = .ok (.aload_n 0, 1) := by decide +kernel
theorem d_Dv_splitLong_36 : decode b_Dv_splitLong 36 = .ok (.getfield 9, 3) := by decide +kernel
theorem d_Dv_splitLong_39 : decode b_Dv_splitLong 39 = .ok (.invokestatic 56, 3) := by decide +kernel
theorem d_Dv_splitLong_42 : decode b_Dv_splitLong 42 = .ok (.aload_n 2, 1) := by decide +kernel
theorem d_Dv_splitLong_43 : decode b_Dv_splitLong 43 = .ok (.lload 7, 2) := by decide +kernel
theorem d_Dv_splitLong_45 : decode b_Dv_splitLong 45 = .ok (.aload_n 0, 1) := by decide +kernel
theorem d_Dv_splitLong_46 : decode b_Dv_splitLong 46 = .ok (.getfield 15, 3) := by decide +kernel
theorem d_Dv_splitLong_49 : decode b_Dv_splitLong 49 = .ok (.invokestatic 56, 3) := by decide +kernel
theorem d_Dv_splitLong_52 : decode b_Dv_splitLong 52 = .ok (.iload 6, 2) := by decide +kernel
theorem d_Dv_splitLong_54 : decode b_Dv_splitLong 54 = .ok (.istore 9, 2) := by decide +kernel
theorem d_Dv_splitLong_56 : decode b_Dv_splitLong 56 = .ok (.iload 9, 2) := by decide +kernel
theorem d_Dv_splitLong_58 : decode b_Dv_splitLong 58 = .ok (.ifCond .lt 24, 3) := by decide +kernel
theorem d_Dv_splitLong_61 : decode b_Dv_splitLong 61 = .ok (.aload_n 3, 1) := by decide +kernel
theorem d_Dv_splitLong_62 : decode b_Dv_splitLong 62 = .ok (.getfield 43, 3) := by decide +kernel
theorem d_Dv_splitLong_65 : decode b_Dv_splitLong 65 = .ok (.iload 9, 2) := by decide +kernel
theorem d_Dv_splitLong_67 : decode b_Dv_splitLong 67 = .ok (.aload_n 0, 1) := by decide +kernel
theorem d_Dv_splitLong_68 : decode b_Dv_splitLong 68 = .ok (.iload 9, 2) := by decide +kernel
theorem d_Dv_splitLong_70 : decode b_Dv_splitLong 70 = .ok (.iload 5, 2) := by decide +kernel
theorem d_Dv_splitLong_72 : decode b_Dv_splitLong 72 = .ok (.invokevirtual 60, 3) := by decide +kernel
theorem d_Dv_splitLong_75 : decode b_Dv_splitLong 75 = .ok (.lastore, 1) := by decide +kernel
theorem d_Dv_splitLong_76 : decode b_Dv_splitLong 76 = .ok (.iinc 9 (-1), 3) := by decide +kernel
theorem d_Dv_splitLong_79 : decode b_Dv_splitLong 79 = .ok (.goto (-23), 3) := by decide +kernel
theorem d_Dv_splitLong_82 : decode b_Dv_splitLong 82 = .ok (.aload_n 3, 1) := by decide +kernel
theorem d_Dv_splitLong_83 : decode b_Dv_splitLong 83 = .ok (.iload 6, 2) := by decide +kernel
theorem d_Dv_splitLong_85 : decode b_Dv_splitLong 85 = .ok (.iconst 1, 1) := by decide +kernel
theorem d_Dv_splitLong_86 : decode b_Dv_splitLong 86 = .ok (.iadd, 1) := by decide +kernel
theorem d_Dv_splitLong_87 : decode b_Dv_splitLong 87 = .ok (.invokevirtual 64, 3) := by decide +kernel
theorem d_Dv_splitLong_90 : decode b_Dv_splitLong 90 = .ok (.aload_n 0, 1) := by decide +kernel
theorem d_Dv_splitLong_91 : decode b_Dv_splitLong 91 = .ok (.getfield 9, 3) := by decide +kernel
theorem d_Dv_splitLong_94 : decode b_Dv_splitLong 94 = .ok (.iconst 0, 1) := by decide +kernel
theorem d_Dv_splitLong_95 : decode b_Dv_splitLong 95 = .ok (.aload 4, 2) := by decide +kernel
theorem d_Dv_splitLong_97 : decode b_Dv_splitLong 97 = .ok (.getfield 43, 3) := by decide +kernel
theorem d_Dv_splitLong_100 : decode b_Dv_splitLong 100 = .ok (.iconst 0, 1) := by decide +kernel
theorem d_Dv_splitLong_101 : decode b_Dv_splitLong 101 = .ok (.iload 5, 2) := by decide +kernel
theorem d_Dv_splitLong_103 : decode b_Dv_splitLong 103 = .ok (.invokestatic 68, 3) := by decide +kernel
theorem d_Dv_splitLong_106 : decode b_Dv_splitLong 106 = .ok (.aload 4, 2) := by decide +kernel
theorem d_Dv_splitLong_108 : decode b_Dv_splitLong 108 = .ok (.iload 5, 2) := by decide +kernel
theorem d_Dv_splitLong_110 : decode b_Dv_splitLong 110 = .ok (.invokevirtual 64, 3) := by decide +kernel
theorem d_Dv_splitLong_113 : decode b_Dv_splitLong 113 = .ok (.aload 4, 2) := by decide +kernel
theorem d_Dv_splitLong_115 : decode b_Dv_splitLong 115 = .ok (.aload 4, 2) := by decide +kernel
theorem d_Dv_splitLong_117 : decode b_Dv_splitLong 117 = .ok (.lload 7, 2) := by decide +kernel
theorem d_Dv_splitLong_119 : decode b_Dv_splitLong 119 = .ok (.invokevirtual 46, 3) := by decide +kernel
theorem d_Dv_splitLong_122 : decode b_Dv_splitLong 122 = .ok (.pop2, 1) := by decide +kernel
theorem d_Dv_splitLong_123 : decode b_Dv_splitLong 123 = .ok (.return_, 1) := by decide +kernel
theorem d_Dv_lay_0 : decode b_Dv_lay 0 = .ok (.lconst 0, 1) := by decide +kernel
theorem d_Dv_lay_1 : decode b_Dv_lay 1 = .ok (.lstore 4, 2) := by decide +kernel
theorem d_Dv_lay_3 : decode b_Dv_lay 3 = .ok (.iconst 0, 1) := by decide +kernel
theorem d_Dv_lay_4 : decode b_Dv_lay 4 = .ok (.istore 6, 2) := by decide +kernel
theorem d_Dv_lay_6 : decode b_Dv_lay 6 = .ok (.iload 6, 2) := by decide +kernel
theorem d_Dv_lay_8 : decode b_Dv_lay 8 = .ok (.aload_n 0, 1) := by decide +kernel
theorem d_Dv_lay_9 : decode b_Dv_lay 9 = .ok (.getfield 31, 3) := by decide +kernel
theorem d_Dv_lay_12 : decode b_Dv_lay 12 = .ok (.if_icmp .ge 44, 3) := by decide +kernel
theorem d_Dv_lay_15 : decode b_Dv_lay 15 = .ok (.aload_n 0, 1) := by decide +kernel
theorem d_Dv_lay_16 : decode b_Dv_lay 16 = .ok (.getfield 43, 3) := by decide +kernel
theorem d_Dv_lay_19 : decode b_Dv_lay 19 = .ok (.iload 6, 2) := by decide +kernel
theorem d_Dv_lay_21 : decode b_Dv_lay 21 = .ok (.laload, 1) := by decide +kernel
theorem d_Dv_lay_22 : decode b_Dv_lay 22 = .ok (.lload_n 1, 1) := by decide +kernel
theorem d_Dv_lay_23 : decode b_Dv_lay 23 = .ok (.lmul, 1) := by decide +kernel
theorem d_Dv_lay_24 : decode b_Dv_lay 24 = .ok (.lload 4, 2) := by decide +kernel
theorem d_Dv_lay_26 : decode b_Dv_lay 26 = .ok (.ladd, 1) := by decide +kernel
theorem d_Dv_lay_27 : decode b_Dv_lay 27 = .ok (.lstore 7, 2) := by decide +kernel
theorem d_Dv_lay_29 : decode b_Dv_lay 29 = .ok (.lload 7, 2) := by decide +kernel
theorem d_Dv_lay_31 : decode b_Dv_lay 31 = .ok (.ldc2_w 54, 3) := by decide +kernel
theorem d_Dv_lay_34 : decode b_Dv_lay 34 = .ok (.ldiv, 1) := by decide +kernel
theorem d_Dv_lay_35 : decode b_Dv_lay 35 = .ok (.lstore 4, 2) := by decide +kernel
theorem d_Dv_lay_37 : decode b_Dv_lay 37 = .ok (.aload_n 3, 1) := by decide +kernel
theorem d_Dv_lay_38 : decode b_Dv_lay 38 = .ok (.iload 6, 2) := by decide +kernel
theorem d_Dv_lay_40 : decode b_Dv_lay 40 = .ok (.lload 7, 2) := by decide +kernel
theorem d_Dv_lay_42 : decode b_Dv_lay 42 = .ok (.lload 4, 2) := by decide +kernel
theorem d_Dv_lay_44 : decode b_Dv_lay 44 = .ok (.ldc2_w 54, 3) := by decide +kernel
theorem d_Dv_lay_47 : decode b_Dv_lay 47 = .ok (.lmul, 1) := by decide +kernel
theorem d_Dv_lay_48 : decode b_Dv_lay 48 = .ok (.lsub, 1) := by decide +kernel
theorem d_Dv_lay_49 : decode b_Dv_lay 49 = .ok (.lastore, 1) := by decide +kernel
theorem d_Dv_lay_50 : decode b_Dv_lay 50 = .ok (.iinc 6 1, 3) := by decide +kernel
theorem d_Dv_lay_53 : decode b_Dv_lay 53 = .ok (.goto (-47), 3) := by decide +kernel
theorem d_Dv_lay_56 : decode b_Dv_lay 56 = .ok (.aload_n 3, 1) := by decide +kernel
theorem d_Dv_lay_57 : decode b_Dv_lay 57 = .ok (.aload_n 0, 1) := by decide +kernel
theorem d_Dv_lay_58 : decode b_Dv_lay 58 = .ok (.getfield 31, 3) := by decide +kernel
theorem d_Dv_lay_61 : decode b_Dv_lay 61 = .ok (.lload 4, 2) := by decide +kernel
theorem d_Dv_lay_63 : decode b_Dv_lay 63 = .ok (.lastore, 1) := by decide +kernel
theorem d_Dv_lay_64 : decode b_Dv_lay 64 = .ok (.return_, 1) := by decide +kernel
theorem d_Dv_takeOff_0 : decode b_Dv_takeOff 0 = .ok (.aload_n 0, 1) := by decide +kernel
theorem d_Dv_takeOff_1 : decode b_Dv_takeOff 1 = .ok (.iload_n 1, 1) := by decide +kernel
theorem d_Dv_takeOff_2 : decode b_Dv_takeOff 2 = .ok (.iload_n 2, 1) := by decide +kernel
theorem d_Dv_takeOff_3 : decode b_Dv_takeOff 3 = .ok (.invokevirtual 74, 3) := by decide +kernel
theorem d_Dv_takeOff_6 : decode b_Dv_takeOff 6 = .ok (.lstore_n 3, 1) := by decide +kernel
theorem d_Dv_takeOff_7 : decode b_Dv_takeOff 7 = .ok (.lconst 0, 1) := by decide +kernel
theorem d_Dv_takeOff_8 : decode b_Dv_takeOff 8 = .ok (.lstore 5, 2) := by decide +kernel
theorem d_Dv_takeOff_10 : decode b_Dv_takeOff 10 = .ok (.iconst 0, 1) := by decide +kernel
theorem d_Dv_takeOff_11 : decode b_Dv_takeOff 11 = .ok (.istore 7, 2) := by decide +kernel
theorem d_Dv_takeOff_13 : decode b_Dv_takeOff 13 = .ok (.iload 7, 2) := by decide +kernel
theorem d_Dv_takeOff_15 : decode b_Dv_takeOff 15 = .ok (.iload_n 2, 1) := by decide +kernel
theorem d_Dv_takeOff_16 : decode b_Dv_takeOff 16 = .ok (.if_icmp .ge 62, 3) := by decide +kernel
theorem d_Dv_takeOff_19 : decode b_Dv_takeOff 19 = .ok (.aload_n 0, 1) := by decide +kernel
theorem d_Dv_takeOff_20 : decode b_Dv_takeOff 20 = .ok (.getfield 9, 3) := by decide +kernel
theorem d_Dv_takeOff_23 : decode b_Dv_takeOff 23 = .ok (.iload_n 1, 1) := by decide +kernel
theorem d_Dv_takeOff_24 : decode b_Dv_takeOff 24 = .ok (.iload 7, 2) := by decide +kernel
theorem d_Dv_takeOff_26 : decode b_Dv_takeOff 26 = .ok (.iadd, 1) := by decide +kernel
theorem d_Dv_takeOff_27 : decode b_Dv_takeOff 27 = .ok (.laload, 1) := by decide +kernel
theorem d_Dv_takeOff_28 : decode b_Dv_takeOff 28 = .ok (.lload_n 3, 1) := by decide +kernel
theorem d_Dv_takeOff_29 : decode b_Dv_takeOff 29 = .ok (.aload_n 0, 1) := by decide +kernel
theorem d_Dv_takeOff_30 : decode b_Dv_takeOff 30 = .ok (.getfield 15, 3) := by decide +kernel
theorem d_Dv_takeOff_33 : decode b_Dv_takeOff 33 = .ok (.iload 7, 2) := by decide +kernel
theorem d_Dv_takeOff_35 : decode b_Dv_takeOff 35 = .ok (.laload, 1) := by decide +kernel
theorem d_Dv_takeOff_36 : decode b_Dv_takeOff 36 = .ok (.lmul, 1) := by decide +kernel
theorem d_Dv_takeOff_37 : decode b_Dv_takeOff 37 = .ok (.lsub, 1) := by decide +kernel
theorem d_Dv_takeOff_38 : decode b_Dv_takeOff 38 = .ok (.lload 5, 2) := by decide +kernel
theorem d_Dv_takeOff_40 : decode b_Dv_takeOff 40 = .ok (.lsub, 1) := by decide +kernel
theorem d_Dv_takeOff_41 : decode b_Dv_takeOff 41 = .ok (.lstore 8, 2) := by decide +kernel
theorem d_Dv_takeOff_43 : decode b_Dv_takeOff 43 = .ok (.lload 8, 2) := by decide +kernel
theorem d_Dv_takeOff_45 : decode b_Dv_takeOff 45 = .ok (.ldc2_w 54, 3) := by decide +kernel
theorem d_Dv_takeOff_48 : decode b_Dv_takeOff 48 = .ok (.invokestatic 77, 3) := by decide +kernel
theorem d_Dv_takeOff_51 : decode b_Dv_takeOff 51 = .ok (.lneg, 1) := by decide +kernel
theorem d_Dv_takeOff_52 : decode b_Dv_takeOff 52 = .ok (.lstore 5, 2) := by decide +kernel
theorem d_Dv_takeOff_54 : decode b_Dv_takeOff 54 = .ok (.aload_n 0, 1) := by decide +kernel
theorem d_Dv_takeOff_55 : decode b_Dv_takeOff 55 = .ok (.getfield 9, 3) := by decide +kernel
theorem d_Dv_takeOff_58 : decode b_Dv_takeOff 58 = .ok (.iload_n 1, 1) := by decide +kernel
theorem d_Dv_takeOff_59 : decode b_Dv_takeOff 59 = .ok (.iload 7, 2) := by decide +kernel
theorem d_Dv_takeOff_61 : decode b_Dv_takeOff 61 = .ok (.iadd, 1) := by decide +kernel
theorem d_Dv_takeOff_62 : decode b_Dv_takeOff 62 = .ok (.lload 8, 2) := by decide +kernel
theorem d_Dv_takeOff_64 : decode b_Dv_takeOff 64 = .ok (.lload 5, 2) := by decide +kernel
theorem d_Dv_takeOff_66 : decode b_Dv_takeOff 66 = .ok (.ldc2_w 54, 3) := by decide +kernel
theorem d_Dv_takeOff_69 : decode b_Dv_takeOff 69 = .ok (.lmul, 1) := by decide +kernel
theorem d_Dv_takeOff_70 : decode b_Dv_takeOff 70 = .ok (.ladd, 1) := by decide +kernel
theorem d_Dv_takeOff_71 : decode b_Dv_takeOff 71 = .ok (.lastore, 1) := by decide +kernel
theorem d_Dv_takeOff_72 : decode b_Dv_takeOff 72 = .ok (.iinc 7 1, 3) := by decide +kernel
theorem d_Dv_takeOff_75 : decode b_Dv_takeOff 75 = .ok (.goto (-62), 3) := by decide +kernel
theorem d_Dv_takeOff_78 : decode b_Dv_takeOff 78 = .ok (.aload_n 0, 1) := by decide +kernel
theorem d_Dv_takeOff_79 : decode b_Dv_takeOff 79 = .ok (.getfield 9, 3) := by decide +kernel
theorem d_Dv_takeOff_82 : decode b_Dv_takeOff 82 = .ok (.iload_n 1, 1) := by decide +kernel
theorem d_Dv_takeOff_83 : decode b_Dv_takeOff 83 = .ok (.iload_n 2, 1) := by decide +kernel
theorem d_Dv_takeOff_84 : decode b_Dv_takeOff 84 = .ok (.iadd, 1) := by decide +kernel
theorem d_Dv_takeOff_85 : decode b_Dv_takeOff 85 = .ok (.dup2, 1) := by decide +kernel
theorem d_Dv_takeOff_86 : decode b_Dv_takeOff 86 = .ok (.laload, 1) := by decide +kernel
theorem d_Dv_takeOff_87 : decode b_Dv_takeOff 87 = .ok (.lload 5, 2) := by decide +kernel
theorem d_Dv_takeOff_89 : decode b_Dv_takeOff 89 = .ok (.lsub, 1) := by decide +kernel
theorem d_Dv_takeOff_90 : decode b_Dv_takeOff 90 = .ok (.lastore, 1) := by decide +kernel
theorem d_Dv_takeOff_91 : decode b_Dv_takeOff 91 = .ok (.aload_n 0, 1) := by decide +kernel
theorem d_Dv_takeOff_92 : decode b_Dv_takeOff 92 = .ok (.getfield 9, 3) := by decide +kernel
theorem d_Dv_takeOff_95 : decode b_Dv_takeOff 95 = .ok (.iload_n 1, 1) := by decide +kernel
theorem d_Dv_takeOff_96 : decode b_Dv_takeOff 96 = .ok (.iload_n 2, 1) := by decide +kernel
theorem d_Dv_takeOff_97 : decode b_Dv_takeOff 97 = .ok (.iadd, 1) := by decide +kernel
theorem d_Dv_takeOff_98 : decode b_Dv_takeOff 98 = .ok (.laload, 1) := by decide +kernel
theorem d_Dv_takeOff_99 : decode b_Dv_takeOff 99 = .ok (.lconst 0, 1) := by decide +kernel
theorem d_Dv_takeOff_100 : decode b_Dv_takeOff 100 = .ok (.lcmp, 1) := by decide +kernel
theorem d_Dv_takeOff_101 : decode b_Dv_takeOff 101 = .ok (.ifCond .ge 13, 3) := by decide +kernel
theorem d_Dv_takeOff_104 : decode b_Dv_takeOff 104 = .ok (.aload_n 0, 1) := by decide +kernel
theorem d_Dv_takeOff_105 : decode b_Dv_takeOff 105 = .ok (.iload_n 1, 1) := by decide +kernel
theorem d_Dv_takeOff_106 : decode b_Dv_takeOff 106 = .ok (.iload_n 2, 1) := by decide +kernel
theorem d_Dv_takeOff_107 : decode b_Dv_takeOff 107 = .ok (.invokevirtual 83, 3) := by decide +kernel
theorem d_Dv_takeOff_110 : decode b_Dv_takeOff 110 = .ok (.lload_n 3, 1) := by decide +kernel
theorem d_Dv_takeOff_111 : decode b_Dv_takeOff 111 = .ok (.lconst 1, 1) := by decide +kernel
theorem d_Dv_takeOff_112 : decode b_Dv_takeOff 112 = .ok (.lsub, 1) := by decide +kernel
theorem d_Dv_takeOff_113 : decode b_Dv_takeOff 113 = .ok (.lstore_n 3, 1) := by decide +kernel
theorem d_Dv_takeOff_114 : decode b_Dv_takeOff 114 = .ok (.lload_n 3, 1) := by decide +kernel
theorem d_Dv_takeOff_115 : decode b_Dv_takeOff 115 = .ok (.lreturn, 1) := by decide +kernel
theorem d_Dv_guess_0 : decode b_Dv_guess 0 = .ok (.iload_n 1, 1) := by decide +kernel
theorem d_Dv_guess_1 : decode b_Dv_guess 1 = .ok (.iload_n 2, 1) := by decide +kernel
theorem d_Dv_guess_2 : decode b_Dv_guess 2 = .ok (.iadd, 1) := by decide +kernel
theorem d_Dv_guess_3 : decode b_Dv_guess 3 = .ok (.istore_n 3, 1) := by decide +kernel
theorem d_Dv_guess_4 : decode b_Dv_guess 4 = .ok (.aload_n 0, 1) := by decide +kernel
theorem d_Dv_guess_5 : decode b_Dv_guess 5 = .ok (.getfield 9, 3) := by decide +kernel
theorem d_Dv_guess_8 : decode b_Dv_guess 8 = .ok (.iload_n 3, 1) := by decide +kernel
theorem d_Dv_guess_9 : decode b_Dv_guess 9 = .ok (.laload, 1) := by decide +kernel
theorem d_Dv_guess_10 : decode b_Dv_guess 10 = .ok (.ldc2_w 54, 3) := by decide +kernel
theorem d_Dv_guess_13 : decode b_Dv_guess 13 = .ok (.lmul, 1) := by decide +kernel
theorem d_Dv_guess_14 : decode b_Dv_guess 14 = .ok (.aload_n 0, 1) := by decide +kernel
theorem d_Dv_guess_15 : decode b_Dv_guess 15 = .ok (.getfield 9, 3) := by decide +kernel
theorem d_Dv_guess_18 : decode b_Dv_guess 18 = .ok (.iload_n 3, 1) := by decide +kernel
theorem d_Dv_guess_19 : decode b_Dv_guess 19 = .ok (.iconst 1, 1) := by decide +kernel
theorem d_Dv_guess_20 : decode b_Dv_guess 20 = .ok (.isub, 1) := by decide +kernel
theorem d_Dv_guess_21 : decode b_Dv_guess 21 = .ok (.laload, 1) := by decide +kernel
theorem d_Dv_guess_22 : decode b_Dv_guess 22 = .ok (.ladd, 1) := by decide +kernel
theorem d_Dv_guess_23 : decode b_Dv_guess 23 = .ok (.lstore 4, 2) := by decide +kernel
theorem d_Dv_guess_25 : decode b_Dv_guess 25 = .ok (.lload 4, 2) := by decide +kernel
theorem d_Dv_guess_27 : decode b_Dv_guess 27 = .ok (.aload_n 0, 1) := by decide +kernel
theorem d_Dv_guess_28 : decode b_Dv_guess 28 = .ok (.getfield 15, 3) := by decide +kernel
theorem d_Dv_guess_31 : decode b_Dv_guess 31 = .ok (.iload_n 2, 1) := by decide +kernel
theorem d_Dv_guess_32 : decode b_Dv_guess 32 = .ok (.iconst 1, 1) := by decide +kernel
theorem d_Dv_guess_33 : decode b_Dv_guess 33 = .ok (.isub, 1) := by decide +kernel
theorem d_Dv_guess_34 : decode b_Dv_guess 34 = .ok (.laload, 1) := by decide +kernel
theorem d_Dv_guess_35 : decode b_Dv_guess 35 = .ok (.ldiv, 1) := by decide +kernel
theorem d_Dv_guess_36 : decode b_Dv_guess 36 = .ok (.lstore 6, 2) := by decide +kernel
theorem d_Dv_guess_38 : decode b_Dv_guess 38 = .ok (.lload 4, 2) := by decide +kernel
theorem d_Dv_guess_40 : decode b_Dv_guess 40 = .ok (.lload 6, 2) := by decide +kernel
theorem d_Dv_guess_42 : decode b_Dv_guess 42 = .ok (.aload_n 0, 1) := by decide +kernel
theorem d_Dv_guess_43 : decode b_Dv_guess 43 = .ok (.getfield 15, 3) := by decide +kernel
theorem d_Dv_guess_46 : decode b_Dv_guess 46 = .ok (.iload_n 2, 1) := by decide +kernel
theorem d_Dv_guess_47 : decode b_Dv_guess 47 = .ok (.iconst 1, 1) := by decide +kernel
theorem d_Dv_guess_48 : decode b_Dv_guess 48 = .ok (.isub, 1) := by decide +kernel
theorem d_Dv_guess_49 : decode b_Dv_guess 49 = .ok (.laload, 1) := by decide +kernel
theorem d_Dv_guess_50 : decode b_Dv_guess 50 = .ok (.lmul, 1) := by decide +kernel
theorem d_Dv_guess_51 : decode b_Dv_guess 51 = .ok (.lsub, 1) := by decide +kernel
theorem d_Dv_guess_52 : decode b_Dv_guess 52 = .ok (.lstore 8, 2) := by decide +kernel
theorem d_Dv_guess_54 : decode b_Dv_guess 54 = .ok (.iconst 0, 1) := by decide +kernel
theorem d_Dv_guess_55 : decode b_Dv_guess 55 = .ok (.istore 10, 2) := by decide +kernel
theorem d_Dv_guess_57 : decode b_Dv_guess 57 = .ok (.iload 10, 2) := by decide +kernel
theorem d_Dv_guess_59 : decode b_Dv_guess 59 = .ok (.iconst 2, 1) := by decide +kernel
theorem d_Dv_guess_60 : decode b_Dv_guess 60 = .ok (.if_icmp .ge 79, 3) := by decide +kernel
theorem d_Dv_guess_63 : decode b_Dv_guess 63 = .ok (.lload 8, 2) := by decide +kernel
theorem d_Dv_guess_65 : decode b_Dv_guess 65 = .ok (.ldc2_w 54, 3) := by decide +kernel
theorem d_Dv_guess_68 : decode b_Dv_guess 68 = .ok (.lcmp, 1) := by decide +kernel
theorem d_Dv_guess_69 : decode b_Dv_guess 69 = .ok (.ifCond .ge 70, 3) := by decide +kernel
theorem d_Dv_guess_72 : decode b_Dv_guess 72 = .ok (.lload 6, 2) := by decide +kernel
theorem d_Dv_guess_74 : decode b_Dv_guess 74 = .ok (.ldc2_w 54, 3) := by decide +kernel
theorem d_Dv_guess_77 : decode b_Dv_guess 77 = .ok (.lcmp, 1) := by decide +kernel
theorem d_Dv_guess_78 : decode b_Dv_guess 78 = .ok (.ifCond .ge 36, 3) := by decide +kernel
theorem d_Dv_guess_81 : decode b_Dv_guess 81 = .ok (.lload 6, 2) := by decide +kernel
theorem d_Dv_guess_83 : decode b_Dv_guess 83 = .ok (.aload_n 0, 1) := by decide +kernel
theorem d_Dv_guess_84 : decode b_Dv_guess 84 = .ok (.getfield 15, 3) := by decide +kernel
theorem d_Dv_guess_87 : decode b_Dv_guess 87 = .ok (.iload_n 2, 1) := by decide +kernel
theorem d_Dv_guess_88 : decode b_Dv_guess 88 = .ok (.iconst 2, 1) := by decide +kernel
theorem d_Dv_guess_89 : decode b_Dv_guess 89 = .ok (.isub, 1) := by decide +kernel
theorem d_Dv_guess_90 : decode b_Dv_guess 90 = .ok (.laload, 1) := by decide +kernel
theorem d_Dv_guess_91 : decode b_Dv_guess 91 = .ok (.lmul, 1) := by decide +kernel
theorem d_Dv_guess_92 : decode b_Dv_guess 92 = .ok (.lload 8, 2) := by decide +kernel
theorem d_Dv_guess_94 : decode b_Dv_guess 94 = .ok (.ldc2_w 54, 3) := by decide +kernel
theorem d_Dv_guess_97 : decode b_Dv_guess 97 = .ok (.lmul, 1) := by decide +kernel
theorem d_Dv_guess_98 : decode b_Dv_guess 98 = .ok (.aload_n 0, 1) := by decide +kernel
theorem d_Dv_guess_99 : decode b_Dv_guess 99 = .ok (.getfield 9, 3) := by decide +kernel
theorem d_Dv_guess_102 : decode b_Dv_guess 102 = .ok (.iload_n 3, 1) := by decide +kernel
theorem d_Dv_guess_103 : decode b_Dv_guess 103 = .ok (.iconst 2, 1) := by decide +kernel
theorem d_Dv_guess_104 : decode b_Dv_guess 104 = .ok (.isub, 1) := by decide +kernel
theorem d_Dv_guess_105 : decode b_Dv_guess 105 = .ok (.laload, 1) := by decide +kernel
theorem d_Dv_guess_106 : decode b_Dv_guess 106 = .ok (.ladd, 1) := by decide +kernel
theorem d_Dv_guess_107 : decode b_Dv_guess 107 = .ok (.lcmp, 1) := by decide +kernel
theorem d_Dv_guess_108 : decode b_Dv_guess 108 = .ok (.ifCond .gt 6, 3) := by decide +kernel
theorem d_Dv_guess_111 : decode b_Dv_guess 111 = .ok (.goto 28, 3) := by decide +kernel
theorem d_Dv_guess_114 : decode b_Dv_guess 114 = .ok (.lload 6, 2) := by decide +kernel
theorem d_Dv_guess_116 : decode b_Dv_guess 116 = .ok (.lconst 1, 1) := by decide +kernel
theorem d_Dv_guess_117 : decode b_Dv_guess 117 = .ok (.lsub, 1) := by decide +kernel
theorem d_Dv_guess_118 : decode b_Dv_guess 118 = .ok (.lstore 6, 2) := by decide +kernel
theorem d_Dv_guess_120 : decode b_Dv_guess 120 = .ok (.lload 8, 2) := by decide +kernel
theorem d_Dv_guess_122 : decode b_Dv_guess 122 = .ok (.aload_n 0, 1) := by decide +kernel
theorem d_Dv_guess_123 : decode b_Dv_guess 123 = .ok (.getfield 15, 3) := by decide +kernel
theorem d_Dv_guess_126 : decode b_Dv_guess 126 = .ok (.iload_n 2, 1) := by decide +kernel
theorem d_Dv_guess_127 : decode b_Dv_guess 127 = .ok (.iconst 1, 1) := by decide +kernel
theorem d_Dv_guess_128 : decode b_Dv_guess 128 = .ok (.isub, 1) := by decide +kernel
theorem d_Dv_guess_129 : decode b_Dv_guess 129 = .ok (.laload, 1) := by decide +kernel
theorem d_Dv_guess_130 : decode b_Dv_guess 130 = .ok (.ladd, 1) := by decide +kernel
theorem d_Dv_guess_131 : decode b_Dv_guess 131 = .ok (.lstore 8, 2) := by decide +kernel
theorem d_Dv_guess_133 : decode b_Dv_guess 133 = .ok (.iinc 10 1, 3) := by decide +kernel
theorem d_Dv_guess_136 : decode b_Dv_guess 136 = .ok (.goto (-79), 3) := by decide +kernel
theorem d_Dv_guess_139 : decode b_Dv_guess 139 = .ok (.lload 6, 2) := by decide +kernel
theorem d_Dv_guess_141 : decode b_Dv_guess 141 = .ok (.lreturn, 1) := by decide +kernel
theorem d_Dv_putBack_0 : decode b_Dv_putBack 0 = .ok (.lconst 0, 1) := by decide +kernel
theorem d_Dv_putBack_1 : decode b_Dv_putBack 1 = .ok (.lstore_n 3, 1) := by decide +kernel
theorem d_Dv_putBack_2 : decode b_Dv_putBack 2 = .ok (.iconst 0, 1) := by decide +kernel
theorem d_Dv_putBack_3 : decode b_Dv_putBack 3 = .ok (.istore 5, 2) := by decide +kernel
theorem d_Dv_putBack_5 : decode b_Dv_putBack 5 = .ok (.iload 5, 2) := by decide +kernel
theorem d_Dv_putBack_7 : decode b_Dv_putBack 7 = .ok (.iload_n 2, 1) := by decide +kernel
theorem d_Dv_putBack_8 : decode b_Dv_putBack 8 = .ok (.if_icmp .ge 62, 3) := by decide +kernel
theorem d_Dv_putBack_11 : decode b_Dv_putBack 11 = .ok (.aload_n 0, 1) := by decide +kernel
theorem d_Dv_putBack_12 : decode b_Dv_putBack 12 = .ok (.getfield 9, 3) := by decide +kernel
theorem d_Dv_putBack_15 : decode b_Dv_putBack 15 = .ok (.iload_n 1, 1) := by decide +kernel
theorem d_Dv_putBack_16 : decode b_Dv_putBack 16 = .ok (.iload 5, 2) := by decide +kernel
theorem d_Dv_putBack_18 : decode b_Dv_putBack 18 = .ok (.iadd, 1) := by decide +kernel
theorem d_Dv_putBack_19 : decode b_Dv_putBack 19 = .ok (.laload, 1) := by decide +kernel
theorem d_Dv_putBack_20 : decode b_Dv_putBack 20 = .ok (.aload_n 0, 1) := by decide +kernel
theorem d_Dv_putBack_21 : decode b_Dv_putBack 21 = .ok (.getfield 15, 3) := by decide +kernel
theorem d_Dv_putBack_24 : decode b_Dv_putBack 24 = .ok (.iload 5, 2) := by decide +kernel
theorem d_Dv_putBack_26 : decode b_Dv_putBack 26 = .ok (.laload, 1) := by decide +kernel
theorem d_Dv_putBack_27 : decode b_Dv_putBack 27 = .ok (.ladd, 1) := by decide +kernel
theorem d_Dv_putBack_28 : decode b_Dv_putBack 28 = .ok (.lload_n 3, 1) := by decide +kernel
theorem d_Dv_putBack_29 : decode b_Dv_putBack 29 = .ok (.ladd, 1) := by decide +kernel
theorem d_Dv_putBack_30 : decode b_Dv_putBack 30 = .ok (.lstore 6, 2) := by decide +kernel
theorem d_Dv_putBack_32 : decode b_Dv_putBack 32 = .ok (.lload 6, 2) := by decide +kernel
theorem d_Dv_putBack_34 : decode b_Dv_putBack 34 = .ok (.ldc2_w 54, 3) := by decide +kernel
theorem d_Dv_putBack_37 : decode b_Dv_putBack 37 = .ok (.lcmp, 1) := by decide +kernel
theorem d_Dv_putBack_38 : decode b_Dv_putBack 38 = .ok (.ifCond .lt 7, 3) := by decide +kernel
theorem d_Dv_putBack_41 : decode b_Dv_putBack 41 = .ok (.lconst 1, 1) := by decide +kernel
theorem d_Dv_putBack_42 : decode b_Dv_putBack 42 = .ok (.goto 4, 3) := by decide +kernel
theorem d_Dv_putBack_45 : decode b_Dv_putBack 45 = .ok (.lconst 0, 1) := by decide +kernel
theorem d_Dv_putBack_46 : decode b_Dv_putBack 46 = .ok (.lstore_n 3, 1) := by decide +kernel
theorem d_Dv_putBack_47 : decode b_Dv_putBack 47 = .ok (.aload_n 0, 1) := by decide +kernel
theorem d_Dv_putBack_48 : decode b_Dv_putBack 48 = .ok (.getfield 9, 3) := by decide +kernel
theorem d_Dv_putBack_51 : decode b_Dv_putBack 51 = .ok (.iload_n 1, 1) := by decide +kernel
theorem d_Dv_putBack_52 : decode b_Dv_putBack 52 = .ok (.iload 5, 2) := by decide +kernel
theorem d_Dv_putBack_54 : decode b_Dv_putBack 54 = .ok (.iadd, 1) := by decide +kernel
theorem d_Dv_putBack_55 : decode b_Dv_putBack 55 = .ok (.lload 6, 2) := by decide +kernel
theorem d_Dv_putBack_57 : decode b_Dv_putBack 57 = .ok (.lload_n 3, 1) := by decide +kernel
theorem d_Dv_putBack_58 : decode b_Dv_putBack 58 = .ok (.ldc2_w 54, 3) := by decide +kernel
theorem d_Dv_putBack_61 : decode b_Dv_putBack 61 = .ok (.lmul, 1) := by decide +kernel
theorem d_Dv_putBack_62 : decode b_Dv_putBack 62 = .ok (.lsub, 1) := by decide +kernel
theorem d_Dv_putBack_63 : decode b_Dv_putBack 63 = .ok (.lastore, 1) := by decide +kernel
theorem d_Dv_putBack_64 : decode b_Dv_putBack 64 = .ok (.iinc 5 1, 3) := by decide +kernel
theorem d_Dv_putBack_67 : decode b_Dv_putBack 67 = .ok (.goto (-62), 3) := by decide +kernel
theorem d_Dv_putBack_70 : decode b_Dv_putBack 70 = .ok (.aload_n 0, 1) := by decide +kernel
theorem d_Dv_putBack_71 : decode b_Dv_putBack 71 = .ok (.getfield 9, 3) := by decide +kernel
theorem d_Dv_putBack_74 : decode b_Dv_putBack 74 = .ok (.iload_n 1, 1) := by decide +kernel
theorem d_Dv_putBack_75 : decode b_Dv_putBack 75 = .ok (.iload_n 2, 1) := by decide +kernel
theorem d_Dv_putBack_76 : decode b_Dv_putBack 76 = .ok (.iadd, 1) := by decide +kernel
theorem d_Dv_putBack_77 : decode b_Dv_putBack 77 = .ok (.dup2, 1) := by decide +kernel
theorem d_Dv_putBack_78 : decode b_Dv_putBack 78 = .ok (.laload, 1) := by decide +kernel
theorem d_Dv_putBack_79 : decode b_Dv_putBack 79 = .ok (.lload_n 3, 1) := by decide +kernel
theorem d_Dv_putBack_80 : decode b_Dv_putBack 80 = .ok (.ladd, 1) := by decide +kernel
theorem d_Dv_putBack_81 : decode b_Dv_putBack 81 = .ok (.lastore, 1) := by decide +kernel
theorem d_Dv_putBack_82 : decode b_Dv_putBack 82 = .ok (.return_, 1) := by decide +kernel
end
section
theorem d_Ms_init_0 : decode b_Ms_init 0 = .ok (.aload_n 0, 1) := by decide +kernel
theorem d_Ms_init_1 : decode b_Ms_init 1 = .ok (.invokespecial 3, 3) := by decide +kernel
theorem d_Ms_init_4 : decode b_Ms_init 4 = .ok (.aload_n 0, 1) := by decide +kernel
theorem d_Ms_init_5 : decode b_Ms_init 5 = .ok (.aload_n 1, 1) := by decide +kernel
theorem d_Ms_init_6 : decode b_Ms_init 6 = .ok (.putfield 9, 3) := by decide +kernel
theorem d_Ms_init_9 : decode b_Ms_init 9 = .ok (.aload_n 0, 1) := by decide +kernel
theorem d_Ms_init_10 : decode b_Ms_init 10 = .ok (.new 15, 3) := by decide +kernel
theorem d_Ms_init_13 : decode b_Ms_init 13 = .ok (.dup, 1) := by decide +kernel
theorem d_Ms_init_14 : decode b_Ms_init 14 = .ok (.invokespecial 17, 3) := by decide +kernel
theorem d_Ms_init_17 : decode b_Ms_init 17 = .ok (.putfield 18, 3) := by decide +kernel
theorem d_Ms_init_20 : decode b_Ms_init 20 = .ok (.aload_n 0, 1) := by decide +kernel
theorem d_Ms_init_21 : decode b_Ms_init 21 = .ok (.new 15, 3) := by decide +kernel
theorem d_Ms_init_24 : decode b_Ms_init 24 = .ok (.dup, 1) := by decide +kernel
theorem d_Ms_init_25 : decode b_Ms_init 25 = .ok (.invokespecial 17, 3) := by decide +kernel
theorem d_Ms_init_28 : decode b_Ms_init 28 = .ok (.putfield 22, 3) := by decide +kernel
theorem d_Ms_init_31 : decode b_Ms_init 31 = .ok (.aload_n 0, 1) := by decide +kernel
theorem d_Ms_init_32 : decode b_Ms_init 32 = .ok (.new 15, 3) := by decide +kernel
theorem d_Ms_init_35 : decode b_Ms_init 35 = .ok (.dup, 1) := by decide +kernel
theorem d_Ms_init_36 : decode b_Ms_init 36 = .ok (.invokespecial 17, 3) := by decide +kernel
theorem d_Ms_init_39 : decode b_Ms_init 39 = .ok (.putfield 25, 3) := by decide +kernel
theorem d_Ms_init_42 : decode b_Ms_init 42 = .ok (.aload_n 0, 1) := by decide +kernel
theorem d_Ms_init_43 : decode b_Ms_init 43 = .ok (.new 15, 3) := by decide +kernel
theorem d_Ms_init_46 : decode b_Ms_init 46 = .ok (.dup, 1) := by decide +kernel
theorem d_Ms_init_47 : decode b_Ms_init 47 = .ok (.invokespecial 17, 3) := by decide +kernel
theorem d_Ms_init_50 : decode b_Ms_init 50 = .ok (.putfield 28, 3) := by decide +kernel
theorem d_Ms_init_53 : decode b_Ms_init 53 = .ok (.return_, 1) := by decide +kernel
theorem d_Ms_of_0 : decode b_Ms_of 0 = .ok (.aload_n 1, 1) := by decide +kernel
theorem d_Ms_of_1 : decode b_Ms_of 1 = .ok (.aload_n 2, 1) := by decide +kernel
theorem d_Ms_of_2 : decode b_Ms_of 2 = .ok (.invokevirtual 31, 3) := by decide +kernel
theorem d_Ms_of_5 : decode b_Ms_of 5 = .ok (.ifCond .lt 7, 3) := by decide +kernel
theorem d_Ms_of_8 : decode b_Ms_of 8 = .ok (.iconst 1, 1) := by decide +kernel
theorem d_Ms_of_9 : decode b_Ms_of 9 = .ok (.goto 4, 3) := by decide +kernel
theorem d_Ms_of_12 : decode b_Ms_of 12 = .ok (.iconst 0, 1) := by decide +kernel
theorem d_Ms_of_13 : decode b_Ms_of 13 = .ok (.istore_n 3, 1) := by decide +kernel
theorem d_Ms_of_14 : decode b_Ms_of 14 = .ok (.aload_n 0, 1) := by decide +kernel
theorem d_Ms_of_15 : decode b_Ms_of 15 = .ok (.getfield 22, 3) := by decide +kernel
theorem d_Ms_of_18 : decode b_Ms_of 18 = .ok (.iload_n 3, 1) := by decide +kernel
theorem d_Ms_of_19 : decode b_Ms_of 19 = .ok (.ifCond .eq 7, 3) := by decide +kernel
theorem d_Ms_of_22 : decode b_Ms_of 22 = .ok (.aload_n 1, 1) := by decide +kernel
theorem d_Ms_of_23 : decode b_Ms_of 23 = .ok (.goto 4, 3) := by decide +kernel
theorem d_Ms_of_26 : decode b_Ms_of 26 = .ok (.aload_n 2, 1) := by decide +kernel
theorem d_Ms_of_27 : decode b_Ms_of 27 = .ok (.invokevirtual 35, 3) := by decide +kernel
theorem d_Ms_of_30 : decode b_Ms_of 30 = .ok (.aload_n 0, 1) := by decide +kernel
theorem d_Ms_of_31 : decode b_Ms_of 31 = .ok (.getfield 25, 3) := by decide +kernel
theorem d_Ms_of_34 : decode b_Ms_of 34 = .ok (.iload_n 3, 1) := by decide +kernel
theorem d_Ms_of_35 : decode b_Ms_of 35 = .ok (.ifCond .eq 7, 3) := by decide +kernel
theorem d_Ms_of_38 : decode b_Ms_of 38 = .ok (.aload_n 2, 1) := by decide +kernel
theorem d_Ms_of_39 : decode b_Ms_of 39 = .ok (.goto 4, 3) := by decide +kernel
theorem d_Ms_of_42 : decode b_Ms_of 42 = .ok (.aload_n 1, 1) := by decide +kernel
theorem d_Ms_of_43 : decode b_Ms_of 43 = .ok (.invokevirtual 35, 3) := by decide +kernel
theorem d_Ms_of_46 : decode b_Ms_of 46 = .ok (.iconst 0, 1) := by decide +kernel
theorem d_Ms_of_47 : decode b_Ms_of 47 = .ok (.istore 4, 2) := by decide +kernel
theorem d_Ms_of_49 : decode b_Ms_of 49 = .ok (.iload 4, 2) := by decide +kernel
theorem d_Ms_of_51 : decode b_Ms_of 51 = .ok (.ldc 39, 2) := by decide +kernel
theorem d_Ms_of_53 : decode b_Ms_of 53 = .ok (.if_icmp .ge 77, 3) := by decide +kernel
theorem d_Ms_of_56 : decode b_Ms_of 56 = .ok (.aload_n 0, 1) := by decide +kernel
theorem d_Ms_of_57 : decode b_Ms_of 57 = .ok (.getfield 22, 3) := by decide +kernel
theorem d_Ms_of_60 : decode b_Ms_of 60 = .ok (.getfield 40, 3) := by decide +kernel
theorem d_Ms_of_63 : decode b_Ms_of 63 = .ok (.iconst 2, 1) := by decide +kernel
theorem d_Ms_of_64 : decode b_Ms_of 64 = .ok (.if_icmp .le 66, 3) := by decide +kernel
theorem d_Ms_of_67 : decode b_Ms_of 67 = .ok (.aload_n 0, 1) := by decide +kernel
theorem d_Ms_of_68 : decode b_Ms_of 68 = .ok (.getfield 25, 3) := by decide +kernel
theorem d_Ms_of_71 : decode b_Ms_of 71 = .ok (.invokevirtual 44, 3) := by decide +kernel
theorem d_Ms_of_74 : decode b_Ms_of 74 = .ok (.ifCond .ne 56, 3) := by decide +kernel
theorem d_Ms_of_77 : decode b_Ms_of 77 = .ok (.aload_n 0, 1) := by decide +kernel
theorem d_Ms_of_78 : decode b_Ms_of 78 = .ok (.invokevirtual 48, 3) := by decide +kernel
theorem d_Ms_of_81 : decode b_Ms_of 81 = .ok (.aload_n 0, 1) := by decide +kernel
theorem d_Ms_of_82 : decode b_Ms_of 82 = .ok (.getfield 51, 3) := by decide +kernel
theorem d_Ms_of_85 : decode b_Ms_of 85 = .ok (.lconst 0, 1) := by decide +kernel
theorem d_Ms_of_86 : decode b_Ms_of 86 = .ok (.lcmp, 1) := by decide +kernel
theorem d_Ms_of_87 : decode b_Ms_of 87 = .ok (.ifCond .ne 33, 3) := by decide +kernel
theorem d_Ms_of_90 : decode b_Ms_of 90 = .ok (.aload_n 0, 1) := by decide +kernel
theorem d_Ms_of_91 : decode b_Ms_of 91 = .ok (.getfield 9, 3) := by decide +kernel
theorem d_Ms_of_94 : decode b_Ms_of 94 = .ok (.aload_n 0, 1) := by decide +kernel
theorem d_Ms_of_95 : decode b_Ms_of 95 = .ok (.getfield 22, 3) := by decide +kernel
theorem d_Ms_of_98 : decode b_Ms_of 98 = .ok (.aload_n 0, 1) := by decide +kernel
theorem d_Ms_of_99 : decode b_Ms_of 99 = .ok (.getfield 25, 3) := by decide +kernel
theorem d_Ms_of_102 : decode b_Ms_of 102 = .ok (.aload_n 0, 1) := by decide +kernel
theorem d_Ms_of_103 : decode b_Ms_of 103 = .ok (.getfield 18, 3) := by decide +kernel
theorem d_Ms_of_106 : decode b_Ms_of 106 = .ok (.aload_n 0, 1) := by decide +kernel
theorem d_Ms_of_107 : decode b_Ms_of 107 = .ok (.getfield 28, 3) := by decide +kernel
theorem d_Ms_of_110 : decode b_Ms_of 110 = .ok (.invokevirtual 55, 3) := by decide +kernel
theorem d_Ms_of_113 : decode b_Ms_of 113 = .ok (.aload_n 0, 1) := by decide +kernel
theorem d_Ms_of_114 : decode b_Ms_of 114 = .ok (.invokevirtual 61, 3) := by decide +kernel
theorem d_Ms_of_117 : decode b_Ms_of 117 = .ok (.goto 7, 3) := by decide +kernel
theorem d_Ms_of_120 : decode b_Ms_of 120 = .ok (.aload_n 0, 1) := by decide +kernel
theorem d_Ms_of_121 : decode b_Ms_of 121 = .ok (.invokevirtual 64, 3) := by decide +kernel
theorem d_Ms_of_124 : decode b_Ms_of 124 = .ok (.iinc 4 1, 3) := by decide +kernel
theorem d_Ms_of_127 : decode b_Ms_of 127 = .ok (.goto (-78), 3) := by decide +kernel
theorem d_Ms_of_130 : decode b_Ms_of 130 = .ok (.aload_n 0, 1) := by decide +kernel
theorem d_Ms_of_131 : decode b_Ms_of 131 = .ok (.getfield 25, 3) := by decide +kernel
theorem d_Ms_of_134 : decode b_Ms_of 134 = .ok (.invokevirtual 44, 3) := by decide +kernel
theorem d_Ms_of_137 : decode b_Ms_of 137 = .ok (.ifCond .ne 27, 3) := by decide +kernel
theorem d_Ms_of_140 : decode b_Ms_of 140 = .ok (.aload_n 0, 1) := by decide +kernel
theorem d_Ms_of_141 : decode b_Ms_of 141 = .ok (.getfield 22, 3) := by decide +kernel
theorem d_Ms_of_144 : decode b_Ms_of 144 = .ok (.aload_n 0, 1) := by decide +kernel
theorem d_Ms_of_145 : decode b_Ms_of 145 = .ok (.getfield 22, 3) := by decide +kernel
theorem d_Ms_of_148 : decode b_Ms_of 148 = .ok (.invokevirtual 67, 3) := by decide +kernel
theorem d_Ms_of_151 : decode b_Ms_of 151 = .ok (.aload_n 0, 1) := by decide +kernel
theorem d_Ms_of_152 : decode b_Ms_of 152 = .ok (.getfield 25, 3) := by decide +kernel
theorem d_Ms_of_155 : decode b_Ms_of 155 = .ok (.invokevirtual 67, 3) := by decide +kernel
theorem d_Ms_of_158 : decode b_Ms_of 158 = .ok (.invokestatic 71, 3) := by decide +kernel
theorem d_Ms_of_161 : decode b_Ms_of 161 = .ok (.invokevirtual 75, 3) := by decide +kernel
theorem d_Ms_of_164 : decode b_Ms_of 164 = .ok (.aload_n 0, 1) := by decide +kernel
theorem d_Ms_of_165 : decode b_Ms_of 165 = .ok (.getfield 22, 3) := by decide +kernel
theorem d_Ms_of_168 : decode b_Ms_of 168 = .ok (.areturn, 1) := by decide +kernel
theorem d_Ms_ofShort_0 : decode b_Ms_ofShort 0 = .ok (.lload_n 0, 1) := by decide +kernel
theorem d_Ms_ofShort_1 : decode b_Ms_ofShort 1 = .ok (.lstore 4, 2) := by decide +kernel
theorem d_Ms_ofShort_3 : decode b_Ms_ofShort 3 = .ok (.lload_n 2, 1) := by decide +kernel
theorem d_Ms_ofShort_4 : decode b_Ms_ofShort 4 = .ok (.lstore 6, 2) := by decide +kernel
theorem d_Ms_ofShort_6 : decode b_Ms_ofShort 6 = .ok (.iconst 0, 1) := by decide +kernel
theorem d_Ms_ofShort_7 : decode b_Ms_ofShort 7 = .ok (.istore 8, 2) := by decide +kernel
theorem d_Ms_ofShort_9 : decode b_Ms_ofShort 9 = .ok (.iload 8, 2) := by decide +kernel
theorem d_Ms_ofShort_11 : decode b_Ms_ofShort 11 = .ok (.ldc 39, 2) := by decide +kernel
theorem d_Ms_ofShort_13 : decode b_Ms_ofShort 13 = .ok (.if_icmp .ge 31, 3) := by decide +kernel
theorem d_Ms_ofShort_16 : decode b_Ms_ofShort 16 = .ok (.lload 6, 2) := by decide +kernel
theorem d_Ms_ofShort_18 : decode b_Ms_ofShort 18 = .ok (.lconst 0, 1) := by decide +kernel
theorem d_Ms_ofShort_19 : decode b_Ms_ofShort 19 = .ok (.lcmp, 1) := by decide +kernel
theorem d_Ms_ofShort_20 : decode b_Ms_ofShort 20 = .ok (.ifCond .eq 24, 3) := by decide +kernel
theorem d_Ms_ofShort_23 : decode b_Ms_ofShort 23 = .ok (.lload 4, 2) := by decide +kernel
theorem d_Ms_ofShort_25 : decode b_Ms_ofShort 25 = .ok (.lload 6, 2) := by decide +kernel
theorem d_Ms_ofShort_27 : decode b_Ms_ofShort 27 = .ok (.lrem, 1) := by decide +kernel
theorem d_Ms_ofShort_28 : decode b_Ms_ofShort 28 = .ok (.lstore 9, 2) := by decide +kernel
theorem d_Ms_ofShort_30 : decode b_Ms_ofShort 30 = .ok (.lload 6, 2) := by decide +kernel
theorem d_Ms_ofShort_32 : decode b_Ms_ofShort 32 = .ok (.lstore 4, 2) := by decide +kernel
theorem d_Ms_ofShort_34 : decode b_Ms_ofShort 34 = .ok (.lload 9, 2) := by decide +kernel
theorem d_Ms_ofShort_36 : decode b_Ms_ofShort 36 = .ok (.lstore 6, 2) := by decide +kernel
theorem d_Ms_ofShort_38 : decode b_Ms_ofShort 38 = .ok (.iinc 8 1, 3) := by decide +kernel
theorem d_Ms_ofShort_41 : decode b_Ms_ofShort 41 = .ok (.goto (-32), 3) := by decide +kernel
theorem d_Ms_ofShort_44 : decode b_Ms_ofShort 44 = .ok (.lload 4, 2) := by decide +kernel
theorem d_Ms_ofShort_46 : decode b_Ms_ofShort 46 = .ok (.lreturn, 1) := by decide +kernel
theorem d_Ms_shift_0 : decode b_Ms_shift 0 = .ok (.aload_n 0, 1) := by decide +kernel
theorem d_Ms_shift_1 : decode b_Ms_shift 1 = .ok (.getfield 22, 3) := by decide +kernel
theorem d_Ms_shift_4 : decode b_Ms_shift 4 = .ok (.astore_n 1, 1) := by decide +kernel
theorem d_Ms_shift_5 : decode b_Ms_shift 5 = .ok (.aload_n 0, 1) := by decide +kernel
theorem d_Ms_shift_6 : decode b_Ms_shift 6 = .ok (.aload_n 0, 1) := by decide +kernel
theorem d_Ms_shift_7 : decode b_Ms_shift 7 = .ok (.getfield 25, 3) := by decide +kernel
theorem d_Ms_shift_10 : decode b_Ms_shift 10 = .ok (.putfield 22, 3) := by decide +kernel
theorem d_Ms_shift_13 : decode b_Ms_shift 13 = .ok (.aload_n 0, 1) := by decide +kernel
theorem d_Ms_shift_14 : decode b_Ms_shift 14 = .ok (.aload_n 0, 1) := by decide +kernel
theorem d_Ms_shift_15 : decode b_Ms_shift 15 = .ok (.getfield 28, 3) := by decide +kernel
theorem d_Ms_shift_18 : decode b_Ms_shift 18 = .ok (.putfield 25, 3) := by decide +kernel
theorem d_Ms_shift_21 : decode b_Ms_shift 21 = .ok (.aload_n 0, 1) := by decide +kernel
theorem d_Ms_shift_22 : decode b_Ms_shift 22 = .ok (.aload_n 1, 1) := by decide +kernel
theorem d_Ms_shift_23 : decode b_Ms_shift 23 = .ok (.putfield 28, 3) := by decide +kernel
theorem d_Ms_shift_26 : decode b_Ms_shift 26 = .ok (.return_, 1) := by decide +kernel
theorem d_Ms_gather_0 : decode b_Ms_gather 0 = .ok (.getstatic 79, 3) := by decide +kernel
theorem d_Ms_gather_3 : decode b_Ms_gather 3 = .ok (.aload_n 0, 1) := by decide +kernel
theorem d_Ms_gather_4 : decode b_Ms_gather 4 = .ok (.getfield 22, 3) := by decide +kernel
theorem d_Ms_gather_7 : decode b_Ms_gather 7 = .ok (.invokevirtual 83, 3) := by decide +kernel
theorem d_Ms_gather_10 : decode b_Ms_gather 10 = .ok (.laload, 1) := by decide +kernel
theorem d_Ms_gather_11 : decode b_Ms_gather 11 = .ok (.lstore_n 1, 1) := by decide +kernel
theorem d_Ms_gather_12 : decode b_Ms_gather 12 = .ok (.aload_n 0, 1) := by decide +kernel
theorem d_Ms_gather_13 : decode b_Ms_gather 13 = .ok (.aload_n 0, 1) := by decide +kernel
theorem d_Ms_gather_14 : decode b_Ms_gather 14 = .ok (.getfield 22, 3) := by decide +kernel
theorem d_Ms_gather_17 : decode b_Ms_gather 17 = .ok (.lload_n 1, 1) := by decide +kernel
theorem d_Ms_gather_18 : decode b_Ms_gather 18 = .ok (.invokevirtual 87, 3) := by decide +kernel
theorem d_Ms_gather_21 : decode b_Ms_gather 21 = .ok (.lstore_n 3, 1) := by decide +kernel
theorem d_Ms_gather_22 : decode b_Ms_gather 22 = .ok (.aload_n 0, 1) := by decide +kernel
theorem d_Ms_gather_23 : decode b_Ms_gather 23 = .ok (.aload_n 0, 1) := by decide +kernel
theorem d_Ms_gather_24 : decode b_Ms_gather 24 = .ok (.getfield 25, 3) := by decide +kernel
theorem d_Ms_gather_27 : decode b_Ms_gather 27 = .ok (.lload_n 1, 1) := by decide +kernel
theorem d_Ms_gather_28 : decode b_Ms_gather 28 = .ok (.invokevirtual 87, 3) := by decide +kernel
theorem d_Ms_gather_31 : decode b_Ms_gather 31 = .ok (.lstore 5, 2) := by decide +kernel
theorem d_Ms_gather_33 : decode b_Ms_gather 33 = .ok (.aload_n 0, 1) := by decide +kernel
theorem d_Ms_gather_34 : decode b_Ms_gather 34 = .ok (.lconst 1, 1) := by decide +kernel
theorem d_Ms_gather_35 : decode b_Ms_gather 35 = .ok (.putfield 91, 3) := by decide +kernel
theorem d_Ms_gather_38 : decode b_Ms_gather 38 = .ok (.aload_n 0, 1) := by decide +kernel
theorem d_Ms_gather_39 : decode b_Ms_gather 39 = .ok (.lconst 0, 1) := by decide +kernel
theorem d_Ms_gather_40 : decode b_Ms_gather 40 = .ok (.putfield 51, 3) := by decide +kernel
theorem d_Ms_gather_43 : decode b_Ms_gather 43 = .ok (.aload_n 0, 1) := by decide +kernel
theorem d_Ms_gather_44 : decode b_Ms_gather 44 = .ok (.lconst 0, 1) := by decide +kernel
theorem d_Ms_gather_45 : decode b_Ms_gather 45 = .ok (.putfield 94, 3) := by decide +kernel
theorem d_Ms_gather_48 : decode b_Ms_gather 48 = .ok (.aload_n 0, 1) := by decide +kernel
theorem d_Ms_gather_49 : decode b_Ms_gather 49 = .ok (.lconst 1, 1) := by decide +kernel
theorem d_Ms_gather_50 : decode b_Ms_gather 50 = .ok (.putfield 97, 3) := by decide +kernel
theorem d_Ms_gather_53 : decode b_Ms_gather 53 = .ok (.iconst 0, 1) := by decide +kernel
theorem d_Ms_gather_54 : decode b_Ms_gather 54 = .ok (.istore 7, 2) := by decide +kernel
theorem d_Ms_gather_56 : decode b_Ms_gather 56 = .ok (.iload 7, 2) := by decide +kernel
theorem d_Ms_gather_58 : decode b_Ms_gather 58 = .ok (.ldc 39, 2) := by decide +kernel
theorem d_Ms_gather_60 : decode b_Ms_gather 60 = .ok (.if_icmp .ge 180, 3) := by decide +kernel
theorem d_Ms_gather_63 : decode b_Ms_gather 63 = .ok (.lload 5, 2) := by decide +kernel
theorem d_Ms_gather_65 : decode b_Ms_gather 65 = .ok (.aload_n 0, 1) := by decide +kernel
theorem d_Ms_gather_66 : decode b_Ms_gather 66 = .ok (.getfield 94, 3) := by decide +kernel
theorem d_Ms_gather_69 : decode b_Ms_gather 69 = .ok (.ladd, 1) := by decide +kernel
theorem d_Ms_gather_70 : decode b_Ms_gather 70 = .ok (.lconst 0, 1) := by decide +kernel
theorem d_Ms_gather_71 : decode b_Ms_gather 71 = .ok (.lcmp, 1) := by decide +kernel
theorem d_Ms_gather_72 : decode b_Ms_gather 72 = .ok (.ifCond .le 168, 3) := by decide +kernel
theorem d_Ms_gather_75 : decode b_Ms_gather 75 = .ok (.lload 5, 2) := by decide +kernel
theorem d_Ms_gather_77 : decode b_Ms_gather 77 = .ok (.aload_n 0, 1) := by decide +kernel
theorem d_Ms_gather_78 : decode b_Ms_gather 78 = .ok (.getfield 97, 3) := by decide +kernel
theorem d_Ms_gather_81 : decode b_Ms_gather 81 = .ok (.ladd, 1) := by decide +kernel
theorem d_Ms_gather_82 : decode b_Ms_gather 82 = .ok (.lconst 0, 1) := by decide +kernel
theorem d_Ms_gather_83 : decode b_Ms_gather 83 = .ok (.lcmp, 1) := by decide +kernel
theorem d_Ms_gather_84 : decode b_Ms_gather 84 = .ok (.ifCond .le 156, 3) := by decide +kernel
theorem d_Ms_gather_87 : decode b_Ms_gather 87 = .ok (.lload_n 3, 1) := by decide +kernel
theorem d_Ms_gather_88 : decode b_Ms_gather 88 = .ok (.aload_n 0, 1) := by decide +kernel
theorem d_Ms_gather_89 : decode b_Ms_gather 89 = .ok (.getfield 91, 3) := by decide +kernel
theorem d_Ms_gather_92 : decode b_Ms_gather 92 = .ok (.ladd, 1) := by decide +kernel
theorem d_Ms_gather_93 : decode b_Ms_gather 93 = .ok (.lload 5, 2) := by decide +kernel
theorem d_Ms_gather_95 : decode b_Ms_gather 95 = .ok (.aload_n 0, 1) := by decide +kernel
theorem d_Ms_gather_96 : decode b_Ms_gather 96 = .ok (.getfield 94, 3) := by decide +kernel
theorem d_Ms_gather_99 : decode b_Ms_gather 99 = .ok (.ladd, 1) := by decide +kernel
theorem d_Ms_gather_100 : decode b_Ms_gather 100 = .ok (.ldiv, 1) := by decide +kernel
theorem d_Ms_gather_101 : decode b_Ms_gather 101 = .ok (.lstore 8, 2) := by decide +kernel
theorem d_Ms_gather_103 : decode b_Ms_gather 103 = .ok (.lload 8, 2) := by decide +kernel
theorem d_Ms_gather_105 : decode b_Ms_gather 105 = .ok (.lload_n 3, 1) := by decide +kernel
theorem d_Ms_gather_106 : decode b_Ms_gather 106 = .ok (.aload_n 0, 1) := by decide +kernel
theorem d_Ms_gather_107 : decode b_Ms_gather 107 = .ok (.getfield 51, 3) := by decide +kernel
theorem d_Ms_gather_110 : decode b_Ms_gather 110 = .ok (.ladd, 1) := by decide +kernel
theorem d_Ms_gather_111 : decode b_Ms_gather 111 = .ok (.lload 5, 2) := by decide +kernel
theorem d_Ms_gather_113 : decode b_Ms_gather 113 = .ok (.aload_n 0, 1) := by decide +kernel
theorem d_Ms_gather_114 : decode b_Ms_gather 114 = .ok (.getfield 97, 3) := by decide +kernel
theorem d_Ms_gather_117 : decode b_Ms_gather 117 = .ok (.ladd, 1) := by decide +kernel
theorem d_Ms_gather_118 : decode b_Ms_gather 118 = .ok (.ldiv, 1) := by decide +kernel
theorem d_Ms_gather_119 : decode b_Ms_gather 119 = .ok (.lcmp, 1) := by decide +kernel
theorem d_Ms_gather_120 : decode b_Ms_gather 120 = .ok (.ifCond .ne 120, 3) := by decide +kernel
theorem d_Ms_gather_123 : decode b_Ms_gather 123 = .ok (.lload 8, 2) := by decide +kernel
theorem d_Ms_gather_125 : decode b_Ms_gather 125 = .ok (.ldc2_w 100, 3) := by decide +kernel
theorem d_Ms_gather_128 : decode b_Ms_gather 128 = .ok (.lcmp, 1) := by decide +kernel
theorem d_Ms_gather_129 : decode b_Ms_gather 129 = .ok (.ifCond .le 6, 3) := by decide +kernel
theorem d_Ms_gather_132 : decode b_Ms_gather 132 = .ok (.goto 108, 3) := by decide +kernel
theorem d_Ms_gather_135 : decode b_Ms_gather 135 = .ok (.aload_n 0, 1) := by decide +kernel
theorem d_Ms_gather_136 : decode b_Ms_gather 136 = .ok (.getfield 91, 3) := by decide +kernel
theorem d_Ms_gather_139 : decode b_Ms_gather 139 = .ok (.lload 8, 2) := by decide +kernel
theorem d_Ms_gather_141 : decode b_Ms_gather 141 = .ok (.aload_n 0, 1) := by decide +kernel
theorem d_Ms_gather_142 : decode b_Ms_gather 142 = .ok (.getfield 94, 3) := by decide +kernel
theorem d_Ms_gather_145 : decode b_Ms_gather 145 = .ok (.lmul, 1) := by decide +kernel
theorem d_Ms_gather_146 : decode b_Ms_gather 146 = .ok (.lsub, 1) := by decide +kernel
theorem d_Ms_gather_147 : decode b_Ms_gather 147 = .ok (.lstore 10, 2) := by decide +kernel
theorem d_Ms_gather_149 : decode b_Ms_gather 149 = .ok (.aload_n 0, 1) := by decide +kernel
theorem d_Ms_gather_150 : decode b_Ms_gather 150 = .ok (.getfield 51, 3) := by decide +kernel
theorem d_Ms_gather_153 : decode b_Ms_gather 153 = .ok (.lload 8, 2) := by decide +kernel
theorem d_Ms_gather_155 : decode b_Ms_gather 155 = .ok (.aload_n 0, 1) := by decide +kernel
theorem d_Ms_gather_156 : decode b_Ms_gather 156 = .ok (.getfield 97, 3) := by decide +kernel
theorem d_Ms_gather_159 : decode b_Ms_gather 159 = .ok (.lmul, 1) := by decide +kernel
theorem d_Ms_gather_160 : decode b_Ms_gather 160 = .ok (.lsub, 1) := by decide +kernel
theorem d_Ms_gather_161 : decode b_Ms_gather 161 = .ok (.lstore 12, 2) := by decide +kernel
theorem d_Ms_gather_163 : decode b_Ms_gather 163 = .ok (.lload 10, 2) := by decide +kernel
theorem d_Ms_gather_165 : decode b_Ms_gather 165 = .ok (.invokestatic 102, 3) := by decide +kernel
theorem d_Ms_gather_168 : decode b_Ms_gather 168 = .ok (.ldc2_w 100, 3) := by decide +kernel
theorem d_Ms_gather_171 : decode b_Ms_gather 171 = .ok (.lcmp, 1) := by decide +kernel
theorem d_Ms_gather_172 : decode b_Ms_gather 172 = .ok (.ifCond .gt 68, 3) := by decide +kernel
theorem d_Ms_gather_175 : decode b_Ms_gather 175 = .ok (.lload 12, 2) := by decide +kernel
theorem d_Ms_gather_177 : decode b_Ms_gather 177 = .ok (.invokestatic 102, 3) := by decide +kernel
theorem d_Ms_gather_180 : decode b_Ms_gather 180 = .ok (.ldc2_w 100, 3) := by decide +kernel
theorem d_Ms_gather_183 : decode b_Ms_gather 183 = .ok (.lcmp, 1) := by decide +kernel
theorem d_Ms_gather_184 : decode b_Ms_gather 184 = .ok (.ifCond .le 6, 3) := by decide +kernel
theorem d_Ms_gather_187 : decode b_Ms_gather 187 = .ok (.goto 53, 3) := by decide +kernel
theorem d_Ms_gather_190 : decode b_Ms_gather 190 = .ok (.aload_n 0, 1) := by decide +kernel
theorem d_Ms_gather_191 : decode b_Ms_gather 191 = .ok (.aload_n 0, 1) := by decide +kernel
theorem d_Ms_gather_192 : decode b_Ms_gather 192 = .ok (.getfield 94, 3) := by decide +kernel
theorem d_Ms_gather_195 : decode b_Ms_gather 195 = .ok (.putfield 91, 3) := by decide +kernel
theorem d_Ms_gather_198 : decode b_Ms_gather 198 = .ok (.aload_n 0, 1) := by decide +kernel
theorem d_Ms_gather_199 : decode b_Ms_gather 199 = .ok (.aload_n 0, 1) := by decide +kernel
theorem d_Ms_gather_200 : decode b_Ms_gather 200 = .ok (.getfield 97, 3) := by decide +kernel
theorem d_Ms_gather_203 : decode b_Ms_gather 203 = .ok (.putfield 51, 3) := by decide +kernel
theorem d_Ms_gather_206 : decode b_Ms_gather 206 = .ok (.aload_n 0, 1) := by decide +kernel
theorem d_Ms_gather_207 : decode b_Ms_gather 207 = .ok (.lload 10, 2) := by decide +kernel
theorem d_Ms_gather_209 : decode b_Ms_gather 209 = .ok (.putfield 94, 3) := by decide +kernel
theorem d_Ms_gather_212 : decode b_Ms_gather 212 = .ok (.aload_n 0, 1) := by decide +kernel
theorem d_Ms_gather_213 : decode b_Ms_gather 213 = .ok (.lload 12, 2) := by decide +kernel
theorem d_Ms_gather_215 : decode b_Ms_gather 215 = .ok (.putfield 97, 3) := by decide +kernel
theorem d_Ms_gather_218 : decode b_Ms_gather 218 = .ok (.lload_n 3, 1) := by decide +kernel
theorem d_Ms_gather_219 : decode b_Ms_gather 219 = .ok (.lload 8, 2) := by decide +kernel
theorem d_Ms_gather_221 : decode b_Ms_gather 221 = .ok (.lload 5, 2) := by decide +kernel
theorem d_Ms_gather_223 : decode b_Ms_gather 223 = .ok (.lmul, 1) := by decide +kernel
theorem d_Ms_gather_224 : decode b_Ms_gather 224 = .ok (.lsub, 1) := by decide +kernel
theorem d_Ms_gather_225 : decode b_Ms_gather 225 = .ok (.lstore 14, 2) := by decide +kernel
theorem d_Ms_gather_227 : decode b_Ms_gather 227 = .ok (.lload 5, 2) := by decide +kernel
theorem d_Ms_gather_229 : decode b_Ms_gather 229 = .ok (.lstore_n 3, 1) := by decide +kernel
theorem d_Ms_gather_230 : decode b_Ms_gather 230 = .ok (.lload 14, 2) := by decide +kernel
theorem d_Ms_gather_232 : decode b_Ms_gather 232 = .ok (.lstore 5, 2) := by decide +kernel
theorem d_Ms_gather_234 : decode b_Ms_gather 234 = .ok (.iinc 7 1, 3) := by decide +kernel
theorem d_Ms_gather_237 : decode b_Ms_gather 237 = .ok (.goto (-181), 3) := by decide +kernel
theorem d_Ms_gather_240 : decode b_Ms_gather 240 = .ok (.return_, 1) := by decide +kernel
theorem d_Ms_leading_0 : decode b_Ms_leading 0 = .ok (.aload_n 0, 1) := by decide +kernel
theorem d_Ms_leading_1 : decode b_Ms_leading 1 = .ok (.getfield 22, 3) := by decide +kernel
theorem d_Ms_leading_4 : decode b_Ms_leading 4 = .ok (.getfield 40, 3) := by decide +kernel
theorem d_Ms_leading_7 : decode b_Ms_leading 7 = .ok (.iconst 1, 1) := by decide +kernel
theorem d_Ms_leading_8 : decode b_Ms_leading 8 = .ok (.isub, 1) := by decide +kernel
theorem d_Ms_leading_9 : decode b_Ms_leading 9 = .ok (.istore 4, 2) := by decide +kernel
theorem d_Ms_leading_11 : decode b_Ms_leading 11 = .ok (.aload_n 1, 1) := by decide +kernel
theorem d_Ms_leading_12 : decode b_Ms_leading 12 = .ok (.iload 4, 2) := by decide +kernel
theorem d_Ms_leading_14 : decode b_Ms_leading 14 = .ok (.invokevirtual 108, 3) := by decide +kernel
theorem d_Ms_leading_17 : decode b_Ms_leading 17 = .ok (.ldc2_w 100, 3) := by decide +kernel
theorem d_Ms_leading_20 : decode b_Ms_leading 20 = .ok (.lmul, 1) := by decide +kernel
theorem d_Ms_leading_21 : decode b_Ms_leading 21 = .ok (.aload_n 1, 1) := by decide +kernel
theorem d_Ms_leading_22 : decode b_Ms_leading 22 = .ok (.iload 4, 2) := by decide +kernel
theorem d_Ms_leading_24 : decode b_Ms_leading 24 = .ok (.iconst 1, 1) := by decide +kernel
theorem d_Ms_leading_25 : decode b_Ms_leading 25 = .ok (.isub, 1) := by decide +kernel
theorem d_Ms_leading_26 : decode b_Ms_leading 26 = .ok (.invokevirtual 108, 3) := by decide +kernel
theorem d_Ms_leading_29 : decode b_Ms_leading 29 = .ok (.ladd, 1) := by decide +kernel
theorem d_Ms_leading_30 : decode b_Ms_leading 30 = .ok (.lstore 5, 2) := by decide +kernel
theorem d_Ms_leading_32 : decode b_Ms_leading 32 = .ok (.lload 5, 2) := by decide +kernel
theorem d_Ms_leading_34 : decode b_Ms_leading 34 = .ok (.ldc2_w 100, 3) := by decide +kernel
theorem d_Ms_leading_37 : decode b_Ms_leading 37 = .ok (.lload_n 2, 1) := by decide +kernel
theorem d_Ms_leading_38 : decode b_Ms_leading 38 = .ok (.ldiv, 1) := by decide +kernel
theorem d_Ms_leading_39 : decode b_Ms_leading 39 = .ok (.lmul, 1) := by decide +kernel
theorem d_Ms_leading_40 : decode b_Ms_leading 40 = .ok (.aload_n 1, 1) := by decide +kernel
theorem d_Ms_leading_41 : decode b_Ms_leading 41 = .ok (.iload 4, 2) := by decide +kernel
theorem d_Ms_leading_43 : decode b_Ms_leading 43 = .ok (.iconst 2, 1) := by decide +kernel
theorem d_Ms_leading_44 : decode b_Ms_leading 44 = .ok (.isub, 1) := by decide +kernel
theorem d_Ms_leading_45 : decode b_Ms_leading 45 = .ok (.invokevirtual 108, 3) := by decide +kernel
theorem d_Ms_leading_48 : decode b_Ms_leading 48 = .ok (.lload_n 2, 1) := by decide +kernel
theorem d_Ms_leading_49 : decode b_Ms_leading 49 = .ok (.ldiv, 1) := by decide +kernel
theorem d_Ms_leading_50 : decode b_Ms_leading 50 = .ok (.ladd, 1) := by decide +kernel
theorem d_Ms_leading_51 : decode b_Ms_leading 51 = .ok (.lreturn, 1) := by decide +kernel
theorem d_Ms_catchUp_0 : decode b_Ms_catchUp 0 = .ok (.aload_n 0, 1) := by decide +kernel
theorem d_Ms_catchUp_1 : decode b_Ms_catchUp 1 = .ok (.getfield 22, 3) := by decide +kernel
theorem d_Ms_catchUp_4 : decode b_Ms_catchUp 4 = .ok (.getfield 40, 3) := by decide +kernel
theorem d_Ms_catchUp_7 : decode b_Ms_catchUp 7 = .ok (.istore_n 1, 1) := by decide +kernel
theorem d_Ms_catchUp_8 : decode b_Ms_catchUp 8 = .ok (.lconst 0, 1) := by decide +kernel
theorem d_Ms_catchUp_9 : decode b_Ms_catchUp 9 = .ok (.lstore_n 2, 1) := by decide +kernel
theorem d_Ms_catchUp_10 : decode b_Ms_catchUp 10 = .ok (.lconst 0, 1) := by decide +kernel
theorem d_Ms_catchUp_11 : decode b_Ms_catchUp 11 = .ok (.lstore 4, 2) := by decide +kernel
theorem d_Ms_catchUp_13 : decode b_Ms_catchUp 13 = .ok (.iconst 0, 1) := by decide +kernel
theorem d_Ms_catchUp_14 : decode b_Ms_catchUp 14 = .ok (.istore 6, 2) := by decide +kernel
theorem d_Ms_catchUp_16 : decode b_Ms_catchUp 16 = .ok (.iload 6, 2) := by decide +kernel
theorem d_Ms_catchUp_18 : decode b_Ms_catchUp 18 = .ok (.iload_n 1, 1) := by decide +kernel
theorem d_Ms_catchUp_19 : decode b_Ms_catchUp 19 = .ok (.if_icmp .ge 127, 3) := by decide +kernel
theorem d_Ms_catchUp_22 : decode b_Ms_catchUp 22 = .ok (.aload_n 0, 1) := by decide +kernel
theorem d_Ms_catchUp_23 : decode b_Ms_catchUp 23 = .ok (.getfield 22, 3) := by decide +kernel
theorem d_Ms_catchUp_26 : decode b_Ms_catchUp 26 = .ok (.getfield 112, 3) := by decide +kernel
theorem d_Ms_catchUp_29 : decode b_Ms_catchUp 29 = .ok (.iload 6, 2) := by decide +kernel
theorem d_Ms_catchUp_31 : decode b_Ms_catchUp 31 = .ok (.laload, 1) := by decide +kernel
theorem d_Ms_catchUp_32 : decode b_Ms_catchUp 32 = .ok (.lstore 7, 2) := by decide +kernel
theorem d_Ms_catchUp_34 : decode b_Ms_catchUp 34 = .ok (.aload_n 0, 1) := by decide +kernel
theorem d_Ms_catchUp_35 : decode b_Ms_catchUp 35 = .ok (.getfield 25, 3) := by decide +kernel
theorem d_Ms_catchUp_38 : decode b_Ms_catchUp 38 = .ok (.iload 6, 2) := by decide +kernel
theorem d_Ms_catchUp_40 : decode b_Ms_catchUp 40 = .ok (.invokevirtual 108, 3) := by decide +kernel
theorem d_Ms_catchUp_43 : decode b_Ms_catchUp 43 = .ok (.lstore 9, 2) := by decide +kernel
theorem d_Ms_catchUp_45 : decode b_Ms_catchUp 45 = .ok (.aload_n 0, 1) := by decide +kernel
theorem d_Ms_catchUp_46 : decode b_Ms_catchUp 46 = .ok (.getfield 91, 3) := by decide +kernel
theorem d_Ms_catchUp_49 : decode b_Ms_catchUp 49 = .ok (.lload 7, 2) := by decide +kernel
theorem d_Ms_catchUp_51 : decode b_Ms_catchUp 51 = .ok (.lmul, 1) := by decide +kernel
theorem d_Ms_catchUp_52 : decode b_Ms_catchUp 52 = .ok (.aload_n 0, 1) := by decide +kernel
theorem d_Ms_catchUp_53 : decode b_Ms_catchUp 53 = .ok (.getfield 51, 3) := by decide +kernel
theorem d_Ms_catchUp_56 : decode b_Ms_catchUp 56 = .ok (.lload 9, 2) := by decide +kernel
theorem d_Ms_catchUp_58 : decode b_Ms_catchUp 58 = .ok (.lmul, 1) := by decide +kernel
theorem d_Ms_catchUp_59 : decode b_Ms_catchUp 59 = .ok (.ladd, 1) := by decide +kernel
theorem d_Ms_catchUp_60 : decode b_Ms_catchUp 60 = .ok (.lload_n 2, 1) := by decide +kernel
theorem d_Ms_catchUp_61 : decode b_Ms_catchUp 61 = .ok (.ladd, 1) := by decide +kernel
theorem d_Ms_catchUp_62 : decode b_Ms_catchUp 62 = .ok (.lstore 11, 2) := by decide +kernel
theorem d_Ms_catchUp_64 : decode b_Ms_catchUp 64 = .ok (.aload_n 0, 1) := by decide +kernel
theorem d_Ms_catchUp_65 : decode b_Ms_catchUp 65 = .ok (.getfield 94, 3) := by decide +kernel
theorem d_Ms_catchUp_68 : decode b_Ms_catchUp 68 = .ok (.lload 7, 2) := by decide +kernel
theorem d_Ms_catchUp_70 : decode b_Ms_catchUp 70 = .ok (.lmul, 1) := by decide +kernel
theorem d_Ms_catchUp_71 : decode b_Ms_catchUp 71 = .ok (.aload_n 0, 1) := by decide +kernel
theorem d_Ms_catchUp_72 : decode b_Ms_catchUp 72 = .ok (.getfield 97, 3) := by decide +kernel
theorem d_Ms_catchUp_75 : decode b_Ms_catchUp 75 = .ok (.lload 9, 2) := by decide +kernel
theorem d_Ms_catchUp_77 : decode b_Ms_catchUp 77 = .ok (.lmul, 1) := by decide +kernel
theorem d_Ms_catchUp_78 : decode b_Ms_catchUp 78 = .ok (.ladd, 1) := by decide +kernel
theorem d_Ms_catchUp_79 : decode b_Ms_catchUp 79 = .ok (.lload 4, 2) := by decide +kernel
theorem d_Ms_catchUp_81 : decode b_Ms_catchUp 81 = .ok (.ladd, 1) := by decide +kernel
theorem d_Ms_catchUp_82 : decode b_Ms_catchUp 82 = .ok (.lstore 13, 2) := by decide +kernel
theorem d_Ms_catchUp_84 : decode b_Ms_catchUp 84 = .ok (.lload 11, 2) := by decide +kernel
theorem d_Ms_catchUp_86 : decode b_Ms_catchUp 86 = .ok (.ldc2_w 100, 3) := by decide +kernel
theorem d_Ms_catchUp_89 : decode b_Ms_catchUp 89 = .ok (.invokestatic 115, 3) := by decide +kernel
theorem d_Ms_catchUp_92 : decode b_Ms_catchUp 92 = .ok (.lstore_n 2, 1) := by decide +kernel
theorem d_Ms_catchUp_93 : decode b_Ms_catchUp 93 = .ok (.lload 13, 2) := by decide +kernel
theorem d_Ms_catchUp_95 : decode b_Ms_catchUp 95 = .ok (.ldc2_w 100, 3) := by decide +kernel
theorem d_Ms_catchUp_98 : decode b_Ms_catchUp 98 = .ok (.invokestatic 115, 3) := by decide +kernel
theorem d_Ms_catchUp_101 : decode b_Ms_catchUp 101 = .ok (.lstore 4, 2) := by decide +kernel
theorem d_Ms_catchUp_103 : decode b_Ms_catchUp 103 = .ok (.aload_n 0, 1) := by decide +kernel
theorem d_Ms_catchUp_104 : decode b_Ms_catchUp 104 = .ok (.getfield 22, 3) := by decide +kernel
theorem d_Ms_catchUp_107 : decode b_Ms_catchUp 107 = .ok (.getfield 112, 3) := by decide +kernel
theorem d_Ms_catchUp_110 : decode b_Ms_catchUp 110 = .ok (.iload 6, 2) := by decide +kernel
theorem d_Ms_catchUp_112 : decode b_Ms_catchUp 112 = .ok (.lload 11, 2) := by decide +kernel
theorem d_Ms_catchUp_114 : decode b_Ms_catchUp 114 = .ok (.lload_n 2, 1) := by decide +kernel
theorem d_Ms_catchUp_115 : decode b_Ms_catchUp 115 = .ok (.ldc2_w 100, 3) := by decide +kernel
theorem d_Ms_catchUp_118 : decode b_Ms_catchUp 118 = .ok (.lmul, 1) := by decide +kernel
theorem d_Ms_catchUp_119 : decode b_Ms_catchUp 119 = .ok (.lsub, 1) := by decide +kernel
theorem d_Ms_catchUp_120 : decode b_Ms_catchUp 120 = .ok (.lastore, 1) := by decide +kernel
theorem d_Ms_catchUp_121 : decode b_Ms_catchUp 121 = .ok (.aload_n 0, 1) := by decide +kernel
theorem d_Ms_catchUp_122 : decode b_Ms_catchUp 122 = .ok (.getfield 25, 3) := by decide +kernel
theorem d_Ms_catchUp_125 : decode b_Ms_catchUp 125 = .ok (.getfield 112, 3) := by decide +kernel
theorem d_Ms_catchUp_128 : decode b_Ms_catchUp 128 = .ok (.iload 6, 2) := by decide +kernel
theorem d_Ms_catchUp_130 : decode b_Ms_catchUp 130 = .ok (.lload 13, 2) := by decide +kernel
theorem d_Ms_catchUp_132 : decode b_Ms_catchUp 132 = .ok (.lload 4, 2) := by decide +kernel
theorem d_Ms_catchUp_134 : decode b_Ms_catchUp 134 = .ok (.ldc2_w 100, 3) := by decide +kernel
theorem d_Ms_catchUp_137 : decode b_Ms_catchUp 137 = .ok (.lmul, 1) := by decide +kernel
theorem d_Ms_catchUp_138 : decode b_Ms_catchUp 138 = .ok (.lsub, 1) := by decide +kernel
theorem d_Ms_catchUp_139 : decode b_Ms_catchUp 139 = .ok (.lastore, 1) := by decide +kernel
theorem d_Ms_catchUp_140 : decode b_Ms_catchUp 140 = .ok (.iinc 6 1, 3) := by decide +kernel
theorem d_Ms_catchUp_143 : decode b_Ms_catchUp 143 = .ok (.goto (-127), 3) := by decide +kernel
theorem d_Ms_catchUp_146 : decode b_Ms_catchUp 146 = .ok (.aload_n 0, 1) := by decide +kernel
theorem d_Ms_catchUp_147 : decode b_Ms_catchUp 147 = .ok (.getfield 22, 3) := by decide +kernel
theorem d_Ms_catchUp_150 : decode b_Ms_catchUp 150 = .ok (.iload_n 1, 1) := by decide +kernel
theorem d_Ms_catchUp_151 : decode b_Ms_catchUp 151 = .ok (.invokevirtual 118, 3) := by decide +kernel
theorem d_Ms_catchUp_154 : decode b_Ms_catchUp 154 = .ok (.aload_n 0, 1) := by decide +kernel
theorem d_Ms_catchUp_155 : decode b_Ms_catchUp 155 = .ok (.getfield 25, 3) := by decide +kernel
theorem d_Ms_catchUp_158 : decode b_Ms_catchUp 158 = .ok (.iload_n 1, 1) := by decide +kernel
theorem d_Ms_catchUp_159 : decode b_Ms_catchUp 159 = .ok (.invokevirtual 118, 3) := by decide +kernel
theorem d_Ms_catchUp_162 : decode b_Ms_catchUp 162 = .ok (.return_, 1) := by decide +kernel
end
section
theorem d_Mt_abs_0 : decode b_Mt_abs 0 = .ok (.lload_n 0, 1) := by decide +kernel
theorem d_Mt_abs_1 : decode b_Mt_abs 1 = .ok (.lconst 0, 1) := by decide +kernel
theorem d_Mt_abs_2 : decode b_Mt_abs 2 = .ok (.lcmp, 1) := by decide +kernel
theorem d_Mt_abs_3 : decode b_Mt_abs 3 = .ok (.ifCond .ge 8, 3) := by decide +kernel
theorem d_Mt_abs_6 : decode b_Mt_abs 6 = .ok (.lload_n 0, 1) := by decide +kernel
theorem d_Mt_abs_7 : decode b_Mt_abs 7 = .ok (.lneg, 1) := by decide +kernel
theorem d_Mt_abs_8 : decode b_Mt_abs 8 = .ok (.goto 4, 3) := by decide +kernel
theorem d_Mt_abs_11 : decode b_Mt_abs 11 = .ok (.lload_n 0, 1) := by decide +kernel
theorem d_Mt_abs_12 : decode b_Mt_abs 12 = .ok (.lreturn, 1) := by decide +kernel
theorem d_Mt_floorDiv_0 : decode b_Mt_floorDiv 0 = .ok (.lload_n 0, 1) := by decide +kernel
theorem d_Mt_floorDiv_1 : decode b_Mt_floorDiv 1 = .ok (.lload_n 2, 1) := by decide +kernel
theorem d_Mt_floorDiv_2 : decode b_Mt_floorDiv 2 = .ok (.ldiv, 1) := by decide +kernel
theorem d_Mt_floorDiv_3 : decode b_Mt_floorDiv 3 = .ok (.lstore 4, 2) := by decide +kernel
theorem d_Mt_floorDiv_5 : decode b_Mt_floorDiv 5 = .ok (.lload_n 0, 1) := by decide +kernel
theorem d_Mt_floorDiv_6 : decode b_Mt_floorDiv 6 = .ok (.lload_n 2, 1) := by decide +kernel
theorem d_Mt_floorDiv_7 : decode b_Mt_floorDiv 7 = .ok (.lxor, 1) := by decide +kernel
theorem d_Mt_floorDiv_8 : decode b_Mt_floorDiv 8 = .ok (.lconst 0, 1) := by decide +kernel
theorem d_Mt_floorDiv_9 : decode b_Mt_floorDiv 9 = .ok (.lcmp, 1) := by decide +kernel
theorem d_Mt_floorDiv_10 : decode b_Mt_floorDiv 10 = .ok (.ifCond .ge 17, 3) := by decide +kernel
theorem d_Mt_floorDiv_13 : decode b_Mt_floorDiv 13 = .ok (.lload 4, 2) := by decide +kernel
theorem d_Mt_floorDiv_15 : decode b_Mt_floorDiv 15 = .ok (.lload_n 2, 1) := by decide +kernel
theorem d_Mt_floorDiv_16 : decode b_Mt_floorDiv 16 = .ok (.lmul, 1) := by decide +kernel
theorem d_Mt_floorDiv_17 : decode b_Mt_floorDiv 17 = .ok (.lload_n 0, 1) := by decide +kernel
theorem d_Mt_floorDiv_18 : decode b_Mt_floorDiv 18 = .ok (.lcmp, 1) := by decide +kernel
theorem d_Mt_floorDiv_19 : decode b_Mt_floorDiv 19 = .ok (.ifCond .eq 8, 3) := by decide +kernel
theorem d_Mt_floorDiv_22 : decode b_Mt_floorDiv 22 = .ok (.lload 4, 2) := by decide +kernel
theorem d_Mt_floorDiv_24 : decode b_Mt_floorDiv 24 = .ok (.lconst 1, 1) := by decide +kernel
theorem d_Mt_floorDiv_25 : decode b_Mt_floorDiv 25 = .ok (.lsub, 1) := by decide +kernel
theorem d_Mt_floorDiv_26 : decode b_Mt_floorDiv 26 = .ok (.lreturn, 1) := by decide +kernel
theorem d_Mt_floorDiv_27 : decode b_Mt_floorDiv 27 = .ok (.lload 4, 2) := by decide +kernel
theorem d_Mt_floorDiv_29 : decode b_Mt_floorDiv 29 = .ok (.lreturn, 1) := by decide +kernel
theorem d_Mt_max_0 : decode b_Mt_max 0 = .ok (.iload_n 0, 1) := by decide +kernel
theorem d_Mt_max_1 : decode b_Mt_max 1 = .ok (.iload_n 1, 1) := by decide +kernel
theorem d_Mt_max_2 : decode b_Mt_max 2 = .ok (.if_icmp .lt 7, 3) := by decide +kernel
theorem d_Mt_max_5 : decode b_Mt_max 5 = .ok (.iload_n 0, 1) := by decide +kernel
theorem d_Mt_max_6 : decode b_Mt_max 6 = .ok (.goto 4, 3) := by decide +kernel
theorem d_Mt_max_9 : decode b_Mt_max 9 = .ok (.iload_n 1, 1) := by decide +kernel
theorem d_Mt_max_10 : decode b_Mt_max 10 = .ok (.ireturn, 1) := by decide +kernel
theorem d_Mt_min_0 : decode b_Mt_min 0 = .ok (.iload_n 0, 1) := by decide +kernel
theorem d_Mt_min_1 : decode b_Mt_min 1 = .ok (.iload_n 1, 1) := by decide +kernel
theorem d_Mt_min_2 : decode b_Mt_min 2 = .ok (.if_icmp .gt 7, 3) := by decide +kernel
theorem d_Mt_min_5 : decode b_Mt_min 5 = .ok (.iload_n 0, 1) := by decide +kernel
theorem d_Mt_min_6 : decode b_Mt_min 6 = .ok (.goto 4, 3) := by decide +kernel
theorem d_Mt_min_9 : decode b_Mt_min 9 = .ok (.iload_n 1, 1) := by decide +kernel
theorem d_Mt_min_10 : decode b_Mt_min 10 = .ok (.ireturn, 1) := by decide +kernel
end
section
theorem d_Wh_init_0 : decode b_Wh_init 0 = .ok (.aload_n 0, 1) := by decide +kernel
theorem d_Wh_init_1 : decode b_Wh_init 1 = .ok (.invokespecial 3, 3) := by decide +kernel
theorem d_Wh_init_4 : decode b_Wh_init 4 = .ok (.aload_n 0, 1) := by decide +kernel
theorem d_Wh_init_5 : decode b_Wh_init 5 = .ok (.bipush 41, 2) := by decide +kernel
theorem d_Wh_init_7 : decode b_Wh_init 7 = .ok (.newarray .long, 2) := by decide +kernel
theorem d_Wh_init_9 : decode b_Wh_init 9 = .ok (.putfield 9, 3) := by decide +kernel
theorem d_Wh_init_12 : decode b_Wh_init 12 = .ok (.aload_n 0, 1) := by decide +kernel
theorem d_Wh_init_13 : decode b_Wh_init 13 = .ok (.iconst 0, 1) := by decide +kernel
theorem d_Wh_init_14 : decode b_Wh_init 14 = .ok (.putfield 15, 3) := by decide +kernel
theorem d_Wh_init_17 : decode b_Wh_init 17 = .ok (.return_, 1) := by decide +kernel
theorem d_Wh_requireRoom_0 : decode b_Wh_requireRoom 0 = .ok (.iload_n 0, 1) := by decide +kernel
theorem d_Wh_requireRoom_1 : decode b_Wh_requireRoom 1 = .ok (.bipush 41, 2) := by decide +kernel
theorem d_Wh_requireRoom_3 : decode b_Wh_requireRoom 3 = .ok (.if_icmp .le 13, 3) := by decide +kernel
theorem d_Wh_requireRoom_6 : decode b_Wh_requireRoom 6 = .ok (.new 19, 3) := by decide +kernel
theorem d_Wh_requireRoom_9 : decode b_Wh_requireRoom 9 = .ok (.dup, 1) := by decide +kernel
theorem d_Wh_requireRoom_10 : decode b_Wh_requireRoom 10 = .ok (.ldc 21, 2) := by decide +kernel
theorem d_Wh_requireRoom_12 : decode b_Wh_requireRoom 12 = .ok (.invokespecial 23, 3) := by decide +kernel
theorem d_Wh_requireRoom_15 : decode b_Wh_requireRoom 15 = .ok (.athrow, 1) := by decide +kernel
theorem d_Wh_requireRoom_16 : decode b_Wh_requireRoom 16 = .ok (.return_, 1) := by decide +kernel
theorem d_Wh_settle_0 : decode b_Wh_settle 0 = .ok (.aload_n 0, 1) := by decide +kernel
theorem d_Wh_settle_1 : decode b_Wh_settle 1 = .ok (.iload_n 1, 1) := by decide +kernel
theorem d_Wh_settle_2 : decode b_Wh_settle 2 = .ok (.putfield 15, 3) := by decide +kernel
theorem d_Wh_settle_5 : decode b_Wh_settle 5 = .ok (.aload_n 0, 1) := by decide +kernel
theorem d_Wh_settle_6 : decode b_Wh_settle 6 = .ok (.getfield 15, 3) := by decide +kernel
theorem d_Wh_settle_9 : decode b_Wh_settle 9 = .ok (.ifCond .le 32, 3) := by decide +kernel
theorem d_Wh_settle_12 : decode b_Wh_settle 12 = .ok (.aload_n 0, 1) := by decide +kernel
theorem d_Wh_settle_13 : decode b_Wh_settle 13 = .ok (.getfield 9, 3) := by decide +kernel
theorem d_Wh_settle_16 : decode b_Wh_settle 16 = .ok (.aload_n 0, 1) := by decide +kernel
theorem d_Wh_settle_17 : decode b_Wh_settle 17 = .ok (.getfield 15, 3) := by decide +kernel
theorem d_Wh_settle_20 : decode b_Wh_settle 20 = .ok (.iconst 1, 1) := by decide +kernel
theorem d_Wh_settle_21 : decode b_Wh_settle 21 = .ok (.isub, 1) := by decide +kernel
theorem d_Wh_settle_22 : decode b_Wh_settle 22 = .ok (.laload, 1) := by decide +kernel
theorem d_Wh_settle_23 : decode b_Wh_settle 23 = .ok (.lconst 0, 1) := by decide +kernel
theorem d_Wh_settle_24 : decode b_Wh_settle 24 = .ok (.lcmp, 1) := by decide +kernel
theorem d_Wh_settle_25 : decode b_Wh_settle 25 = .ok (.ifCond .ne 16, 3) := by decide +kernel
theorem d_Wh_settle_28 : decode b_Wh_settle 28 = .ok (.aload_n 0, 1) := by decide +kernel
theorem d_Wh_settle_29 : decode b_Wh_settle 29 = .ok (.dup, 1) := by decide +kernel
theorem d_Wh_settle_30 : decode b_Wh_settle 30 = .ok (.getfield 15, 3) := by decide +kernel
theorem d_Wh_settle_33 : decode b_Wh_settle 33 = .ok (.iconst 1, 1) := by decide +kernel
theorem d_Wh_settle_34 : decode b_Wh_settle 34 = .ok (.isub, 1) := by decide +kernel
theorem d_Wh_settle_35 : decode b_Wh_settle 35 = .ok (.putfield 15, 3) := by decide +kernel
theorem d_Wh_settle_38 : decode b_Wh_settle 38 = .ok (.goto (-33), 3) := by decide +kernel
theorem d_Wh_settle_41 : decode b_Wh_settle 41 = .ok (.return_, 1) := by decide +kernel
theorem d_Wh_limbAt_0 : decode b_Wh_limbAt 0 = .ok (.iload_n 1, 1) := by decide +kernel
theorem d_Wh_limbAt_1 : decode b_Wh_limbAt 1 = .ok (.ifCond .lt 20, 3) := by decide +kernel
theorem d_Wh_limbAt_4 : decode b_Wh_limbAt 4 = .ok (.iload_n 1, 1) := by decide +kernel
theorem d_Wh_limbAt_5 : decode b_Wh_limbAt 5 = .ok (.aload_n 0, 1) := by decide +kernel
theorem d_Wh_limbAt_6 : decode b_Wh_limbAt 6 = .ok (.getfield 15, 3) := by decide +kernel
theorem d_Wh_limbAt_9 : decode b_Wh_limbAt 9 = .ok (.if_icmp .ge 12, 3) := by decide +kernel
theorem d_Wh_limbAt_12 : decode b_Wh_limbAt 12 = .ok (.aload_n 0, 1) := by decide +kernel
theorem d_Wh_limbAt_13 : decode b_Wh_limbAt 13 = .ok (.getfield 9, 3) := by decide +kernel
theorem d_Wh_limbAt_16 : decode b_Wh_limbAt 16 = .ok (.iload_n 1, 1) := by decide +kernel
theorem d_Wh_limbAt_17 : decode b_Wh_limbAt 17 = .ok (.laload, 1) := by decide +kernel
theorem d_Wh_limbAt_18 : decode b_Wh_limbAt 18 = .ok (.goto 4, 3) := by decide +kernel
theorem d_Wh_limbAt_21 : decode b_Wh_limbAt 21 = .ok (.lconst 0, 1) := by decide +kernel
theorem d_Wh_limbAt_22 : decode b_Wh_limbAt 22 = .ok (.lreturn, 1) := by decide +kernel
theorem d_Wh_become_0 : decode b_Wh_become 0 = .ok (.lload_n 1, 1) := by decide +kernel
theorem d_Wh_become_1 : decode b_Wh_become 1 = .ok (.lstore_n 3, 1) := by decide +kernel
theorem d_Wh_become_2 : decode b_Wh_become 2 = .ok (.aload_n 0, 1) := by decide +kernel
theorem d_Wh_become_3 : decode b_Wh_become 3 = .ok (.iconst 0, 1) := by decide +kernel
theorem d_Wh_become_4 : decode b_Wh_become 4 = .ok (.putfield 15, 3) := by decide +kernel
theorem d_Wh_become_7 : decode b_Wh_become 7 = .ok (.lload_n 3, 1) := by decide +kernel
theorem d_Wh_become_8 : decode b_Wh_become 8 = .ok (.lconst 0, 1) := by decide +kernel
theorem d_Wh_become_9 : decode b_Wh_become 9 = .ok (.lcmp, 1) := by decide +kernel
theorem d_Wh_become_10 : decode b_Wh_become 10 = .ok (.ifCond .le 45, 3) := by decide +kernel
theorem d_Wh_become_13 : decode b_Wh_become 13 = .ok (.aload_n 0, 1) := by decide +kernel
theorem d_Wh_become_14 : decode b_Wh_become 14 = .ok (.getfield 15, 3) := by decide +kernel
theorem d_Wh_become_17 : decode b_Wh_become 17 = .ok (.bipush 41, 2) := by decide +kernel
theorem d_Wh_become_19 : decode b_Wh_become 19 = .ok (.if_icmp .ge 36, 3) := by decide +kernel
theorem d_Wh_become_22 : decode b_Wh_become 22 = .ok (.aload_n 0, 1) := by decide +kernel
theorem d_Wh_become_23 : decode b_Wh_become 23 = .ok (.getfield 9, 3) := by decide +kernel
theorem d_Wh_become_26 : decode b_Wh_become 26 = .ok (.aload_n 0, 1) := by decide +kernel
theorem d_Wh_become_27 : decode b_Wh_become 27 = .ok (.getfield 15, 3) := by decide +kernel
theorem d_Wh_become_30 : decode b_Wh_become 30 = .ok (.lload_n 3, 1) := by decide +kernel
theorem d_Wh_become_31 : decode b_Wh_become 31 = .ok (.ldc2_w 26, 3) := by decide +kernel
theorem d_Wh_become_34 : decode b_Wh_become 34 = .ok (.lrem, 1) := by decide +kernel
theorem d_Wh_become_35 : decode b_Wh_become 35 = .ok (.lastore, 1) := by decide +kernel
theorem d_Wh_become_36 : decode b_Wh_become 36 = .ok (.lload_n 3, 1) := by decide +kernel
theorem d_Wh_become_37 : decode b_Wh_become 37 = .ok (.ldc2_w 26, 3) := by decide +kernel
theorem d_Wh_become_40 : decode b_Wh_become 40 = .ok (.ldiv, 1) := by decide +kernel
theorem d_Wh_become_41 : decode b_Wh_become 41 = .ok (.lstore_n 3, 1) := by decide +kernel
theorem d_Wh_become_42 : decode b_Wh_become 42 = .ok (.aload_n 0, 1) := by decide +kernel
theorem d_Wh_become_43 : decode b_Wh_become 43 = .ok (.dup, 1) := by decide +kernel
theorem d_Wh_become_44 : decode b_Wh_become 44 = .ok (.getfield 15, 3) := by decide +kernel
theorem d_Wh_become_47 : decode b_Wh_become 47 = .ok (.iconst 1, 1) := by decide +kernel
theorem d_Wh_become_48 : decode b_Wh_become 48 = .ok (.iadd, 1) := by decide +kernel
theorem d_Wh_become_49 : decode b_Wh_become 49 = .ok (.putfield 15, 3) := by decide +kernel
theorem d_Wh_become_52 : decode b_Wh_become 52 = .ok (.goto (-45), 3) := by decide +kernel
theorem d_Wh_become_55 : decode b_Wh_become 55 = .ok (.return_, 1) := by decide +kernel
theorem d_Wh_becomeTenTo_0 : decode b_Wh_becomeTenTo 0 = .ok (.iload_n 1, 1) := by decide +kernel
theorem d_Wh_becomeTenTo_1 : decode b_Wh_becomeTenTo 1 = .ok (.bipush 9, 2) := by decide +kernel
theorem d_Wh_becomeTenTo_3 : decode b_Wh_becomeTenTo 3 = .ok (.idiv, 1) := by decide +kernel
theorem d_Wh_becomeTenTo_4 : decode b_Wh_becomeTenTo 4 = .ok (.istore_n 2, 1) := by decide +kernel
theorem d_Wh_becomeTenTo_5 : decode b_Wh_becomeTenTo 5 = .ok (.iload_n 2, 1) := by decide +kernel
theorem d_Wh_becomeTenTo_6 : decode b_Wh_becomeTenTo 6 = .ok (.iconst 1, 1) := by decide +kernel
theorem d_Wh_becomeTenTo_7 : decode b_Wh_becomeTenTo 7 = .ok (.iadd, 1) := by decide +kernel
theorem d_Wh_becomeTenTo_8 : decode b_Wh_becomeTenTo 8 = .ok (.invokestatic 28, 3) := by decide +kernel
theorem d_Wh_becomeTenTo_11 : decode b_Wh_becomeTenTo 11 = .ok (.iconst 0, 1) := by decide +kernel
theorem d_Wh_becomeTenTo_12 : decode b_Wh_becomeTenTo 12 = .ok (.istore_n 3, 1) := by decide +kernel
theorem d_Wh_becomeTenTo_13 : decode b_Wh_becomeTenTo 13 = .ok (.iload_n 3, 1) := by decide +kernel
theorem d_Wh_becomeTenTo_14 : decode b_Wh_becomeTenTo 14 = .ok (.iload_n 2, 1) := by decide +kernel
theorem d_Wh_becomeTenTo_15 : decode b_Wh_becomeTenTo 15 = .ok (.if_icmp .ge 16, 3) := by decide +kernel
theorem d_Wh_becomeTenTo_18 : decode b_Wh_becomeTenTo 18 = .ok (.aload_n 0, 1) := by decide +kernel
theorem d_Wh_becomeTenTo_19 : decode b_Wh_becomeTenTo 19 = .ok (.getfield 9, 3) := by decide +kernel
theorem d_Wh_becomeTenTo_22 : decode b_Wh_becomeTenTo 22 = .ok (.iload_n 3, 1) := by decide +kernel
theorem d_Wh_becomeTenTo_23 : decode b_Wh_becomeTenTo 23 = .ok (.lconst 0, 1) := by decide +kernel
theorem d_Wh_becomeTenTo_24 : decode b_Wh_becomeTenTo 24 = .ok (.lastore, 1) := by decide +kernel
theorem d_Wh_becomeTenTo_25 : decode b_Wh_becomeTenTo 25 = .ok (.iinc 3 1, 3) := by decide +kernel
theorem d_Wh_becomeTenTo_28 : decode b_Wh_becomeTenTo 28 = .ok (.goto (-15), 3) := by decide +kernel
theorem d_Wh_becomeTenTo_31 : decode b_Wh_becomeTenTo 31 = .ok (.aload_n 0, 1) := by decide +kernel
theorem d_Wh_becomeTenTo_32 : decode b_Wh_becomeTenTo 32 = .ok (.getfield 9, 3) := by decide +kernel
theorem d_Wh_becomeTenTo_35 : decode b_Wh_becomeTenTo 35 = .ok (.iload_n 2, 1) := by decide +kernel
theorem d_Wh_becomeTenTo_36 : decode b_Wh_becomeTenTo 36 = .ok (.getstatic 32, 3) := by decide +kernel
theorem d_Wh_becomeTenTo_39 : decode b_Wh_becomeTenTo 39 = .ok (.iload_n 1, 1) := by decide +kernel
theorem d_Wh_becomeTenTo_40 : decode b_Wh_becomeTenTo 40 = .ok (.bipush 9, 2) := by decide +kernel
theorem d_Wh_becomeTenTo_42 : decode b_Wh_becomeTenTo 42 = .ok (.irem, 1) := by decide +kernel
theorem d_Wh_becomeTenTo_43 : decode b_Wh_becomeTenTo 43 = .ok (.laload, 1) := by decide +kernel
theorem d_Wh_becomeTenTo_44 : decode b_Wh_becomeTenTo 44 = .ok (.lastore, 1) := by decide +kernel
theorem d_Wh_becomeTenTo_45 : decode b_Wh_becomeTenTo 45 = .ok (.aload_n 0, 1) := by decide +kernel
theorem d_Wh_becomeTenTo_46 : decode b_Wh_becomeTenTo 46 = .ok (.iload_n 2, 1) := by decide +kernel
theorem d_Wh_becomeTenTo_47 : decode b_Wh_becomeTenTo 47 = .ok (.iconst 1, 1) := by decide +kernel
theorem d_Wh_becomeTenTo_48 : decode b_Wh_becomeTenTo 48 = .ok (.iadd, 1) := by decide +kernel
theorem d_Wh_becomeTenTo_49 : decode b_Wh_becomeTenTo 49 = .ok (.putfield 15, 3) := by decide +kernel
theorem d_Wh_becomeTenTo_52 : decode b_Wh_becomeTenTo 52 = .ok (.return_, 1) := by decide +kernel
theorem d_Wh_copyFrom_0 : decode b_Wh_copyFrom 0 = .ok (.aload_n 1, 1) := by decide +kernel
theorem d_Wh_copyFrom_1 : decode b_Wh_copyFrom 1 = .ok (.getfield 9, 3) := by decide +kernel
theorem d_Wh_copyFrom_4 : decode b_Wh_copyFrom 4 = .ok (.iconst 0, 1) := by decide +kernel
theorem d_Wh_copyFrom_5 : decode b_Wh_copyFrom 5 = .ok (.aload_n 0, 1) := by decide +kernel
theorem d_Wh_copyFrom_6 : decode b_Wh_copyFrom 6 = .ok (.getfield 9, 3) := by decide +kernel
theorem d_Wh_copyFrom_9 : decode b_Wh_copyFrom 9 = .ok (.iconst 0, 1) := by decide +kernel
theorem d_Wh_copyFrom_10 : decode b_Wh_copyFrom 10 = .ok (.aload_n 1, 1) := by decide +kernel
theorem d_Wh_copyFrom_11 : decode b_Wh_copyFrom 11 = .ok (.getfield 15, 3) := by decide +kernel
theorem d_Wh_copyFrom_14 : decode b_Wh_copyFrom 14 = .ok (.invokestatic 35, 3) := by decide +kernel
theorem d_Wh_copyFrom_17 : decode b_Wh_copyFrom 17 = .ok (.aload_n 0, 1) := by decide +kernel
theorem d_Wh_copyFrom_18 : decode b_Wh_copyFrom 18 = .ok (.aload_n 1, 1) := by decide +kernel
theorem d_Wh_copyFrom_19 : decode b_Wh_copyFrom 19 = .ok (.getfield 15, 3) := by decide +kernel
theorem d_Wh_copyFrom_22 : decode b_Wh_copyFrom 22 = .ok (.putfield 15, 3) := by decide +kernel
theorem d_Wh_copyFrom_25 : decode b_Wh_copyFrom 25 = .ok (.return_, 1) := by decide +kernel
theorem d_Wh_lowest_0 : decode b_Wh_lowest 0 = .ok (.aload_n 0, 1) := by decide +kernel
theorem d_Wh_lowest_1 : decode b_Wh_lowest 1 = .ok (.iconst 1, 1) := by decide +kernel
theorem d_Wh_lowest_2 : decode b_Wh_lowest 2 = .ok (.invokevirtual 41, 3) := by decide +kernel
theorem d_Wh_lowest_5 : decode b_Wh_lowest 5 = .ok (.ldc2_w 26, 3) := by decide +kernel
theorem d_Wh_lowest_8 : decode b_Wh_lowest 8 = .ok (.lmul, 1) := by decide +kernel
theorem d_Wh_lowest_9 : decode b_Wh_lowest 9 = .ok (.aload_n 0, 1) := by decide +kernel
theorem d_Wh_lowest_10 : decode b_Wh_lowest 10 = .ok (.iconst 0, 1) := by decide +kernel
theorem d_Wh_lowest_11 : decode b_Wh_lowest 11 = .ok (.invokevirtual 41, 3) := by decide +kernel
theorem d_Wh_lowest_14 : decode b_Wh_lowest 14 = .ok (.ladd, 1) := by decide +kernel
theorem d_Wh_lowest_15 : decode b_Wh_lowest 15 = .ok (.lreturn, 1) := by decide +kernel
theorem d_Wh_isZero_0 : decode b_Wh_isZero 0 = .ok (.aload_n 0, 1) := by decide +kernel
theorem d_Wh_isZero_1 : decode b_Wh_isZero 1 = .ok (.getfield 15, 3) := by decide +kernel
theorem d_Wh_isZero_4 : decode b_Wh_isZero 4 = .ok (.ifCond .ne 7, 3) := by decide +kernel
theorem d_Wh_isZero_7 : decode b_Wh_isZero 7 = .ok (.iconst 1, 1) := by decide +kernel
theorem d_Wh_isZero_8 : decode b_Wh_isZero 8 = .ok (.goto 4, 3) := by decide +kernel
theorem d_Wh_isZero_11 : decode b_Wh_isZero 11 = .ok (.iconst 0, 1) := by decide +kernel
theorem d_Wh_isZero_12 : decode b_Wh_isZero 12 = .ok (.ireturn, 1) := by decide +kernel
theorem d_Wh_isOne_0 : decode b_Wh_isOne 0 = .ok (.aload_n 0, 1) := by decide +kernel
theorem d_Wh_isOne_1 : decode b_Wh_isOne 1 = .ok (.getfield 15, 3) := by decide +kernel
theorem d_Wh_isOne_4 : decode b_Wh_isOne 4 = .ok (.iconst 1, 1) := by decide +kernel
theorem d_Wh_isOne_5 : decode b_Wh_isOne 5 = .ok (.if_icmp .ne 18, 3) := by decide +kernel
theorem d_Wh_isOne_8 : decode b_Wh_isOne 8 = .ok (.aload_n 0, 1) := by decide +kernel
theorem d_Wh_isOne_9 : decode b_Wh_isOne 9 = .ok (.getfield 9, 3) := by decide +kernel
theorem d_Wh_isOne_12 : decode b_Wh_isOne 12 = .ok (.iconst 0, 1) := by decide +kernel
theorem d_Wh_isOne_13 : decode b_Wh_isOne 13 = .ok (.laload, 1) := by decide +kernel
theorem d_Wh_isOne_14 : decode b_Wh_isOne 14 = .ok (.lconst 1, 1) := by decide +kernel
theorem d_Wh_isOne_15 : decode b_Wh_isOne 15 = .ok (.lcmp, 1) := by decide +kernel
theorem d_Wh_isOne_16 : decode b_Wh_isOne 16 = .ok (.ifCond .ne 7, 3) := by decide +kernel
theorem d_Wh_isOne_19 : decode b_Wh_isOne 19 = .ok (.iconst 1, 1) := by decide +kernel
theorem d_Wh_isOne_20 : decode b_Wh_isOne 20 = .ok (.goto 4, 3) := by decide +kernel
theorem d_Wh_isOne_23 : decode b_Wh_isOne 23 = .ok (.iconst 0, 1) := by decide +kernel
theorem d_Wh_isOne_24 : decode b_Wh_isOne 24 = .ok (.ireturn, 1) := by decide +kernel
theorem d_Wh_order_0 : decode b_Wh_order 0 = .ok (.aload_n 0, 1) := by decide +kernel
theorem d_Wh_order_1 : decode b_Wh_order 1 = .ok (.getfield 15, 3) := by decide +kernel
theorem d_Wh_order_4 : decode b_Wh_order 4 = .ok (.aload_n 1, 1) := by decide +kernel
theorem d_Wh_order_5 : decode b_Wh_order 5 = .ok (.getfield 15, 3) := by decide +kernel
theorem d_Wh_order_8 : decode b_Wh_order 8 = .ok (.if_icmp .eq 20, 3) := by decide +kernel
theorem d_Wh_order_11 : decode b_Wh_order 11 = .ok (.aload_n 0, 1) := by decide +kernel
theorem d_Wh_order_12 : decode b_Wh_order 12 = .ok (.getfield 15, 3) := by decide +kernel
theorem d_Wh_order_15 : decode b_Wh_order 15 = .ok (.aload_n 1, 1) := by decide +kernel
theorem d_Wh_order_16 : decode b_Wh_order 16 = .ok (.getfield 15, 3) := by decide +kernel
theorem d_Wh_order_19 : decode b_Wh_order 19 = .ok (.if_icmp .ge 7, 3) := by decide +kernel
theorem d_Wh_order_22 : decode b_Wh_order 22 = .ok (.iconst (-1), 1) := by decide +kernel
theorem d_Wh_order_23 : decode b_Wh_order 23 = .ok (.goto 4, 3) := by decide +kernel
theorem d_Wh_order_26 : decode b_Wh_order 26 = .ok (.iconst 1, 1) := by decide +kernel
theorem d_Wh_order_27 : decode b_Wh_order 27 = .ok (.ireturn, 1) := by decide +kernel
theorem d_Wh_order_28 : decode b_Wh_order 28 = .ok (.aload_n 0, 1) := by decide +kernel
theorem d_Wh_order_29 : decode b_Wh_order 29 = .ok (.getfield 15, 3) := by decide +kernel
theorem d_Wh_order_32 : decode b_Wh_order 32 = .ok (.iconst 1, 1) := by decide +kernel
theorem d_Wh_order_33 : decode b_Wh_order 33 = .ok (.isub, 1) := by decide +kernel
theorem d_Wh_order_34 : decode b_Wh_order 34 = .ok (.istore_n 2, 1) := by decide +kernel
theorem d_Wh_order_35 : decode b_Wh_order 35 = .ok (.iload_n 2, 1) := by decide +kernel
theorem d_Wh_order_36 : decode b_Wh_order 36 = .ok (.ifCond .lt 47, 3) := by decide +kernel
theorem d_Wh_order_39 : decode b_Wh_order 39 = .ok (.aload_n 0, 1) := by decide +kernel
theorem d_Wh_order_40 : decode b_Wh_order 40 = .ok (.getfield 9, 3) := by decide +kernel
theorem d_Wh_order_43 : decode b_Wh_order 43 = .ok (.iload_n 2, 1) := by decide +kernel
theorem d_Wh_order_44 : decode b_Wh_order 44 = .ok (.laload, 1) := by decide +kernel
theorem d_Wh_order_45 : decode b_Wh_order 45 = .ok (.aload_n 1, 1) := by decide +kernel
theorem d_Wh_order_46 : decode b_Wh_order 46 = .ok (.getfield 9, 3) := by decide +kernel
theorem d_Wh_order_49 : decode b_Wh_order 49 = .ok (.iload_n 2, 1) := by decide +kernel
theorem d_Wh_order_50 : decode b_Wh_order 50 = .ok (.laload, 1) := by decide +kernel
theorem d_Wh_order_51 : decode b_Wh_order 51 = .ok (.lcmp, 1) := by decide +kernel
theorem d_Wh_order_52 : decode b_Wh_order 52 = .ok (.ifCond .eq 25, 3) := by decide +kernel
theorem d_Wh_order_55 : decode b_Wh_order 55 = .ok (.aload_n 0, 1) := by decide +kernel
theorem d_Wh_order_56 : decode b_Wh_order 56 = .ok (.getfield 9, 3) := by decide +kernel
theorem d_Wh_order_59 : decode b_Wh_order 59 = .ok (.iload_n 2, 1) := by decide +kernel
theorem d_Wh_order_60 : decode b_Wh_order 60 = .ok (.laload, 1) := by decide +kernel
theorem d_Wh_order_61 : decode b_Wh_order 61 = .ok (.aload_n 1, 1) := by decide +kernel
theorem d_Wh_order_62 : decode b_Wh_order 62 = .ok (.getfield 9, 3) := by decide +kernel
theorem d_Wh_order_65 : decode b_Wh_order 65 = .ok (.iload_n 2, 1) := by decide +kernel
theorem d_Wh_order_66 : decode b_Wh_order 66 = .ok (.laload, 1) := by decide +kernel
theorem d_Wh_order_67 : decode b_Wh_order 67 = .ok (.lcmp, 1) := by decide +kernel
theorem d_Wh_order_68 : decode b_Wh_order 68 = .ok (.ifCond .ge 7, 3) := by decide +kernel
theorem d_Wh_order_71 : decode b_Wh_order 71 = .ok (.iconst (-1), 1) := by decide +kernel
theorem d_Wh_order_72 : decode b_Wh_order 72 = .ok (.goto 4, 3) := by decide +kernel
theorem d_Wh_order_75 : decode b_Wh_order 75 = .ok (.iconst 1, 1) := by decide +kernel
theorem d_Wh_order_76 : decode b_Wh_order 76 = .ok (.ireturn, 1) := by decide +kernel
theorem d_Wh_order_77 : decode b_Wh_order 77 = .ok (.iinc 2 (-1), 3) := by decide +kernel
theorem d_Wh_order_80 : decode b_Wh_order 80 = .ok (.goto (-45), 3) := by decide +kernel
theorem d_Wh_order_83 : decode b_Wh_order 83 = .ok (.iconst 0, 1) := by decide +kernel
theorem d_Wh_order_84 : decode b_Wh_order 84 = .ok (.ireturn, 1) := by decide +kernel
theorem d_Wh_becomeSum_0 : decode b_Wh_becomeSum 0 = .ok (.aload_n 1, 1) := by decide +kernel
theorem d_Wh_becomeSum_1 : decode b_Wh_becomeSum 1 = .ok (.getfield 15, 3) := by decide +kernel
theorem d_Wh_becomeSum_4 : decode b_Wh_becomeSum 4 = .ok (.aload_n 2, 1) := by decide +kernel
theorem d_Wh_becomeSum_5 : decode b_Wh_becomeSum 5 = .ok (.getfield 15, 3) := by decide +kernel
theorem d_Wh_becomeSum_8 : decode b_Wh_becomeSum 8 = .ok (.invokestatic 45, 3) := by decide +kernel
theorem d_Wh_becomeSum_11 : decode b_Wh_becomeSum 11 = .ok (.istore_n 3, 1) := by decide +kernel
theorem d_Wh_becomeSum_12 : decode b_Wh_becomeSum 12 = .ok (.iload_n 3, 1) := by decide +kernel
theorem d_Wh_becomeSum_13 : decode b_Wh_becomeSum 13 = .ok (.iconst 1, 1) := by decide +kernel
theorem d_Wh_becomeSum_14 : decode b_Wh_becomeSum 14 = .ok (.iadd, 1) := by decide +kernel
theorem d_Wh_becomeSum_15 : decode b_Wh_becomeSum 15 = .ok (.invokestatic 28, 3) := by decide +kernel
theorem d_Wh_becomeSum_18 : decode b_Wh_becomeSum 18 = .ok (.lconst 0, 1) := by decide +kernel
theorem d_Wh_becomeSum_19 : decode b_Wh_becomeSum 19 = .ok (.lstore 4, 2) := by decide +kernel
theorem d_Wh_becomeSum_21 : decode b_Wh_becomeSum 21 = .ok (.iconst 0, 1) := by decide +kernel
theorem d_Wh_becomeSum_22 : decode b_Wh_becomeSum 22 = .ok (.istore 6, 2) := by decide +kernel
theorem d_Wh_becomeSum_24 : decode b_Wh_becomeSum 24 = .ok (.iload 6, 2) := by decide +kernel
theorem d_Wh_becomeSum_26 : decode b_Wh_becomeSum 26 = .ok (.iload_n 3, 1) := by decide +kernel
theorem d_Wh_becomeSum_27 : decode b_Wh_becomeSum 27 = .ok (.if_icmp .ge 59, 3) := by decide +kernel
theorem d_Wh_becomeSum_30 : decode b_Wh_becomeSum 30 = .ok (.aload_n 1, 1) := by decide +kernel
theorem d_Wh_becomeSum_31 : decode b_Wh_becomeSum 31 = .ok (.iload 6, 2) := by decide +kernel
theorem d_Wh_becomeSum_33 : decode b_Wh_becomeSum 33 = .ok (.invokevirtual 41, 3) := by decide +kernel
theorem d_Wh_becomeSum_36 : decode b_Wh_becomeSum 36 = .ok (.aload_n 2, 1) := by decide +kernel
theorem d_Wh_becomeSum_37 : decode b_Wh_becomeSum 37 = .ok (.iload 6, 2) := by decide +kernel
theorem d_Wh_becomeSum_39 : decode b_Wh_becomeSum 39 = .ok (.invokevirtual 41, 3) := by decide +kernel
theorem d_Wh_becomeSum_42 : decode b_Wh_becomeSum 42 = .ok (.ladd, 1) := by decide +kernel
theorem d_Wh_becomeSum_43 : decode b_Wh_becomeSum 43 = .ok (.lload 4, 2) := by decide +kernel
theorem d_Wh_becomeSum_45 : decode b_Wh_becomeSum 45 = .ok (.ladd, 1) := by decide +kernel
theorem d_Wh_becomeSum_46 : decode b_Wh_becomeSum 46 = .ok (.lstore 7, 2) := by decide +kernel
theorem d_Wh_becomeSum_48 : decode b_Wh_becomeSum 48 = .ok (.lload 7, 2) := by decide +kernel
theorem d_Wh_becomeSum_50 : decode b_Wh_becomeSum 50 = .ok (.ldc2_w 26, 3) := by decide +kernel
theorem d_Wh_becomeSum_53 : decode b_Wh_becomeSum 53 = .ok (.lcmp, 1) := by decide +kernel
theorem d_Wh_becomeSum_54 : decode b_Wh_becomeSum 54 = .ok (.ifCond .lt 7, 3) := by decide +kernel
theorem d_Wh_becomeSum_57 : decode b_Wh_becomeSum 57 = .ok (.lconst 1, 1) := by decide +kernel
theorem d_Wh_becomeSum_58 : decode b_Wh_becomeSum 58 = .ok (.goto 4, 3) := by decide +kernel
theorem d_Wh_becomeSum_61 : decode b_Wh_becomeSum 61 = .ok (.lconst 0, 1) := by decide +kernel
theorem d_Wh_becomeSum_62 : decode b_Wh_becomeSum 62 = .ok (.lstore 4, 2) := by decide +kernel
theorem d_Wh_becomeSum_64 : decode b_Wh_becomeSum 64 = .ok (.aload_n 0, 1) := by decide +kernel
theorem d_Wh_becomeSum_65 : decode b_Wh_becomeSum 65 = .ok (.getfield 9, 3) := by decide +kernel
theorem d_Wh_becomeSum_68 : decode b_Wh_becomeSum 68 = .ok (.iload 6, 2) := by decide +kernel
theorem d_Wh_becomeSum_70 : decode b_Wh_becomeSum 70 = .ok (.lload 7, 2) := by decide +kernel
theorem d_Wh_becomeSum_72 : decode b_Wh_becomeSum 72 = .ok (.lload 4, 2) := by decide +kernel
theorem d_Wh_becomeSum_74 : decode b_Wh_becomeSum 74 = .ok (.ldc2_w 26, 3) := by decide +kernel
theorem d_Wh_becomeSum_77 : decode b_Wh_becomeSum 77 = .ok (.lmul, 1) := by decide +kernel
theorem d_Wh_becomeSum_78 : decode b_Wh_becomeSum 78 = .ok (.lsub, 1) := by decide +kernel
theorem d_Wh_becomeSum_79 : decode b_Wh_becomeSum 79 = .ok (.lastore, 1) := by decide +kernel
theorem d_Wh_becomeSum_80 : decode b_Wh_becomeSum 80 = .ok (.iinc 6 1, 3) := by decide +kernel
theorem d_Wh_becomeSum_83 : decode b_Wh_becomeSum 83 = .ok (.goto (-59), 3) := by decide +kernel
theorem d_Wh_becomeSum_86 : decode b_Wh_becomeSum 86 = .ok (.aload_n 0, 1) := by decide +kernel
theorem d_Wh_becomeSum_87 : decode b_Wh_becomeSum 87 = .ok (.getfield 9, 3) := by decide +kernel
theorem d_Wh_becomeSum_90 : decode b_Wh_becomeSum 90 = .ok (.iload_n 3, 1) := by decide +kernel
theorem d_Wh_becomeSum_91 : decode b_Wh_becomeSum 91 = .ok (.lload 4, 2) := by decide +kernel
theorem d_Wh_becomeSum_93 : decode b_Wh_becomeSum 93 = .ok (.lastore, 1) := by decide +kernel
theorem d_Wh_becomeSum_94 : decode b_Wh_becomeSum 94 = .ok (.aload_n 0, 1) := by decide +kernel
theorem d_Wh_becomeSum_95 : decode b_Wh_becomeSum 95 = .ok (.iload_n 3, 1) := by decide +kernel
theorem d_Wh_becomeSum_96 : decode b_Wh_becomeSum 96 = .ok (.iconst 1, 1) := by decide +kernel
theorem d_Wh_becomeSum_97 : decode b_Wh_becomeSum 97 = .ok (.iadd, 1) := by decide +kernel
theorem d_Wh_becomeSum_98 : decode b_Wh_becomeSum 98 = .ok (.invokevirtual 51, 3) := by decide +kernel
theorem d_Wh_becomeSum_101 : decode b_Wh_becomeSum 101 = .ok (.return_, 1) := by decide +kernel
theorem d_Wh_becomeDifference_0 : decode b_Wh_becomeDifference 0 = .ok (.aload_n 1, 1) := by decide +kernel
theorem d_Wh_becomeDifference_1 : decode b_Wh_becomeDifference 1 = .ok (.getfield 15, 3) := by decide +kernel
theorem d_Wh_becomeDifference_4 : decode b_Wh_becomeDifference 4 = .ok (.istore_n 3, 1) := by decide +kernel
theorem d_Wh_becomeDifference_5 : decode b_Wh_becomeDifference 5 = .ok (.lconst 0, 1) := by decide +kernel
theorem d_Wh_becomeDifference_6 : decode b_Wh_becomeDifference 6 = .ok (.lstore 4, 2) := by decide +kernel
theorem d_Wh_becomeDifference_8 : decode b_Wh_becomeDifference 8 = .ok (.iconst 0, 1) := by decide +kernel
theorem d_Wh_becomeDifference_9 : decode b_Wh_becomeDifference 9 = .ok (.istore 6, 2) := by decide +kernel
theorem d_Wh_becomeDifference_11 : decode b_Wh_becomeDifference 11 = .ok (.iload 6, 2) := by decide +kernel
theorem d_Wh_becomeDifference_13 : decode b_Wh_becomeDifference 13 = .ok (.iload_n 3, 1) := by decide +kernel
theorem d_Wh_becomeDifference_14 : decode b_Wh_becomeDifference 14 = .ok (.if_icmp .ge 58, 3) := by decide +kernel
theorem d_Wh_becomeDifference_17 : decode b_Wh_becomeDifference 17 = .ok (.aload_n 1, 1) := by decide +kernel
theorem d_Wh_becomeDifference_18 : decode b_Wh_becomeDifference 18 = .ok (.getfield 9, 3) := by decide +kernel
theorem d_Wh_becomeDifference_21 : decode b_Wh_becomeDifference 21 = .ok (.iload 6, 2) := by decide +kernel
theorem d_Wh_becomeDifference_23 : decode b_Wh_becomeDifference 23 = .ok (.laload, 1) := by decide +kernel
theorem d_Wh_becomeDifference_24 : decode b_Wh_becomeDifference 24 = .ok (.aload_n 2, 1) := by decide +kernel
theorem d_Wh_becomeDifference_25 : decode b_Wh_becomeDifference 25 = .ok (.iload 6, 2) := by decide +kernel
theorem d_Wh_becomeDifference_27 : decode b_Wh_becomeDifference 27 = .ok (.invokevirtual 41, 3) := by decide +kernel
theorem d_Wh_becomeDifference_30 : decode b_Wh_becomeDifference 30 = .ok (.lsub, 1) := by decide +kernel
theorem d_Wh_becomeDifference_31 : decode b_Wh_becomeDifference 31 = .ok (.lload 4, 2) := by decide +kernel
theorem d_Wh_becomeDifference_33 : decode b_Wh_becomeDifference 33 = .ok (.lsub, 1) := by decide +kernel
theorem d_Wh_becomeDifference_34 : decode b_Wh_becomeDifference 34 = .ok (.lstore 7, 2) := by decide +kernel
theorem d_Wh_becomeDifference_36 : decode b_Wh_becomeDifference 36 = .ok (.lload 7, 2) := by decide +kernel
theorem d_Wh_becomeDifference_38 : decode b_Wh_becomeDifference 38 = .ok (.lconst 0, 1) := by decide +kernel
theorem d_Wh_becomeDifference_39 : decode b_Wh_becomeDifference 39 = .ok (.lcmp, 1) := by decide +kernel
theorem d_Wh_becomeDifference_40 : decode b_Wh_becomeDifference 40 = .ok (.ifCond .ge 7, 3) := by decide +kernel
theorem d_Wh_becomeDifference_43 : decode b_Wh_becomeDifference 43 = .ok (.lconst 1, 1) := by decide +kernel
theorem d_Wh_becomeDifference_44 : decode b_Wh_becomeDifference 44 = .ok (.goto 4, 3) := by decide +kernel
theorem d_Wh_becomeDifference_47 : decode b_Wh_becomeDifference 47 = .ok (.lconst 0, 1) := by decide +kernel
theorem d_Wh_becomeDifference_48 : decode b_Wh_becomeDifference 48 = .ok (.lstore 4, 2) := by decide +kernel
theorem d_Wh_becomeDifference_50 : decode b_Wh_becomeDifference 50 = .ok (.aload_n 0, 1) := by decide +kernel
theorem d_Wh_becomeDifference_51 : decode b_Wh_becomeDifference 51 = .ok (.getfield 9, 3) := by decide +kernel
theorem d_Wh_becomeDifference_54 : decode b_Wh_becomeDifference 54 = .ok (.iload 6, 2) := by decide +kernel
theorem d_Wh_becomeDifference_56 : decode b_Wh_becomeDifference 56 = .ok (.lload 7, 2) := by decide +kernel
theorem d_Wh_becomeDifference_58 : decode b_Wh_becomeDifference 58 = .ok (.lload 4, 2) := by decide +kernel
theorem d_Wh_becomeDifference_60 : decode b_Wh_becomeDifference 60 = .ok (.ldc2_w 26, 3) := by decide +kernel
theorem d_Wh_becomeDifference_63 : decode b_Wh_becomeDifference 63 = .ok (.lmul, 1) := by decide +kernel
theorem d_Wh_becomeDifference_64 : decode b_Wh_becomeDifference 64 = .ok (.ladd, 1) := by decide +kernel
theorem d_Wh_becomeDifference_65 : decode b_Wh_becomeDifference 65 = .ok (.lastore, 1) := by decide +kernel
theorem d_Wh_becomeDifference_66 : decode b_Wh_becomeDifference 66 = .ok (.iinc 6 1, 3) := by decide +kernel
theorem d_Wh_becomeDifference_69 : decode b_Wh_becomeDifference 69 = .ok (.goto (-58), 3) := by decide +kernel
theorem d_Wh_becomeDifference_72 : decode b_Wh_becomeDifference 72 = .ok (.aload_n 0, 1) := by decide +kernel
theorem d_Wh_becomeDifference_73 : decode b_Wh_becomeDifference 73 = .ok (.iload_n 3, 1) := by decide +kernel
theorem d_Wh_becomeDifference_74 : decode b_Wh_becomeDifference 74 = .ok (.invokevirtual 51, 3) := by decide +kernel
theorem d_Wh_becomeDifference_77 : decode b_Wh_becomeDifference 77 = .ok (.return_, 1) := by decide +kernel
theorem d_Wh_becomeProduct_0 : decode b_Wh_becomeProduct 0 = .ok (.aload_n 1, 1) := by decide +kernel
theorem d_Wh_becomeProduct_1 : decode b_Wh_becomeProduct 1 = .ok (.getfield 15, 3) := by decide +kernel
theorem d_Wh_becomeProduct_4 : decode b_Wh_becomeProduct 4 = .ok (.aload_n 2, 1) := by decide +kernel
theorem d_Wh_becomeProduct_5 : decode b_Wh_becomeProduct 5 = .ok (.getfield 15, 3) := by decide +kernel
theorem d_Wh_becomeProduct_8 : decode b_Wh_becomeProduct 8 = .ok (.iadd, 1) := by decide +kernel
theorem d_Wh_becomeProduct_9 : decode b_Wh_becomeProduct 9 = .ok (.istore_n 3, 1) := by decide +kernel
theorem d_Wh_becomeProduct_10 : decode b_Wh_becomeProduct 10 = .ok (.iload_n 3, 1) := by decide +kernel
theorem d_Wh_becomeProduct_11 : decode b_Wh_becomeProduct 11 = .ok (.invokestatic 28, 3) := by decide +kernel
theorem d_Wh_becomeProduct_14 : decode b_Wh_becomeProduct 14 = .ok (.iconst 0, 1) := by decide +kernel
theorem d_Wh_becomeProduct_15 : decode b_Wh_becomeProduct 15 = .ok (.istore 4, 2) := by decide +kernel
theorem d_Wh_becomeProduct_17 : decode b_Wh_becomeProduct 17 = .ok (.iload 4, 2) := by decide +kernel
theorem d_Wh_becomeProduct_19 : decode b_Wh_becomeProduct 19 = .ok (.iload_n 3, 1) := by decide +kernel
theorem d_Wh_becomeProduct_20 : decode b_Wh_becomeProduct 20 = .ok (.if_icmp .ge 17, 3) := by decide +kernel
theorem d_Wh_becomeProduct_23 : decode b_Wh_becomeProduct 23 = .ok (.aload_n 0, 1) := by decide +kernel
theorem d_Wh_becomeProduct_24 : decode b_Wh_becomeProduct 24 = .ok (.getfield 9, 3) := by decide +kernel
theorem d_Wh_becomeProduct_27 : decode b_Wh_becomeProduct 27 = .ok (.iload 4, 2) := by decide +kernel
theorem d_Wh_becomeProduct_29 : decode b_Wh_becomeProduct 29 = .ok (.lconst 0, 1) := by decide +kernel
theorem d_Wh_becomeProduct_30 : decode b_Wh_becomeProduct 30 = .ok (.lastore, 1) := by decide +kernel
theorem d_Wh_becomeProduct_31 : decode b_Wh_becomeProduct 31 = .ok (.iinc 4 1, 3) := by decide +kernel
theorem d_Wh_becomeProduct_34 : decode b_Wh_becomeProduct 34 = .ok (.goto (-17), 3) := by decide +kernel
theorem d_Wh_becomeProduct_37 : decode b_Wh_becomeProduct 37 = .ok (.iconst 0, 1) := by decide +kernel
theorem d_Wh_becomeProduct_38 : decode b_Wh_becomeProduct 38 = .ok (.istore 4, 2) := by decide +kernel
theorem d_Wh_becomeProduct_40 : decode b_Wh_becomeProduct 40 = .ok (.iload 4, 2) := by decide +kernel
theorem d_Wh_becomeProduct_42 : decode b_Wh_becomeProduct 42 = .ok (.aload_n 1, 1) := by decide +kernel
theorem d_Wh_becomeProduct_43 : decode b_Wh_becomeProduct 43 = .ok (.getfield 15, 3) := by decide +kernel
theorem d_Wh_becomeProduct_46 : decode b_Wh_becomeProduct 46 = .ok (.if_icmp .ge 106, 3) := by decide +kernel
theorem d_Wh_becomeProduct_49 : decode b_Wh_becomeProduct 49 = .ok (.aload_n 1, 1) := by decide +kernel
theorem d_Wh_becomeProduct_50 : decode b_Wh_becomeProduct 50 = .ok (.getfield 9, 3) := by decide +kernel
theorem d_Wh_becomeProduct_53 : decode b_Wh_becomeProduct 53 = .ok (.iload 4, 2) := by decide +kernel
theorem d_Wh_becomeProduct_55 : decode b_Wh_becomeProduct 55 = .ok (.laload, 1) := by decide +kernel
theorem d_Wh_becomeProduct_56 : decode b_Wh_becomeProduct 56 = .ok (.lstore 5, 2) := by decide +kernel
theorem d_Wh_becomeProduct_58 : decode b_Wh_becomeProduct 58 = .ok (.lconst 0, 1) := by decide +kernel
theorem d_Wh_becomeProduct_59 : decode b_Wh_becomeProduct 59 = .ok (.lstore 7, 2) := by decide +kernel
theorem d_Wh_becomeProduct_61 : decode b_Wh_becomeProduct 61 = .ok (.iconst 0, 1) := by decide +kernel
theorem d_Wh_becomeProduct_62 : decode b_Wh_becomeProduct 62 = .ok (.istore 9, 2) := by decide +kernel
theorem d_Wh_becomeProduct_64 : decode b_Wh_becomeProduct 64 = .ok (.iload 9, 2) := by decide +kernel
theorem d_Wh_becomeProduct_66 : decode b_Wh_becomeProduct 66 = .ok (.aload_n 2, 1) := by decide +kernel
theorem d_Wh_becomeProduct_67 : decode b_Wh_becomeProduct 67 = .ok (.getfield 15, 3) := by decide +kernel
theorem d_Wh_becomeProduct_70 : decode b_Wh_becomeProduct 70 = .ok (.if_icmp .ge 62, 3) := by decide +kernel
theorem d_Wh_becomeProduct_73 : decode b_Wh_becomeProduct 73 = .ok (.aload_n 0, 1) := by decide +kernel
theorem d_Wh_becomeProduct_74 : decode b_Wh_becomeProduct 74 = .ok (.getfield 9, 3) := by decide +kernel
theorem d_Wh_becomeProduct_77 : decode b_Wh_becomeProduct 77 = .ok (.iload 4, 2) := by decide +kernel
theorem d_Wh_becomeProduct_79 : decode b_Wh_becomeProduct 79 = .ok (.iload 9, 2) := by decide +kernel
theorem d_Wh_becomeProduct_81 : decode b_Wh_becomeProduct 81 = .ok (.iadd, 1) := by decide +kernel
theorem d_Wh_becomeProduct_82 : decode b_Wh_becomeProduct 82 = .ok (.laload, 1) := by decide +kernel
theorem d_Wh_becomeProduct_83 : decode b_Wh_becomeProduct 83 = .ok (.lload 5, 2) := by decide +kernel
theorem d_Wh_becomeProduct_85 : decode b_Wh_becomeProduct 85 = .ok (.aload_n 2, 1) := by decide +kernel
theorem d_Wh_becomeProduct_86 : decode b_Wh_becomeProduct 86 = .ok (.getfield 9, 3) := by decide +kernel
theorem d_Wh_becomeProduct_89 : decode b_Wh_becomeProduct 89 = .ok (.iload 9, 2) := by decide +kernel
theorem d_Wh_becomeProduct_91 : decode b_Wh_becomeProduct 91 = .ok (.laload, 1) := by decide +kernel
theorem d_Wh_becomeProduct_92 : decode b_Wh_becomeProduct 92 = .ok (.lmul, 1) := by decide +kernel
theorem d_Wh_becomeProduct_93 : decode b_Wh_becomeProduct 93 = .ok (.ladd, 1) := by decide +kernel
theorem d_Wh_becomeProduct_94 : decode b_Wh_becomeProduct 94 = .ok (.lload 7, 2) := by decide +kernel
theorem d_Wh_becomeProduct_96 : decode b_Wh_becomeProduct 96 = .ok (.ladd, 1) := by decide +kernel
theorem d_Wh_becomeProduct_97 : decode b_Wh_becomeProduct 97 = .ok (.lstore 10, 2) := by decide +kernel
theorem d_Wh_becomeProduct_99 : decode b_Wh_becomeProduct 99 = .ok (.lload 10, 2) := by decide +kernel
theorem d_Wh_becomeProduct_101 : decode b_Wh_becomeProduct 101 = .ok (.ldc2_w 26, 3) := by decide +kernel
theorem d_Wh_becomeProduct_104 : decode b_Wh_becomeProduct 104 = .ok (.ldiv, 1) := by decide +kernel
theorem d_Wh_becomeProduct_105 : decode b_Wh_becomeProduct 105 = .ok (.lstore 7, 2) := by decide +kernel
theorem d_Wh_becomeProduct_107 : decode b_Wh_becomeProduct 107 = .ok (.aload_n 0, 1) := by decide +kernel
theorem d_Wh_becomeProduct_108 : decode b_Wh_becomeProduct 108 = .ok (.getfield 9, 3) := by decide +kernel
theorem d_Wh_becomeProduct_111 : decode b_Wh_becomeProduct 111 = .ok (.iload 4, 2) := by decide +kernel
theorem d_Wh_becomeProduct_113 : decode b_Wh_becomeProduct 113 = .ok (.iload 9, 2) := by decide +kernel
theorem d_Wh_becomeProduct_115 : decode b_Wh_becomeProduct 115 = .ok (.iadd, 1) := by decide +kernel
theorem d_Wh_becomeProduct_116 : decode b_Wh_becomeProduct 116 = .ok (.lload 10, 2) := by decide +kernel
theorem d_Wh_becomeProduct_118 : decode b_Wh_becomeProduct 118 = .ok (.lload 7, 2) := by decide +kernel
theorem d_Wh_becomeProduct_120 : decode b_Wh_becomeProduct 120 = .ok (.ldc2_w 26, 3) := by decide +kernel
theorem d_Wh_becomeProduct_123 : decode b_Wh_becomeProduct 123 = .ok (.lmul, 1) := by decide +kernel
theorem d_Wh_becomeProduct_124 : decode b_Wh_becomeProduct 124 = .ok (.lsub, 1) := by decide +kernel
theorem d_Wh_becomeProduct_125 : decode b_Wh_becomeProduct 125 = .ok (.lastore, 1) := by decide +kernel
theorem d_Wh_becomeProduct_126 : decode b_Wh_becomeProduct 126 = .ok (.iinc 9 1, 3) := by decide +kernel
theorem d_Wh_becomeProduct_129 : decode b_Wh_becomeProduct 129 = .ok (.goto (-65), 3) := by decide +kernel
theorem d_Wh_becomeProduct_132 : decode b_Wh_becomeProduct 132 = .ok (.aload_n 0, 1) := by decide +kernel
theorem d_Wh_becomeProduct_133 : decode b_Wh_becomeProduct 133 = .ok (.getfield 9, 3) := by decide +kernel
theorem d_Wh_becomeProduct_136 : decode b_Wh_becomeProduct 136 = .ok (.iload 4, 2) := by decide +kernel
theorem d_Wh_becomeProduct_138 : decode b_Wh_becomeProduct 138 = .ok (.aload_n 2, 1) := by decide +kernel
theorem d_Wh_becomeProduct_139 : decode b_Wh_becomeProduct 139 = .ok (.getfield 15, 3) := by decide +kernel
theorem d_Wh_becomeProduct_142 : decode b_Wh_becomeProduct 142 = .ok (.iadd, 1) := by decide +kernel
theorem d_Wh_becomeProduct_143 : decode b_Wh_becomeProduct 143 = .ok (.lload 7, 2) := by decide +kernel
theorem d_Wh_becomeProduct_145 : decode b_Wh_becomeProduct 145 = .ok (.lastore, 1) := by decide +kernel
theorem d_Wh_becomeProduct_146 : decode b_Wh_becomeProduct 146 = .ok (.iinc 4 1, 3) := by decide +kernel
theorem d_Wh_becomeProduct_149 : decode b_Wh_becomeProduct 149 = .ok (.goto (-109), 3) := by decide +kernel
theorem d_Wh_becomeProduct_152 : decode b_Wh_becomeProduct 152 = .ok (.aload_n 0, 1) := by decide +kernel
theorem d_Wh_becomeProduct_153 : decode b_Wh_becomeProduct 153 = .ok (.iload_n 3, 1) := by decide +kernel
theorem d_Wh_becomeProduct_154 : decode b_Wh_becomeProduct 154 = .ok (.invokevirtual 51, 3) := by decide +kernel
theorem d_Wh_becomeProduct_157 : decode b_Wh_becomeProduct 157 = .ok (.return_, 1) := by decide +kernel
theorem d_Wh_grow_0 : decode b_Wh_grow 0 = .ok (.aload_n 0, 1) := by decide +kernel
theorem d_Wh_grow_1 : decode b_Wh_grow 1 = .ok (.getfield 15, 3) := by decide +kernel
theorem d_Wh_grow_4 : decode b_Wh_grow 4 = .ok (.iconst 1, 1) := by decide +kernel
theorem d_Wh_grow_5 : decode b_Wh_grow 5 = .ok (.iadd, 1) := by decide +kernel
theorem d_Wh_grow_6 : decode b_Wh_grow 6 = .ok (.invokestatic 28, 3) := by decide +kernel
theorem d_Wh_grow_9 : decode b_Wh_grow 9 = .ok (.lload_n 3, 1) := by decide +kernel
theorem d_Wh_grow_10 : decode b_Wh_grow 10 = .ok (.lstore 5, 2) := by decide +kernel
theorem d_Wh_grow_12 : decode b_Wh_grow 12 = .ok (.iconst 0, 1) := by decide +kernel
theorem d_Wh_grow_13 : decode b_Wh_grow 13 = .ok (.istore 7, 2) := by decide +kernel
theorem d_Wh_grow_15 : decode b_Wh_grow 15 = .ok (.iload 7, 2) := by decide +kernel
theorem d_Wh_grow_17 : decode b_Wh_grow 17 = .ok (.aload_n 0, 1) := by decide +kernel
theorem d_Wh_grow_18 : decode b_Wh_grow 18 = .ok (.getfield 15, 3) := by decide +kernel
theorem d_Wh_grow_21 : decode b_Wh_grow 21 = .ok (.if_icmp .ge 47, 3) := by decide +kernel
theorem d_Wh_grow_24 : decode b_Wh_grow 24 = .ok (.aload_n 0, 1) := by decide +kernel
theorem d_Wh_grow_25 : decode b_Wh_grow 25 = .ok (.getfield 9, 3) := by decide +kernel
theorem d_Wh_grow_28 : decode b_Wh_grow 28 = .ok (.iload 7, 2) := by decide +kernel
theorem d_Wh_grow_30 : decode b_Wh_grow 30 = .ok (.laload, 1) := by decide +kernel
theorem d_Wh_grow_31 : decode b_Wh_grow 31 = .ok (.lload_n 1, 1) := by decide +kernel
theorem d_Wh_grow_32 : decode b_Wh_grow 32 = .ok (.lmul, 1) := by decide +kernel
theorem d_Wh_grow_33 : decode b_Wh_grow 33 = .ok (.lload 5, 2) := by decide +kernel
theorem d_Wh_grow_35 : decode b_Wh_grow 35 = .ok (.ladd, 1) := by decide +kernel
theorem d_Wh_grow_36 : decode b_Wh_grow 36 = .ok (.lstore 8, 2) := by decide +kernel
theorem d_Wh_grow_38 : decode b_Wh_grow 38 = .ok (.lload 8, 2) := by decide +kernel
theorem d_Wh_grow_40 : decode b_Wh_grow 40 = .ok (.ldc2_w 26, 3) := by decide +kernel
theorem d_Wh_grow_43 : decode b_Wh_grow 43 = .ok (.ldiv, 1) := by decide +kernel
theorem d_Wh_grow_44 : decode b_Wh_grow 44 = .ok (.lstore 5, 2) := by decide +kernel
theorem d_Wh_grow_46 : decode b_Wh_grow 46 = .ok (.aload_n 0, 1) := by decide +kernel
theorem d_Wh_grow_47 : decode b_Wh_grow 47 = .ok (.getfield 9, 3) := by decide +kernel
theorem d_Wh_grow_50 : decode b_Wh_grow 50 = .ok (.iload 7, 2) := by decide +kernel
theorem d_Wh_grow_52 : decode b_Wh_grow 52 = .ok (.lload 8, 2) := by decide +kernel
theorem d_Wh_grow_54 : decode b_Wh_grow 54 = .ok (.lload 5, 2) := by decide +kernel
theorem d_Wh_grow_56 : decode b_Wh_grow 56 = .ok (.ldc2_w 26, 3) := by decide +kernel
theorem d_Wh_grow_59 : decode b_Wh_grow 59 = .ok (.lmul, 1) := by decide +kernel
theorem d_Wh_grow_60 : decode b_Wh_grow 60 = .ok (.lsub, 1) := by decide +kernel
theorem d_Wh_grow_61 : decode b_Wh_grow 61 = .ok (.lastore, 1) := by decide +kernel
theorem d_Wh_grow_62 : decode b_Wh_grow 62 = .ok (.iinc 7 1, 3) := by decide +kernel
theorem d_Wh_grow_65 : decode b_Wh_grow 65 = .ok (.goto (-50), 3) := by decide +kernel
theorem d_Wh_grow_68 : decode b_Wh_grow 68 = .ok (.aload_n 0, 1) := by decide +kernel
theorem d_Wh_grow_69 : decode b_Wh_grow 69 = .ok (.getfield 9, 3) := by decide +kernel
theorem d_Wh_grow_72 : decode b_Wh_grow 72 = .ok (.aload_n 0, 1) := by decide +kernel
theorem d_Wh_grow_73 : decode b_Wh_grow 73 = .ok (.getfield 15, 3) := by decide +kernel
theorem d_Wh_grow_76 : decode b_Wh_grow 76 = .ok (.lload 5, 2) := by decide +kernel
theorem d_Wh_grow_78 : decode b_Wh_grow 78 = .ok (.lastore, 1) := by decide +kernel
theorem d_Wh_grow_79 : decode b_Wh_grow 79 = .ok (.aload_n 0, 1) := by decide +kernel
theorem d_Wh_grow_80 : decode b_Wh_grow 80 = .ok (.aload_n 0, 1) := by decide +kernel
theorem d_Wh_grow_81 : decode b_Wh_grow 81 = .ok (.getfield 15, 3) := by decide +kernel
theorem d_Wh_grow_84 : decode b_Wh_grow 84 = .ok (.iconst 1, 1) := by decide +kernel
theorem d_Wh_grow_85 : decode b_Wh_grow 85 = .ok (.iadd, 1) := by decide +kernel
theorem d_Wh_grow_86 : decode b_Wh_grow 86 = .ok (.invokevirtual 51, 3) := by decide +kernel
theorem d_Wh_grow_89 : decode b_Wh_grow 89 = .ok (.return_, 1) := by decide +kernel
theorem d_Wh_becomeQuotient_0 : decode b_Wh_becomeQuotient 0 = .ok (.lconst 0, 1) := by decide +kernel
theorem d_Wh_becomeQuotient_1 : decode b_Wh_becomeQuotient 1 = .ok (.lstore 4, 2) := by decide +kernel
theorem d_Wh_becomeQuotient_3 : decode b_Wh_becomeQuotient 3 = .ok (.aload_n 1, 1) := by decide +kernel
theorem d_Wh_becomeQuotient_4 : decode b_Wh_becomeQuotient 4 = .ok (.getfield 15, 3) := by decide +kernel
theorem d_Wh_becomeQuotient_7 : decode b_Wh_becomeQuotient 7 = .ok (.istore 6, 2) := by decide +kernel
theorem d_Wh_becomeQuotient_9 : decode b_Wh_becomeQuotient 9 = .ok (.iload 6, 2) := by decide +kernel
theorem d_Wh_becomeQuotient_11 : decode b_Wh_becomeQuotient 11 = .ok (.iconst 1, 1) := by decide +kernel
theorem d_Wh_becomeQuotient_12 : decode b_Wh_becomeQuotient 12 = .ok (.isub, 1) := by decide +kernel
theorem d_Wh_becomeQuotient_13 : decode b_Wh_becomeQuotient 13 = .ok (.istore 7, 2) := by decide +kernel
theorem d_Wh_becomeQuotient_15 : decode b_Wh_becomeQuotient 15 = .ok (.iload 7, 2) := by decide +kernel
theorem d_Wh_becomeQuotient_17 : decode b_Wh_becomeQuotient 17 = .ok (.ifCond .lt 42, 3) := by decide +kernel
theorem d_Wh_becomeQuotient_20 : decode b_Wh_becomeQuotient 20 = .ok (.lload 4, 2) := by decide +kernel
theorem d_Wh_becomeQuotient_22 : decode b_Wh_becomeQuotient 22 = .ok (.ldc2_w 26, 3) := by decide +kernel
theorem d_Wh_becomeQuotient_25 : decode b_Wh_becomeQuotient 25 = .ok (.lmul, 1) := by decide +kernel
theorem d_Wh_becomeQuotient_26 : decode b_Wh_becomeQuotient 26 = .ok (.aload_n 1, 1) := by decide +kernel
theorem d_Wh_becomeQuotient_27 : decode b_Wh_becomeQuotient 27 = .ok (.getfield 9, 3) := by decide +kernel
theorem d_Wh_becomeQuotient_30 : decode b_Wh_becomeQuotient 30 = .ok (.iload 7, 2) := by decide +kernel
theorem d_Wh_becomeQuotient_32 : decode b_Wh_becomeQuotient 32 = .ok (.laload, 1) := by decide +kernel
theorem d_Wh_becomeQuotient_33 : decode b_Wh_becomeQuotient 33 = .ok (.ladd, 1) := by decide +kernel
theorem d_Wh_becomeQuotient_34 : decode b_Wh_becomeQuotient 34 = .ok (.lstore 8, 2) := by decide +kernel
theorem d_Wh_becomeQuotient_36 : decode b_Wh_becomeQuotient 36 = .ok (.aload_n 0, 1) := by decide +kernel
theorem d_Wh_becomeQuotient_37 : decode b_Wh_becomeQuotient 37 = .ok (.getfield 9, 3) := by decide +kernel
theorem d_Wh_becomeQuotient_40 : decode b_Wh_becomeQuotient 40 = .ok (.iload 7, 2) := by decide +kernel
theorem d_Wh_becomeQuotient_42 : decode b_Wh_becomeQuotient 42 = .ok (.lload 8, 2) := by decide +kernel
theorem d_Wh_becomeQuotient_44 : decode b_Wh_becomeQuotient 44 = .ok (.lload_n 2, 1) := by decide +kernel
theorem d_Wh_becomeQuotient_45 : decode b_Wh_becomeQuotient 45 = .ok (.ldiv, 1) := by decide +kernel
theorem d_Wh_becomeQuotient_46 : decode b_Wh_becomeQuotient 46 = .ok (.lastore, 1) := by decide +kernel
theorem d_Wh_becomeQuotient_47 : decode b_Wh_becomeQuotient 47 = .ok (.lload 8, 2) := by decide +kernel
theorem d_Wh_becomeQuotient_49 : decode b_Wh_becomeQuotient 49 = .ok (.lload_n 2, 1) := by decide +kernel
theorem d_Wh_becomeQuotient_50 : decode b_Wh_becomeQuotient 50 = .ok (.lrem, 1) := by decide +kernel
theorem d_Wh_becomeQuotient_51 : decode b_Wh_becomeQuotient 51 = .ok (.lstore 4, 2) := by decide +kernel
theorem d_Wh_becomeQuotient_53 : decode b_Wh_becomeQuotient 53 = .ok (.iinc 7 (-1), 3) := by decide +kernel
theorem d_Wh_becomeQuotient_56 : decode b_Wh_becomeQuotient 56 = .ok (.goto (-41), 3) := by decide +kernel
theorem d_Wh_becomeQuotient_59 : decode b_Wh_becomeQuotient 59 = .ok (.aload_n 0, 1) := by decide +kernel
theorem d_Wh_becomeQuotient_60 : decode b_Wh_becomeQuotient 60 = .ok (.iload 6, 2) := by decide +kernel
theorem d_Wh_becomeQuotient_62 : decode b_Wh_becomeQuotient 62 = .ok (.invokevirtual 51, 3) := by decide +kernel
theorem d_Wh_becomeQuotient_65 : decode b_Wh_becomeQuotient 65 = .ok (.lload 4, 2) := by decide +kernel
theorem d_Wh_becomeQuotient_67 : decode b_Wh_becomeQuotient 67 = .ok (.lreturn, 1) := by decide +kernel
theorem d_Wh_restBy_0 : decode b_Wh_restBy 0 = .ok (.lconst 0, 1) := by decide +kernel
theorem d_Wh_restBy_1 : decode b_Wh_restBy 1 = .ok (.lstore_n 3, 1) := by decide +kernel
theorem d_Wh_restBy_2 : decode b_Wh_restBy 2 = .ok (.aload_n 0, 1) := by decide +kernel
theorem d_Wh_restBy_3 : decode b_Wh_restBy 3 = .ok (.getfield 15, 3) := by decide +kernel
theorem d_Wh_restBy_6 : decode b_Wh_restBy 6 = .ok (.iconst 1, 1) := by decide +kernel
theorem d_Wh_restBy_7 : decode b_Wh_restBy 7 = .ok (.isub, 1) := by decide +kernel
theorem d_Wh_restBy_8 : decode b_Wh_restBy 8 = .ok (.istore 5, 2) := by decide +kernel
theorem d_Wh_restBy_10 : decode b_Wh_restBy 10 = .ok (.iload 5, 2) := by decide +kernel
theorem d_Wh_restBy_12 : decode b_Wh_restBy 12 = .ok (.ifCond .lt 25, 3) := by decide +kernel
theorem d_Wh_restBy_15 : decode b_Wh_restBy 15 = .ok (.lload_n 3, 1) := by decide +kernel
theorem d_Wh_restBy_16 : decode b_Wh_restBy 16 = .ok (.ldc2_w 26, 3) := by decide +kernel
theorem d_Wh_restBy_19 : decode b_Wh_restBy 19 = .ok (.lmul, 1) := by decide +kernel
theorem d_Wh_restBy_20 : decode b_Wh_restBy 20 = .ok (.aload_n 0, 1) := by decide +kernel
theorem d_Wh_restBy_21 : decode b_Wh_restBy 21 = .ok (.getfield 9, 3) := by decide +kernel
theorem d_Wh_restBy_24 : decode b_Wh_restBy 24 = .ok (.iload 5, 2) := by decide +kernel
theorem d_Wh_restBy_26 : decode b_Wh_restBy 26 = .ok (.laload, 1) := by decide +kernel
theorem d_Wh_restBy_27 : decode b_Wh_restBy 27 = .ok (.ladd, 1) := by decide +kernel
theorem d_Wh_restBy_28 : decode b_Wh_restBy 28 = .ok (.lload_n 1, 1) := by decide +kernel
theorem d_Wh_restBy_29 : decode b_Wh_restBy 29 = .ok (.lrem, 1) := by decide +kernel
theorem d_Wh_restBy_30 : decode b_Wh_restBy 30 = .ok (.lstore_n 3, 1) := by decide +kernel
theorem d_Wh_restBy_31 : decode b_Wh_restBy 31 = .ok (.iinc 5 (-1), 3) := by decide +kernel
theorem d_Wh_restBy_34 : decode b_Wh_restBy 34 = .ok (.goto (-24), 3) := by decide +kernel
theorem d_Wh_restBy_37 : decode b_Wh_restBy 37 = .ok (.lload_n 3, 1) := by decide +kernel
theorem d_Wh_restBy_38 : decode b_Wh_restBy 38 = .ok (.lreturn, 1) := by decide +kernel
theorem d_Wh_decimalLength_0 : decode b_Wh_decimalLength 0 = .ok (.aload_n 0, 1) := by decide +kernel
theorem d_Wh_decimalLength_1 : decode b_Wh_decimalLength 1 = .ok (.getfield 15, 3) := by decide +kernel
theorem d_Wh_decimalLength_4 : decode b_Wh_decimalLength 4 = .ok (.ifCond .ne 7, 3) := by decide +kernel
theorem d_Wh_decimalLength_7 : decode b_Wh_decimalLength 7 = .ok (.iconst 1, 1) := by decide +kernel
theorem d_Wh_decimalLength_8 : decode b_Wh_decimalLength 8 = .ok (.goto 17, 3) := by decide +kernel
theorem d_Wh_decimalLength_11 : decode b_Wh_decimalLength 11 = .ok (.aload_n 0, 1) := by decide +kernel
theorem d_Wh_decimalLength_12 : decode b_Wh_decimalLength 12 = .ok (.getfield 15, 3) := by decide +kernel
theorem d_Wh_decimalLength_15 : decode b_Wh_decimalLength 15 = .ok (.iconst 1, 1) := by decide +kernel
theorem d_Wh_decimalLength_16 : decode b_Wh_decimalLength 16 = .ok (.isub, 1) := by decide +kernel
theorem d_Wh_decimalLength_17 : decode b_Wh_decimalLength 17 = .ok (.bipush 9, 2) := by decide +kernel
theorem d_Wh_decimalLength_19 : decode b_Wh_decimalLength 19 = .ok (.imul, 1) := by decide +kernel
theorem d_Wh_decimalLength_20 : decode b_Wh_decimalLength 20 = .ok (.aload_n 0, 1) := by decide +kernel
theorem d_Wh_decimalLength_21 : decode b_Wh_decimalLength 21 = .ok (.invokevirtual 54, 3) := by decide +kernel
theorem d_Wh_decimalLength_24 : decode b_Wh_decimalLength 24 = .ok (.iadd, 1) := by decide +kernel
theorem d_Wh_decimalLength_25 : decode b_Wh_decimalLength 25 = .ok (.ireturn, 1) := by decide +kernel
theorem d_Wh_topLength_0 : decode b_Wh_topLength 0 = .ok (.aload_n 0, 1) := by decide +kernel
theorem d_Wh_topLength_1 : decode b_Wh_topLength 1 = .ok (.aload_n 0, 1) := by decide +kernel
theorem d_Wh_topLength_2 : decode b_Wh_topLength 2 = .ok (.getfield 15, 3) := by decide +kernel
theorem d_Wh_topLength_5 : decode b_Wh_topLength 5 = .ok (.iconst 1, 1) := by decide +kernel
theorem d_Wh_topLength_6 : decode b_Wh_topLength 6 = .ok (.isub, 1) := by decide +kernel
theorem d_Wh_topLength_7 : decode b_Wh_topLength 7 = .ok (.invokevirtual 41, 3) := by decide +kernel
theorem d_Wh_topLength_10 : decode b_Wh_topLength 10 = .ok (.lstore_n 1, 1) := by decide +kernel
theorem d_Wh_topLength_11 : decode b_Wh_topLength 11 = .ok (.iconst 1, 1) := by decide +kernel
theorem d_Wh_topLength_12 : decode b_Wh_topLength 12 = .ok (.istore_n 3, 1) := by decide +kernel
theorem d_Wh_topLength_13 : decode b_Wh_topLength 13 = .ok (.iload_n 3, 1) := by decide +kernel
theorem d_Wh_topLength_14 : decode b_Wh_topLength 14 = .ok (.bipush 9, 2) := by decide +kernel
theorem d_Wh_topLength_16 : decode b_Wh_topLength 16 = .ok (.if_icmp .ge 19, 3) := by decide +kernel
theorem d_Wh_topLength_19 : decode b_Wh_topLength 19 = .ok (.lload_n 1, 1) := by decide +kernel
theorem d_Wh_topLength_20 : decode b_Wh_topLength 20 = .ok (.getstatic 32, 3) := by decide +kernel
theorem d_Wh_topLength_23 : decode b_Wh_topLength 23 = .ok (.iload_n 3, 1) := by decide +kernel
theorem d_Wh_topLength_24 : decode b_Wh_topLength 24 = .ok (.laload, 1) := by decide +kernel
theorem d_Wh_topLength_25 : decode b_Wh_topLength 25 = .ok (.lcmp, 1) := by decide +kernel
theorem d_Wh_topLength_26 : decode b_Wh_topLength 26 = .ok (.ifCond .lt 9, 3) := by decide +kernel
theorem d_Wh_topLength_29 : decode b_Wh_topLength 29 = .ok (.iinc 3 1, 3) := by decide +kernel
theorem d_Wh_topLength_32 : decode b_Wh_topLength 32 = .ok (.goto (-19), 3) := by decide +kernel
theorem d_Wh_topLength_35 : decode b_Wh_topLength 35 = .ok (.iload_n 3, 1) := by decide +kernel
theorem d_Wh_topLength_36 : decode b_Wh_topLength 36 = .ok (.ireturn, 1) := by decide +kernel
theorem d_Wh_decimalAt_0 : decode b_Wh_decimalAt 0 = .ok (.aload_n 0, 1) := by decide +kernel
theorem d_Wh_decimalAt_1 : decode b_Wh_decimalAt 1 = .ok (.iload_n 1, 1) := by decide +kernel
theorem d_Wh_decimalAt_2 : decode b_Wh_decimalAt 2 = .ok (.bipush 9, 2) := by decide +kernel
theorem d_Wh_decimalAt_4 : decode b_Wh_decimalAt 4 = .ok (.idiv, 1) := by decide +kernel
theorem d_Wh_decimalAt_5 : decode b_Wh_decimalAt 5 = .ok (.invokevirtual 41, 3) := by decide +kernel
theorem d_Wh_decimalAt_8 : decode b_Wh_decimalAt 8 = .ok (.getstatic 32, 3) := by decide +kernel
theorem d_Wh_decimalAt_11 : decode b_Wh_decimalAt 11 = .ok (.iload_n 1, 1) := by decide +kernel
theorem d_Wh_decimalAt_12 : decode b_Wh_decimalAt 12 = .ok (.bipush 9, 2) := by decide +kernel
theorem d_Wh_decimalAt_14 : decode b_Wh_decimalAt 14 = .ok (.irem, 1) := by decide +kernel
theorem d_Wh_decimalAt_15 : decode b_Wh_decimalAt 15 = .ok (.laload, 1) := by decide +kernel
theorem d_Wh_decimalAt_16 : decode b_Wh_decimalAt 16 = .ok (.ldiv, 1) := by decide +kernel
theorem d_Wh_decimalAt_17 : decode b_Wh_decimalAt 17 = .ok (.ldc2_w 58, 3) := by decide +kernel
theorem d_Wh_decimalAt_20 : decode b_Wh_decimalAt 20 = .ok (.lrem, 1) := by decide +kernel
theorem d_Wh_decimalAt_21 : decode b_Wh_decimalAt 21 = .ok (.l2i, 1) := by decide +kernel
theorem d_Wh_decimalAt_22 : decode b_Wh_decimalAt 22 = .ok (.ireturn, 1) := by decide +kernel
end
section
/-! rows on small naturals -/
section HR
variable {p : Program} {l : Launch} {e : Env} {R : Room} {s : State} {m : MethodId} {args : Array Value} {below : List Frame} {meth : Method} {c : Code} {H : Heap} {locs : List Loc} {cells slots : Nat} {Q : State → Prop}
variable {cc : ByteArray} {pc : Nat} {ls : Array Slot} {rest : List Value}
theorem hw_ti {x y : Int32} (h : x = y) (k : W p l e R s m args below meth c H locs cells slots Q (F0 m pc ls (.int y :: rest))) : W p l e R s m args below meth c H locs cells slots Q (F0 m pc ls (.int x :: rest)) := h ▸ k
theorem hw_tl {x y : Int64} (h : x = y) (k : W p l e R s m args below meth c H locs cells slots Q (F0 m pc ls (.long y :: rest))) : W p l e R s m args below meth c H locs cells slots Q (F0 m pc ls (.long x :: rest)) := h ▸ k
theorem hw_pc {q : Nat} {st : List Value} (h : pc = q) (k : W p l e R s m args below meth c H locs cells slots Q (F0 m q ls st)) : W p l e R s m args below meth c H locs cells slots Q (F0 m pc ls st) := h ▸ k
variable {a b tgt : Nat} {off : Int}
theorem hw_icmp_ge (hx : p.tables.exec = Jvm.exec) (hb : c.code = cc) (hdg : decode cc pc = .ok (.if_icmp .ge off, 3)) (ht : (pc : Int) + off = (tgt : Int)) (h1 : a < 2 ^ 31) (h2 : b < 2 ^ 31) (k1 : b ≤ a → W p l e R s m args below meth c H locs cells slots Q (F0 m tgt ls rest)) (k2 : a < b → W p l e R s m args below meth c H locs cells slots Q (F0 m (pc + 3) ls rest)) : W p l e R s m args below meth c H locs cells slots Q (F0 m pc ls (.int (nI b) :: .int (nI a) :: rest)) :=
  lv_icmp_ge hx hb hdg ht (fun h => k1 ((nI_leI h2 h1).mp h)) (fun h => k2 (Nat.not_le.mp fun q => h ((nI_leI h2 h1).mpr q)))
theorem hw_icmp_lt (hx : p.tables.exec = Jvm.exec) (hb : c.code = cc) (hdg : decode cc pc = .ok (.if_icmp .lt off, 3)) (ht : (pc : Int) + off = (tgt : Int)) (h1 : a < 2 ^ 31) (h2 : b < 2 ^ 31) (k1 : a < b → W p l e R s m args below meth c H locs cells slots Q (F0 m tgt ls rest)) (k2 : b ≤ a → W p l e R s m args below meth c H locs cells slots Q (F0 m (pc + 3) ls rest)) : W p l e R s m args below meth c H locs cells slots Q (F0 m pc ls (.int (nI b) :: .int (nI a) :: rest)) :=
  lv_icmp_lt hx hb hdg ht (fun h => k1 ((nI_ltI h1 h2).mp h)) (fun h => k2 (Nat.not_lt.mp fun q => h ((nI_ltI h1 h2).mpr q)))
theorem hw_icmp_gt (hx : p.tables.exec = Jvm.exec) (hb : c.code = cc) (hdg : decode cc pc = .ok (.if_icmp .gt off, 3)) (ht : (pc : Int) + off = (tgt : Int)) (h1 : a < 2 ^ 31) (h2 : b < 2 ^ 31) (k1 : b < a → W p l e R s m args below meth c H locs cells slots Q (F0 m tgt ls rest)) (k2 : a ≤ b → W p l e R s m args below meth c H locs cells slots Q (F0 m (pc + 3) ls rest)) : W p l e R s m args below meth c H locs cells slots Q (F0 m pc ls (.int (nI b) :: .int (nI a) :: rest)) :=
  lv_icmp_gt hx hb hdg ht (fun h => k1 ((nI_ltI h2 h1).mp h)) (fun h => k2 (Nat.not_lt.mp fun q => h ((nI_ltI h2 h1).mpr q)))
theorem hw_icmp_le (hx : p.tables.exec = Jvm.exec) (hb : c.code = cc) (hdg : decode cc pc = .ok (.if_icmp .le off, 3)) (ht : (pc : Int) + off = (tgt : Int)) (h1 : a < 2 ^ 31) (h2 : b < 2 ^ 31) (k1 : a ≤ b → W p l e R s m args below meth c H locs cells slots Q (F0 m tgt ls rest)) (k2 : b < a → W p l e R s m args below meth c H locs cells slots Q (F0 m (pc + 3) ls rest)) : W p l e R s m args below meth c H locs cells slots Q (F0 m pc ls (.int (nI b) :: .int (nI a) :: rest)) :=
  lv_icmp_le hx hb hdg ht (fun h => k1 ((nI_leI h1 h2).mp h)) (fun h => k2 (Nat.not_le.mp fun q => h ((nI_leI h1 h2).mpr q)))
theorem hw_icmp_eq (hx : p.tables.exec = Jvm.exec) (hb : c.code = cc) (hdg : decode cc pc = .ok (.if_icmp .eq off, 3)) (ht : (pc : Int) + off = (tgt : Int)) (h1 : a < 2 ^ 31) (h2 : b < 2 ^ 31) (k1 : a = b → W p l e R s m args below meth c H locs cells slots Q (F0 m tgt ls rest)) (k2 : a ≠ b → W p l e R s m args below meth c H locs cells slots Q (F0 m (pc + 3) ls rest)) : W p l e R s m args below meth c H locs cells slots Q (F0 m pc ls (.int (nI b) :: .int (nI a) :: rest)) :=
  lv_icmp_eq hx hb hdg ht (fun h => k1 ((nI_eq h1 h2).mp h)) (fun h => k2 (fun q => h ((nI_eq h1 h2).mpr q)))
theorem hw_icmp_ne (hx : p.tables.exec = Jvm.exec) (hb : c.code = cc) (hdg : decode cc pc = .ok (.if_icmp .ne off, 3)) (ht : (pc : Int) + off = (tgt : Int)) (h1 : a < 2 ^ 31) (h2 : b < 2 ^ 31) (k1 : a ≠ b → W p l e R s m args below meth c H locs cells slots Q (F0 m tgt ls rest)) (k2 : a = b → W p l e R s m args below meth c H locs cells slots Q (F0 m (pc + 3) ls rest)) : W p l e R s m args below meth c H locs cells slots Q (F0 m pc ls (.int (nI b) :: .int (nI a) :: rest)) :=
  lv_icmp_ne hx hb hdg ht (fun h => k1 (fun q => h ((nI_eq h1 h2).mpr q))) (fun h => k2 ((nI_eq h1 h2).mp h))
theorem hw_if_eq (hx : p.tables.exec = Jvm.exec) (hb : c.code = cc) (hdg : decode cc pc = .ok (.ifCond .eq off, 3)) (ht : (pc : Int) + off = (tgt : Int)) (h1 : a < 2 ^ 31) (k1 : a = 0 → W p l e R s m args below meth c H locs cells slots Q (F0 m tgt ls rest)) (k2 : a ≠ 0 → W p l e R s m args below meth c H locs cells slots Q (F0 m (pc + 3) ls rest)) : W p l e R s m args below meth c H locs cells slots Q (F0 m pc ls (.int (nI a) :: rest)) :=
  lv_if_eq hx hb hdg ht (fun h => k1 ((nI_eq h1 (b := 0) (by decide)).mp h)) (fun h => k2 (fun q => h ((nI_eq h1 (b := 0) (by decide)).mpr q)))
theorem hw_if_ne (hx : p.tables.exec = Jvm.exec) (hb : c.code = cc) (hdg : decode cc pc = .ok (.ifCond .ne off, 3)) (ht : (pc : Int) + off = (tgt : Int)) (h1 : a < 2 ^ 31) (k1 : a ≠ 0 → W p l e R s m args below meth c H locs cells slots Q (F0 m tgt ls rest)) (k2 : a = 0 → W p l e R s m args below meth c H locs cells slots Q (F0 m (pc + 3) ls rest)) : W p l e R s m args below meth c H locs cells slots Q (F0 m pc ls (.int (nI a) :: rest)) :=
  lv_if_ne hx hb hdg ht (fun h => k1 (fun q => h ((nI_eq h1 (b := 0) (by decide)).mpr q))) (fun h => k2 ((nI_eq h1 (b := 0) (by decide)).mp h))
theorem hw_if_le (hx : p.tables.exec = Jvm.exec) (hb : c.code = cc) (hdg : decode cc pc = .ok (.ifCond .le off, 3)) (ht : (pc : Int) + off = (tgt : Int)) (h1 : a < 2 ^ 31) (k1 : a = 0 → W p l e R s m args below meth c H locs cells slots Q (F0 m tgt ls rest)) (k2 : 0 < a → W p l e R s m args below meth c H locs cells slots Q (F0 m (pc + 3) ls rest)) : W p l e R s m args below meth c H locs cells slots Q (F0 m pc ls (.int (nI a) :: rest)) :=
  lv_if_le hx hb hdg ht (fun h => k1 (Nat.le_zero.mp ((nI_leI h1 (b := 0) (by decide)).mp h))) (fun h => k2 (Nat.pos_of_ne_zero fun q => h ((nI_leI h1 (b := 0) (by decide)).mpr (Nat.le_of_eq q))))
theorem hw_if_gt (hx : p.tables.exec = Jvm.exec) (hb : c.code = cc) (hdg : decode cc pc = .ok (.ifCond .gt off, 3)) (ht : (pc : Int) + off = (tgt : Int)) (h1 : a < 2 ^ 31) (k1 : 0 < a → W p l e R s m args below meth c H locs cells slots Q (F0 m tgt ls rest)) (k2 : a = 0 → W p l e R s m args below meth c H locs cells slots Q (F0 m (pc + 3) ls rest)) : W p l e R s m args below meth c H locs cells slots Q (F0 m pc ls (.int (nI a) :: rest)) :=
  lv_if_gt hx hb hdg ht (fun h => k1 ((nI_ltI (a := 0) (by decide) h1).mp h)) (fun h => k2 (Nat.le_zero.mp (Nat.not_lt.mp fun q => h ((nI_ltI (a := 0) (by decide) h1).mpr q))))
theorem hw_if_lt (hx : p.tables.exec = Jvm.exec) (hb : c.code = cc) (hdg : decode cc pc = .ok (.ifCond .lt off, 3)) (ht : (pc : Int) + off = (tgt : Int)) (h1 : a < 2 ^ 31) (k2 : W p l e R s m args below meth c H locs cells slots Q (F0 m (pc + 3) ls rest)) : W p l e R s m args below meth c H locs cells slots Q (F0 m pc ls (.int (nI a) :: rest)) :=
  lv_if_lt hx hb hdg ht (fun h => absurd h (nI_pos h1)) (fun _ => k2)
theorem hw_if_ge (hx : p.tables.exec = Jvm.exec) (hb : c.code = cc) (hdg : decode cc pc = .ok (.ifCond .ge off, 3)) (ht : (pc : Int) + off = (tgt : Int)) (h1 : a < 2 ^ 31) (k1 : W p l e R s m args below meth c H locs cells slots Q (F0 m tgt ls rest)) : W p l e R s m args below meth c H locs cells slots Q (F0 m pc ls (.int (nI a) :: rest)) :=
  lv_if_ge hx hb hdg ht (fun _ => k1) (fun h => absurd (nI_pos' h1) h)
/-! two longs compared, and the branch behind it -/
variable {x y : Int64}
theorem hw_l_eq (hx : p.tables.exec = Jvm.exec) (hb : c.code = cc) (hd0 : decode cc pc = .ok (.lcmp, 1)) (hdg : decode cc (pc + 1) = .ok (.ifCond .eq off, 3)) (ht : ((pc + 1 : Nat) : Int) + off = (tgt : Int)) (k1 : x = y → W p l e R s m args below meth c H locs cells slots Q (F0 m tgt ls rest)) (k2 : x ≠ y → W p l e R s m args below meth c H locs cells slots Q (F0 m (pc + 4) ls rest)) : W p l e R s m args below meth c H locs cells slots Q (F0 m pc ls (.long y :: .long x :: rest)) :=
  W.lcmp hx hb hd0 (lv_if_eq hx hb hdg ht (fun h => k1 ((lg_cmp_eq x y).mp h)) (fun h => k2 (fun q => h ((lg_cmp_eq x y).mpr q))))
theorem hw_l_ne (hx : p.tables.exec = Jvm.exec) (hb : c.code = cc) (hd0 : decode cc pc = .ok (.lcmp, 1)) (hdg : decode cc (pc + 1) = .ok (.ifCond .ne off, 3)) (ht : ((pc + 1 : Nat) : Int) + off = (tgt : Int)) (k1 : x ≠ y → W p l e R s m args below meth c H locs cells slots Q (F0 m tgt ls rest)) (k2 : x = y → W p l e R s m args below meth c H locs cells slots Q (F0 m (pc + 4) ls rest)) : W p l e R s m args below meth c H locs cells slots Q (F0 m pc ls (.long y :: .long x :: rest)) :=
  W.lcmp hx hb hd0 (lv_if_ne hx hb hdg ht (fun h => k1 (fun q => h ((lg_cmp_eq x y).mpr q))) (fun h => k2 ((lg_cmp_eq x y).mp h)))
theorem hw_l_ge (hx : p.tables.exec = Jvm.exec) (hb : c.code = cc) (hd0 : decode cc pc = .ok (.lcmp, 1)) (hdg : decode cc (pc + 1) = .ok (.ifCond .ge off, 3)) (ht : ((pc + 1 : Nat) : Int) + off = (tgt : Int)) (k1 : y ≤ x → W p l e R s m args below meth c H locs cells slots Q (F0 m tgt ls rest)) (k2 : x < y → W p l e R s m args below meth c H locs cells slots Q (F0 m (pc + 4) ls rest)) : W p l e R s m args below meth c H locs cells slots Q (F0 m pc ls (.long y :: .long x :: rest)) :=
  W.lcmp hx hb hd0 (lv_if_ge hx hb hdg ht (fun h => k1 ((lg_cmp_ge x y).mp h)) (fun h => k2 (Int64.not_le.mp (fun q => h ((lg_cmp_ge x y).mpr q)))))
theorem hw_l_lt (hx : p.tables.exec = Jvm.exec) (hb : c.code = cc) (hd0 : decode cc pc = .ok (.lcmp, 1)) (hdg : decode cc (pc + 1) = .ok (.ifCond .lt off, 3)) (ht : ((pc + 1 : Nat) : Int) + off = (tgt : Int)) (k1 : x < y → W p l e R s m args below meth c H locs cells slots Q (F0 m tgt ls rest)) (k2 : y ≤ x → W p l e R s m args below meth c H locs cells slots Q (F0 m (pc + 4) ls rest)) : W p l e R s m args below meth c H locs cells slots Q (F0 m pc ls (.long y :: .long x :: rest)) :=
  W.lcmp hx hb hd0 (lv_if_lt hx hb hdg ht (fun h => k1 ((lg_cmp_lt x y).mp h)) (fun h => k2 (Int64.not_lt.mp (fun q => h ((lg_cmp_lt x y).mpr q)))))
theorem hw_l_le (hx : p.tables.exec = Jvm.exec) (hb : c.code = cc) (hd0 : decode cc pc = .ok (.lcmp, 1)) (hdg : decode cc (pc + 1) = .ok (.ifCond .le off, 3)) (ht : ((pc + 1 : Nat) : Int) + off = (tgt : Int)) (k1 : x ≤ y → W p l e R s m args below meth c H locs cells slots Q (F0 m tgt ls rest)) (k2 : y < x → W p l e R s m args below meth c H locs cells slots Q (F0 m (pc + 4) ls rest)) : W p l e R s m args below meth c H locs cells slots Q (F0 m pc ls (.long y :: .long x :: rest)) :=
  W.lcmp hx hb hd0 (lv_if_le hx hb hdg ht (fun h => k1 ((lg_cmp_le x y).mp h)) (fun h => k2 (Int64.not_le.mp (fun q => h ((lg_cmp_le x y).mpr q)))))
theorem hw_l_gt (hx : p.tables.exec = Jvm.exec) (hb : c.code = cc) (hd0 : decode cc pc = .ok (.lcmp, 1)) (hdg : decode cc (pc + 1) = .ok (.ifCond .gt off, 3)) (ht : ((pc + 1 : Nat) : Int) + off = (tgt : Int)) (k1 : y < x → W p l e R s m args below meth c H locs cells slots Q (F0 m tgt ls rest)) (k2 : x ≤ y → W p l e R s m args below meth c H locs cells slots Q (F0 m (pc + 4) ls rest)) : W p l e R s m args below meth c H locs cells slots Q (F0 m pc ls (.long y :: .long x :: rest)) :=
  W.lcmp hx hb hd0 (lv_if_gt hx hb hdg ht (fun h => k1 ((lg_cmp_gt x y).mp h)) (fun h => k2 (Int64.not_lt.mp (fun q => h ((lg_cmp_gt x y).mpr q)))))
end HR
/-! the wholes: objects o i with rows r i; v i: how many limbs, and the limbs -/
def AllW (D : va_G) (L : List Nat) (f : Nat → va_E) (o r : Nat → Nat) (N : Nat) (v : Nat → Nat × (Nat → Nat)) : Prop := ∀ i, i < N → hw_c L f (o i) (.inr (5, [.ref (r i), .int (nI (v i).1)])) ∧ hw_c L f (r i) (.inl (D.1 100, 41, .inr (.inl (fun q => lN ((v i).2 q)))))
def Lay (o r : Nat → Nat) (N : Nat) : Prop := (∀ i j, i < N → j < N → o i = o j → i = j) ∧ (∀ i j, i < N → j < N → r i = r j → i = j)
theorem hw_ne {L : List Nat} {f : Nat → va_E} {a b : Nat} {x : ClassId × vp_A} {y : Nat × List Value} (h1 : hw_c L f a (.inl x)) (h2 : hw_c L f b (.inr y)) : a ≠ b := fun h => by
  subst h
  have := h1.2.symm.trans h2.2
  cases this
theorem AllW.or {D : va_G} {L : List Nat} {f : Nat → va_E} {o r : Nat → Nat} {N : Nat} {v : Nat → Nat × (Nat → Nat)} (h : AllW D L f o r N v) {i j : Nat} (hi : i < N) (hj : j < N) : o i ≠ r j := fun e => hw_ne (h j hj).2 (h i hi).1 e.symm
theorem AllW.st {D : va_G} {L : List Nat} {f : Nat → va_E} {o r : Nat → Nat} {N : Nat} {v : Nat → Nat × (Nat → Nat)} (h : AllW D L f o r N v) (hY : Lay o r N) {i : Nat} (hi : i < N) (k x : Nat) : AllW D L (va_up f (r i) (.inl (D.1 100, 41, .inr (.inl (vp_updL (fun q => lN ((v i).2 q)) k (lN x)))))) o r N (va_up v i ((v i).1, va_up (v i).2 k x)) := by
  intro j hj
  by_cases e : j = i
  · subst e
    rw [hw_up_eq]
    refine ⟨(h j hj).1.up (h.or hj hj), ?_⟩
    have h2 := (h j hj).2.self (e' := (.inl (D.1 100, 41, .inr (.inl (vp_updL (fun q => lN ((v j).2 q)) k (lN x))))))
    have e2 : (vp_updL (fun q => lN ((v j).2 q)) k (lN x)) = (fun q => lN (va_up (v j).2 k x q)) := by
      funext q
      simp only [vp_updL, va_up]
      split <;> rfl
    rw [e2] at h2
    rw [e2]
    exact h2
  · rw [hw_up_ne e]
    exact ⟨(h j hj).1.up (h.or hj hi), (h j hj).2.up (fun q => e (hY.2 j i hj hi q))⟩
theorem AllW.ps {D : va_G} {L : List Nat} {f : Nat → va_E} {o r : Nat → Nat} {N : Nat} {v : Nat → Nat × (Nat → Nat)} (h : AllW D L f o r N v) (hY : Lay o r N) {i : Nat} (hi : i < N) (n : Nat) : AllW D L (va_up f (o i) (.inr (5, [.ref (r i), .int (nI n)]))) o r N (va_up v i (n, (v i).2)) := by
  intro j hj
  by_cases e : j = i
  · subst e
    rw [hw_up_eq]
    exact ⟨(h j hj).1.self, (h j hj).2.up (fun q => h.or hj hj q.symm)⟩
  · rw [hw_up_ne e]
    exact ⟨(h j hj).1.up (fun q => e (hY.1 j i hj hi q)), (h j hj).2.up (fun q => h.or hi hj q.symm)⟩
section HWh
variable {p : Program} {l : Launch} {e : Env} {R : Room} {s : State} {m : MethodId} {args : Array Value} {below : List Frame} {meth : Method} {c : Code} {H : Heap} {locs : List Loc} {cells slots : Nat} {Q : State → Prop}
variable {cc : ByteArray} {pc nL : Nat} {ls : Array Slot} {rest : List Value} {D : va_G} {t0 : Nat} {A : Nat → Prop} {L : List Nat} {f : Nat → va_E} {o r : Nat → Nat} {N : Nat} {v : Nat → Nat × (Nat → Nat)} {i : Nat} {own : String} {index : Nat}
theorem wh_limbs (S : CallFix p m c cc nL s args TT "WallFractions$Whole") (hI : hw_I D t0 A s L f H locs) (hV : AllW D L f o r N v) (hi : i < N) (hdg : decode cc pc = .ok (.getfield 9, 3))
    (kk : W p l e R s m args below meth c H locs cells slots Q (F0 m (pc + 3) ls (.ref (r i) :: rest))) : W p l e R s m args below meth c H locs cells slots Q (F0 m pc ls (.ref (o i) :: rest)) :=
  hw_get S.1 S.2.1 (C := R_Wh) (T := F_Wh) (N := 2) (ref := "WallFractions$Whole") S.2.2.2.2 i_Wh S.2.2.2.1 hI (hV i hi).1 rfl 0 (by decide) (S.2.2.2.2 _ w_39) (fun _ h => h) rfl hdg kk
theorem wh_size (S : CallFix p m c cc nL s args TT "WallFractions$Whole") (hI : hw_I D t0 A s L f H locs) (hV : AllW D L f o r N v) (hi : i < N) (hdg : decode cc pc = .ok (.getfield 15, 3))
    (kk : W p l e R s m args below meth c H locs cells slots Q (F0 m (pc + 3) ls (.int (nI (v i).1) :: rest))) : W p l e R s m args below meth c H locs cells slots Q (F0 m pc ls (.ref (o i) :: rest)) :=
  hw_get S.1 S.2.1 (C := R_Wh) (T := F_Wh) (N := 2) (ref := "WallFractions$Whole") S.2.2.2.2 i_Wh S.2.2.2.1 hI (hV i hi).1 rfl 1 (by decide) (S.2.2.2.2 _ w_42) (fun _ h => h) rfl hdg kk
theorem wh_psize (S : CallFix p m c cc nL s args TT "WallFractions$Whole") (hI : hw_I D t0 A s L f H locs) (hV : AllW D L f o r N v) (hY : Lay o r N) (hi : i < N) {n : Nat} (hdg : decode cc pc = .ok (.putfield 15, 3))
    (kk : ∀ (f' : Nat → va_E) (H' : Heap) (locs' : List Loc), hw_I D t0 A s L f' H' locs' → AllW D L f' o r N (va_up v i (n, (v i).2)) → (∀ q, q ≠ o i → f' q = f q) → W p l e R s m args below meth c H' locs' cells slots Q (F0 m (pc + 3) ls rest)) : W p l e R s m args below meth c H locs cells slots Q (F0 m pc ls (.int (nI n) :: .ref (o i) :: rest)) :=
  hw_put S.1 S.2.1 (C := R_Wh) (T := F_Wh) (N := 2) (ref := "WallFractions$Whole") (ty := .int) S.2.2.2.2 i_Wh t_Wh t_Wh_ok n_Wh S.2.2.2.1 hI (hV i hi).1 rfl 1 (by decide) (S.2.2.2.2 _ w_42) (fun _ h => h) rfl (by decide +kernel) rfl rfl (by show 1 < 2; decide) hdg (fun H1 locs1 h => kk _ H1 locs1 h (hV.ps hY hi n) (fun q hq => hw_up_ne hq))
theorem wh_ld (S : CallFix p m c cc nL s args TT own) (hI : hw_I D t0 A s L f H locs) (hV : AllW D L f o r N v) (hi : i < N) {k : Nat} (hk : k < 41) (hdg : decode cc pc = .ok (.laload, 1))
    (kk : W p l e R s m args below meth c H locs cells slots Q (F0 m (pc + 1) ls (.long (lN ((v i).2 k)) :: rest))) : W p l e R s m args below meth c H locs cells slots Q (F0 m pc ls (.int (nI k) :: .ref (r i) :: rest)) :=
  hw_lald S.1 S.2.1 hI 0 (hV i hi).2 rfl (vp_in_nI hk (by decide)) hdg (by rw [nI_clamp (by omega)]; exact kk)
theorem wh_st (S : CallFix p m c cc nL s args TT own) (hI : hw_I D t0 A s L f H locs) (hV : AllW D L f o r N v) (hY : Lay o r N) (hi : i < N) {k x : Nat} (hk : k < 41) (hdg : decode cc pc = .ok (.lastore, 1))
    (kk : ∀ (f' : Nat → va_E) (H' : Heap) (locs' : List Loc), hw_I D t0 A s L f' H' locs' → AllW D L f' o r N (va_up v i ((v i).1, va_up (v i).2 k x)) → (∀ q, q ≠ r i → f' q = f q) → W p l e R s m args below meth c H' locs' cells slots Q (F0 m (pc + 1) ls rest)) : W p l e R s m args below meth c H locs cells slots Q (F0 m pc ls (.long (lN x) :: .int (nI k) :: .ref (r i) :: rest)) :=
  hw_last S.1 S.2.1 hI 0 (hV i hi).2 rfl (vp_in_nI hk (by decide)) hdg (fun H1 locs1 h => by
    rw [nI_clamp (by omega)] at h
    exact kk _ H1 locs1 h (hV.st hY hi k x) (fun q hq => hw_up_ne hq))
end HWh
section HL
variable {p : Program} {l : Launch} {e : Env} {R : Room} {s : State} {m : MethodId} {args : Array Value} {below : List Frame} {meth : Method} {c : Code} {H : Heap} {locs : List Loc} {cells slots : Nat} {Q : State → Prop}
variable {cc : ByteArray} {pc : Nat} {ls : Array Slot} {rest : List Value}
theorem hw_ldc2 (hx : p.tables.exec = Jvm.exec) (hb : c.code = cc) {own : String} {index : Nat} {v : Int64} (hown : s.vm.findClass own = some m.cls) (hconst : (Jvm.Cond.constantLong own index v).before args s = true) (hdg : decode cc pc = .ok (.ldc2_w index, 3)) (k : W p l e R s m args below meth c H locs cells slots Q (F0 m (pc + 3) ls (.long v :: rest))) : W p l e R s m args below meth c H locs cells slots Q (F0 m pc ls rest) := W.ldc2 hx hb hown hconst rfl hdg k
theorem hw_ldc (hx : p.tables.exec = Jvm.exec) (hb : c.code = cc) {own : String} {index : Nat} {v : Int32} (hown : s.vm.findClass own = some m.cls) (hconst : (Jvm.Cond.constant own index v).before args s = true) (hdg : decode cc pc = .ok (.ldc index, 2)) (k : W p l e R s m args below meth c H locs cells slots Q (F0 m (pc + 2) ls (.int v :: rest))) : W p l e R s m args below meth c H locs cells slots Q (F0 m pc ls rest) := W.ldc hx hb hown hconst rfl hdg k
end HL
end
section
/-! numbers as rows of limbs, the base nB = 10^9 -/
def nB : Nat := 1000000000
theorem nB_eq : nB = 1000000000 := rfl
theorem nB_pos : 0 < nB := by decide
/-- the number that the lowest n limbs of f are, in base b -/
def nvb (b : Nat) (f : Nat → Nat) : Nat → Nat
  | 0 => 0
  | n + 1 => nvb b f n + f n * b ^ n
abbrev nv (f : Nat → Nat) (n : Nat) : Nat := nvb nB f n
theorem nvb_zero (b : Nat) (f : Nat → Nat) : nvb b f 0 = 0 := rfl
theorem nvb_succ (b : Nat) (f : Nat → Nat) (n : Nat) : nvb b f (n + 1) = nvb b f n + f n * b ^ n := rfl
theorem nvb_congr {b : Nat} {f g : Nat → Nat} {n : Nat} (h : ∀ j, j < n → f j = g j) : nvb b f n = nvb b g n := by
  induction n with
  | zero => rfl
  | succ n ih => rw [nvb_succ, nvb_succ, ih (fun j hj => h j (by omega)), h n (by omega)]
theorem nvb_up {b : Nat} {f : Nat → Nat} {n k v : Nat} (h : n ≤ k) : nvb b (va_up f k v) n = nvb b f n := nvb_congr (fun j hj => by simp only [va_up]; rw [if_neg (by omega)])
theorem nvb_upS {b : Nat} {f : Nat → Nat} {n v : Nat} : nvb b (va_up f n v) (n + 1) = nvb b f n + v * b ^ n := by
  rw [nvb_succ, nvb_up (Nat.le_refl n)]; simp only [va_up]; simp
theorem nvb_lt {b : Nat} {f : Nat → Nat} {n : Nat} (h : ∀ j, j < n → f j < b) : nvb b f n < b ^ n := by
  induction n with
  | zero => simp [nvb]
  | succ n ih =>
    have h1 := ih (fun j hj => h j (by omega))
    have h2 : f n + 1 ≤ b := h n (by omega)
    have h3 : (f n + 1) * b ^ n ≤ b * b ^ n := Nat.mul_le_mul_right _ h2
    rw [nvb_succ, Nat.pow_succ, Nat.mul_comm (b ^ n) b]
    rw [Nat.add_mul, Nat.one_mul] at h3
    omega
theorem nvb_zeros {b : Nat} {f : Nat → Nat} {n m : Nat} (hm : n ≤ m) (h : ∀ j, n ≤ j → j < m → f j = 0) : nvb b f m = nvb b f n := by
  induction m with
  | zero => have : n = 0 := by omega
            rw [this]
  | succ m ih =>
    by_cases hn : n = m + 1
    · rw [hn]
    · rw [nvb_succ, h m (by omega) (by omega), ih (by omega) (fun j h1 h2 => h j h1 (by omega)), Nat.zero_mul, Nat.add_zero]
theorem nvb_top {b : Nat} {f : Nat → Nat} {n : Nat} (h : 0 < f n) : b ^ n ≤ nvb b f (n + 1) := by
  rw [nvb_succ]
  have : 1 * b ^ n ≤ f n * b ^ n := Nat.mul_le_mul_right _ h
  omega
theorem nvb_mono {b : Nat} {f : Nat → Nat} {n m : Nat} (h : n ≤ m) : nvb b f n ≤ nvb b f m := by
  induction m with
  | zero => have : n = 0 := by omega
            rw [this]; exact Nat.le_refl _
  | succ m ih =>
    by_cases hn : n = m + 1
    · rw [hn]; exact Nat.le_refl _
    · rw [nvb_succ]; have := ih (by omega); omega
/-- the upper part of a row -/
def nsh (f : Nat → Nat) (k : Nat) : Nat → Nat := fun j => f (k + j)
theorem nvb_split (b : Nat) (f : Nat → Nat) (k n : Nat) : nvb b f (k + n) = nvb b f k + b ^ k * nvb b (nsh f k) n := by
  induction n with
  | zero => simp [nvb]
  | succ n ih =>
    rw [← Nat.add_assoc, nvb_succ, ih, nvb_succ, Nat.mul_add, Nat.pow_add, nsh]
    have : f (k + n) * (b ^ k * b ^ n) = b ^ k * (f (k + n) * b ^ n) := by
      rw [Nat.mul_left_comm]
    omega
theorem nvb_div {b : Nat} {f : Nat → Nat} (k n : Nat) (h : ∀ j, j < k → f j < b) : nvb b f (k + n) / b ^ k = nvb b (nsh f k) n := by
  have h1 := nvb_lt h
  rw [nvb_split, Nat.add_mul_div_left _ _ (by omega), Nat.div_eq_of_lt h1, Nat.zero_add]
theorem nvb_mod {b : Nat} {f : Nat → Nat} (k n : Nat) (h : ∀ j, j < k → f j < b) : nvb b f (k + n) % b ^ k = nvb b f k := by
  have h1 := nvb_lt h
  rw [nvb_split, Nat.add_mul_mod_self_left, Nat.mod_eq_of_lt h1]
/-- limb j of a row is a limb of its number -/
theorem nvb_limb {b : Nat} {f : Nat → Nat} {j n : Nat} (hj : j < n) (h : ∀ j, j < n → f j < b) : nvb b f n / b ^ j % b = f j := by
  obtain ⟨m, rfl⟩ : ∃ m, n = j + (1 + m) := ⟨n - j - 1, by omega⟩
  rw [nvb_div j (1 + m) (fun i hi => h i (by omega))]
  have h2 := nvb_mod (b := b) (f := nsh f j) 1 m (fun i hi => h (j + i) (by omega))
  rw [Nat.pow_one] at h2
  rw [h2, nvb_succ, nvb_zero]
  simp [nsh]
/-- two rows with the same top limbs: the first difference decides -/
theorem nvb_lt_of {b : Nat} {f g : Nat → Nat} {i n : Nat} (hi : i < n) (hf : ∀ j, j < n → f j < b) (h : f i < g i) (he : ∀ j, i < j → j < n → f j = g j) : nvb b f n < nvb b g n := by
  induction n with
  | zero => omega
  | succ n ih =>
    by_cases h1 : i = n
    · subst h1
      have h2 := nvb_lt (b := b) (f := f) (n := i) (fun j hj => hf j (by omega))
      have h3 : (f i + 1) * b ^ i ≤ g i * b ^ i := Nat.mul_le_mul_right _ h
      rw [nvb_succ, nvb_succ]
      rw [Nat.add_mul, Nat.one_mul] at h3
      omega
    · have h2 := ih (by omega) (fun j hj => hf j (by omega)) (fun j h3 h4 => he j h3 (by omega))
      rw [nvb_succ, nvb_succ, he n (by omega) (by omega)]
      omega
/-- the row is in order: limbs below the base, n of them, the highest not 0; x is its number -/
def nOk (b : Nat) (n : Nat) (f : Nat → Nat) (x : Nat) : Prop := (∀ j, f j < b) ∧ (0 < n → 0 < f (n - 1)) ∧ nvb b f n = x
theorem nOk.lt {b n x : Nat} {f : Nat → Nat} (h : nOk b n f x) : x < b ^ n := by rw [← h.2.2]; exact nvb_lt (fun j _ => h.1 j)
theorem nOk.ge {b n x : Nat} {f : Nat → Nat} (h : nOk b n f x) (hn : 0 < n) : b ^ (n - 1) ≤ x := by
  obtain ⟨k, rfl⟩ : ∃ k, n = k + 1 := ⟨n - 1, by omega⟩
  rw [← h.2.2]; exact nvb_top (h.2.1 hn)
theorem nOk.zero {b n x : Nat} {f : Nat → Nat} (hb : 0 < b) (h : nOk b n f x) : n = 0 ↔ x = 0 := by
  constructor
  · intro h0; rw [← h.2.2, h0]; rfl
  · intro h0
    by_cases hn : n = 0
    · exact hn
    · have := h.ge (by omega)
      have h2 : 0 < b ^ (n - 1) := Nat.pow_pos hb
      omega
theorem nOk.size_le {b n x k : Nat} {f : Nat → Nat} (hb : 1 < b) (h : nOk b n f x) : n ≤ k ↔ x < b ^ k := by
  constructor
  · intro hn
    exact Nat.lt_of_lt_of_le h.lt (Nat.pow_le_pow_right (by omega) hn)
  · intro hx
    by_cases hn : n ≤ k
    · exact hn
    · have h1 := h.ge (by omega)
      have h2 : b ^ k ≤ b ^ (n - 1) := Nat.pow_le_pow_right (by omega) (by omega)
      omega
theorem nOk.mk0 {b : Nat} {f : Nat → Nat} (h : ∀ j, f j < b) : nOk b 0 f 0 := ⟨h, fun h => by omega, rfl⟩
/-- equal numbers have equal sizes and limbs -/
theorem nOk.same {b n m x : Nat} {f g : Nat → Nat} (hb : 1 < b) (h : nOk b n f x) (k : nOk b m g x) : n = m ∧ ∀ j, j < n → f j = g j := by
  have h1 : n ≤ m := (h.size_le hb).mpr k.lt
  have h2 : m ≤ n := (k.size_le hb).mpr h.lt
  have e : n = m := by omega
  refine ⟨e, fun j hj => ?_⟩
  rw [← nvb_limb hj (fun j _ => h.1 j), ← nvb_limb (b := b) (f := g) (n := m) (by omega) (fun j _ => k.1 j), h.2.2, k.2.2]
end
section
/-! pure facts: the guessed limb of a division (Knuth), Euclid's steps on leading digits (Lehmer), Newton's root -/
theorem kd_le {U V U1 V1 W U0 V0 q : Nat} (hU : U = U1 * W + U0) (hU0 : U0 < W) (hV : V = V1 * W + V0) (h : q * V ≤ U) : q * V1 ≤ U1 := by
  have hW : 0 < W := by omega
  have h1 : q * V1 * W ≤ q * V := by rw [hV, Nat.mul_add, Nat.mul_assoc]; exact Nat.le_add_right _ _
  have h2 : q * V1 * W < (U1 + 1) * W := by
    rw [Nat.add_mul, Nat.one_mul]; omega
  have h3 := Nat.lt_of_mul_lt_mul_right h2
  omega
theorem kd_ge {U V U1 V1 W U0 V0 t : Nat} (hU : U = U1 * W + U0) (hV : V = V1 * W + V0) (hV0 : V0 < W) (h : t * V1 ≤ U1) (ht : t ≤ V1 + 1) : (t - 1) * V ≤ U := by
  rcases Nat.eq_zero_or_pos t with h0 | h0
  · subst h0; simp
  · obtain ⟨k, rfl⟩ : ∃ k, t = k + 1 := ⟨t - 1, by omega⟩
    have h1 : (k + 1) * V1 * W ≤ U1 * W := Nat.mul_le_mul_right _ h
    have h2 : k * V0 ≤ V1 * W := Nat.mul_le_mul (by omega) (by omega)
    have h3 : (k + 1 - 1) * V = k * V1 * W + k * V0 := by rw [Nat.add_sub_cancel, hV, Nat.mul_add, Nat.mul_assoc]
    have h4 : (k + 1) * V1 * W = k * V1 * W + V1 * W := by rw [Nat.add_mul, Nat.one_mul, Nat.add_mul]
    omega
theorem kd_hat {U V h v Z t : Nat} (hU : h * Z ≤ U) (hV : V ≤ (v + 1) * Z) (ht : t * v ≤ h) (hb : t ≤ 2 * v + 2) : (t - 2) * V ≤ U := by
  by_cases h2 : t ≤ 2
  · have : t - 2 = 0 := by omega
    rw [this]; simp
  · obtain ⟨k, rfl⟩ : ∃ k, t = k + 2 := ⟨t - 2, by omega⟩
    have h3 : (k + 2 - 2) * V ≤ k * ((v + 1) * Z) := by rw [Nat.add_sub_cancel]; exact Nat.mul_le_mul_left _ hV
    have h4 : k * (v + 1) ≤ h := by
      have : (k + 2) * v = k * v + 2 * v := by rw [Nat.add_mul]
      rw [Nat.mul_add, Nat.mul_one]; omega
    have h5 : k * ((v + 1) * Z) ≤ h * Z := by rw [← Nat.mul_assoc]; exact Nat.mul_le_mul_right _ h4
    omega
/-- what the walk of a guess knows: the top limb v and the next v2 of the divisor, high and u2 the top of what is left -/
def kd_at (B v v2 high u2 W U0 V0 U V : Nat) : Prop := 1 < B ∧ B ≤ 2 * v ∧ v < B ∧ v2 < B ∧ u2 < B ∧ U0 < W ∧ V0 < W ∧ V = (v * B + v2) * W + V0 ∧ U = (high * B + u2) * W + U0 ∧ U < V * B
theorem kd_at.Vpos {B v v2 high u2 W U0 V0 U V : Nat} (h : kd_at B v v2 high u2 W U0 V0 U V) : 0 < V := by
  obtain ⟨h1, h2, h3, h4, h5, h6, h7, h8, h9, h10⟩ := h
  rcases Nat.eq_zero_or_pos V with e | e
  · rw [e] at h10; omega
  · exact e
theorem kd_at.q {B v v2 high u2 W U0 V0 U V : Nat} (h : kd_at B v v2 high u2 W U0 V0 U V) : U / V < B := by
  have hV := h.Vpos
  obtain ⟨h1, h2, h3, h4, h5, h6, h7, h8, h9, h10⟩ := h
  exact (Nat.div_lt_iff_lt_mul hV).mpr (by rw [Nat.mul_comm]; exact h10)
theorem kd_at.high {B v v2 high u2 W U0 V0 U V : Nat} (h : kd_at B v v2 high u2 W U0 V0 U V) : high < (v + 1) * B := by
  obtain ⟨h1, h2, h3, h4, h5, h6, h7, h8, h9, h10⟩ := h
  have e1 : high * B * W ≤ U := by rw [h9, Nat.add_mul]; omega
  have e2 : V * B ≤ (v * B + B) * W * B := by
    refine Nat.mul_le_mul_right _ ?_
    have : (v * B + v2) * W + V0 ≤ (v * B + v2 + 1) * W := by rw [Nat.add_mul _ 1]; omega
    rw [h8]
    exact Nat.le_trans this (Nat.mul_le_mul_right _ (by omega))
  have e3 : (v * B + B) * W * B = (v + 1) * B * (B * W) := by
    have : v * B + B = (v + 1) * B := by rw [Nat.add_mul, Nat.one_mul]
    rw [this, Nat.mul_assoc, Nat.mul_comm W B]
  have e4 : high * (B * W) < (v + 1) * B * (B * W) := by rw [← Nat.mul_assoc]; omega
  exact Nat.lt_of_mul_lt_mul_right e4
theorem kd_at.top {B v v2 high u2 W U0 V0 U V : Nat} (h : kd_at B v v2 high u2 W U0 V0 U V) : U / V ≤ high / v := by
  have hV := h.Vpos
  obtain ⟨h1, h2, h3, h4, h5, h6, h7, h8, h9, h10⟩ := h
  have hv : 0 < v := by omega
  refine (Nat.le_div_iff_mul_le hv).mpr ?_
  refine kd_le (U := U) (V := V) (W := B * W) (U0 := u2 * W + U0) (V0 := v2 * W + V0) ?_ ?_ ?_ (Nat.div_mul_le_self U V)
  · rw [h9, Nat.add_mul, Nat.mul_assoc, Nat.add_assoc]
  · have : (u2 + 1) * W ≤ B * W := Nat.mul_le_mul_right _ h5
    rw [Nat.add_mul, Nat.one_mul] at this; omega
  · rw [h8, Nat.add_mul, Nat.mul_assoc, Nat.add_assoc]
theorem kd_at.hat {B v v2 high u2 W U0 V0 U V : Nat} (h : kd_at B v v2 high u2 W U0 V0 U V) : high / v ≤ B + 1 ∧ high / v ≤ U / V + 2 := by
  have hV := h.Vpos
  have hh := h.high
  obtain ⟨h1, h2, h3, h4, h5, h6, h7, h8, h9, h10⟩ := h
  have hv : 0 < v := by omega
  have e1 : high / v < B + 2 := (Nat.div_lt_iff_lt_mul hv).mpr (by
    have : (B + 2) * v = v * B + 2 * v := by rw [Nat.add_mul, Nat.mul_comm B v]
    rw [Nat.add_mul, Nat.one_mul] at hh; omega)
  refine ⟨by omega, ?_⟩
  have e2 : (high / v - 2) * V ≤ U := by
    refine kd_hat (h := high) (v := v) (Z := B * W) ?_ ?_ (Nat.div_mul_le_self high v) (by omega)
    · rw [h9, Nat.add_mul, Nat.mul_assoc]; omega
    · have : (v2 + 1) * W ≤ B * W := Nat.mul_le_mul_right _ h4
      rw [Nat.add_mul, Nat.one_mul] at this
      rw [h8, Nat.add_mul, Nat.mul_assoc, Nat.add_mul v 1, Nat.one_mul]; omega
  have := (Nat.le_div_iff_mul_le hV).mpr e2
  omega
/-- t is too great: one less is not too small -/
theorem kd_at.down {B v v2 high u2 W U0 V0 U V t over : Nat} (h : kd_at B v v2 high u2 W U0 V0 U V) (ho : over + t * v = high) (ht : U / V ≤ t) (hc : ¬ (t < B ∧ t * v2 ≤ over * B + u2)) : 0 < t ∧ U / V ≤ t - 1 := by
  have hV := h.Vpos
  have hq := h.q
  obtain ⟨h1, h2, h3, h4, h5, h6, h7, h8, h9, h10⟩ := h
  by_cases hB : t < B
  · have h11 : over * B + u2 < t * v2 := by
      rcases Nat.lt_or_ge (over * B + u2) (t * v2) with h | h
      · exact h
      · exact absurd ⟨hB, h⟩ hc
    have e1 := kd_le h9 h6 h8 (Nat.div_mul_le_self U V)
    have e2 : t * (v * B + v2) = t * v * B + t * v2 := by rw [Nat.mul_add, Nat.mul_assoc]
    have e3 : high * B = over * B + t * v * B := by rw [← ho, Nat.add_mul]
    have e4 : U / V * (v * B + v2) < t * (v * B + v2) := by omega
    have h12 := Nat.lt_of_mul_lt_mul_right e4
    exact ⟨Nat.lt_of_le_of_lt (Nat.zero_le _) h12, Nat.le_sub_one_of_lt h12⟩
  · exact ⟨by omega, by omega⟩
theorem kd_at.good {B v v2 high u2 W U0 V0 U V t over : Nat} (h : kd_at B v v2 high u2 W U0 V0 U V) (ho : over + t * v = high) (hB : t < B) (hc : t * v2 ≤ over * B + u2) : t ≤ U / V + 1 := by
  have hV := h.Vpos
  obtain ⟨h1, h2, h3, h4, h5, h6, h7, h8, h9, h10⟩ := h
  have e2 : t * (v * B + v2) = t * v * B + t * v2 := by rw [Nat.mul_add, Nat.mul_assoc]
  have e3 : high * B = over * B + t * v * B := by rw [← ho, Nat.add_mul]
  have e5 : 1 * B ≤ v * B := Nat.mul_le_mul_right _ (by omega)
  have e4 := kd_ge h9 h8 h7 (t := t) (by omega) (by omega)
  have := (Nat.le_div_iff_mul_le hV).mpr e4
  omega
theorem kd_at.wide {B v v2 high u2 W U0 V0 U V t over : Nat} (h : kd_at B v v2 high u2 W U0 V0 U V) (ho : over + t * v = high) (hB : B ≤ over) : t < B ∧ t * v2 ≤ over * B + u2 := by
  have hh := h.high
  obtain ⟨h1, h2, h3, h4, h5, h6, h7, h8, h9, h10⟩ := h
  have hv : 0 < v := by omega
  have e1 : t * v < B * v := by
    rw [Nat.add_mul, Nat.one_mul] at hh
    have : v * B = B * v := Nat.mul_comm _ _
    omega
  have e2 := Nat.lt_of_mul_lt_mul_right e1
  refine ⟨e2, ?_⟩
  have : t * v2 ≤ B * B := Nat.mul_le_mul (by omega) (by omega)
  have : B * B ≤ over * B := Nat.mul_le_mul_right _ hB
  omega
/-! Lehmer -/
def le_sg (a b c d : Int) : Prop := (0 ≤ a ∧ b ≤ 0 ∧ c ≤ 0 ∧ 0 ≤ d) ∨ (a ≤ 0 ∧ 0 ≤ b ∧ 0 ≤ c ∧ d ≤ 0)
theorem le_lo {U X0 a : Int} (h0 : 0 ≤ X0) (h1 : X0 ≤ U) (ha : 0 ≤ a) : 0 ≤ a * X0 ∧ a * X0 ≤ a * U := ⟨Int.mul_nonneg ha h0, Int.mul_le_mul_of_nonneg_left h1 ha⟩
theorem le_hi {U X0 a : Int} (h0 : 0 ≤ X0) (h1 : X0 ≤ U) (ha : a ≤ 0) : a * U ≤ a * X0 ∧ a * X0 ≤ 0 := by
  have h := le_lo h0 h1 (a := -a) (by omega)
  have e1 : -a * X0 = -(a * X0) := Int.neg_mul _ _
  have e2 : -a * U = -(a * U) := Int.neg_mul _ _
  rw [e1, e2] at h
  omega
/-- the leading digits x (of a, b times the two long numbers) enclose the long number -/
theorem le_enc {U X Y x0 y0 a b : Int} (hU : 0 ≤ U) (hX : U * x0 ≤ X ∧ X ≤ U * x0 + U) (hY : U * y0 ≤ Y ∧ Y ≤ U * y0 + U) (hs : (0 ≤ a ∧ b ≤ 0) ∨ (a ≤ 0 ∧ 0 ≤ b)) :
    ((0 ≤ a ∧ b ≤ 0) → U * (a * x0 + b * y0 + b) ≤ a * X + b * Y ∧ a * X + b * Y ≤ U * (a * x0 + b * y0 + a)) ∧ ((a ≤ 0 ∧ 0 ≤ b) → U * (a * x0 + b * y0 + a) ≤ a * X + b * Y ∧ a * X + b * Y ≤ U * (a * x0 + b * y0 + b)) := by
  obtain ⟨X0, rfl⟩ : ∃ X0, X = U * x0 + X0 := ⟨X - U * x0, by omega⟩
  obtain ⟨Y0, rfl⟩ : ∃ Y0, Y = U * y0 + Y0 := ⟨Y - U * y0, by omega⟩
  have e : a * (U * x0 + X0) + b * (U * y0 + Y0) = U * (a * x0 + b * y0) + (a * X0 + b * Y0) := by grind
  have e1 : U * (a * x0 + b * y0 + b) = U * (a * x0 + b * y0) + b * U := by grind
  have e2 : U * (a * x0 + b * y0 + a) = U * (a * x0 + b * y0) + a * U := by grind
  rw [e, e1, e2]
  generalize U * (a * x0 + b * y0) = Z
  constructor
  · rintro ⟨h1, h2⟩
    have := le_lo (U := U) (X0 := X0) (by omega) (by omega) h1
    have := le_hi (U := U) (X0 := Y0) (by omega) (by omega) h2
    omega
  · rintro ⟨h1, h2⟩
    have := le_hi (U := U) (X0 := X0) (by omega) (by omega) h1
    have := le_lo (U := U) (X0 := Y0) (by omega) (by omega) h2
    omega
/-- a quotient that both ends of the enclosure agree on is the long numbers' own -/
theorem le_quo {U Xk Yk lo hi yl yh t : Int} (hU : 0 < U) (h1 : U * lo ≤ Xk) (h2 : Xk ≤ U * hi) (h3 : U * yl ≤ Yk) (h4 : Yk ≤ U * yh) (hyl : 0 < yl) (ht : 0 ≤ t) (hq1 : t * yh ≤ lo) (hq2 : hi < (t + 1) * yl) : t * Yk ≤ Xk ∧ Xk < (t + 1) * Yk := by
  constructor
  · have e1 : t * Yk ≤ t * (U * yh) := Int.mul_le_mul_of_nonneg_left h4 ht
    have e2 : U * (t * yh) ≤ U * lo := Int.mul_le_mul_of_nonneg_left hq1 (by omega)
    have e3 : t * (U * yh) = U * (t * yh) := by grind
    omega
  · have e1 : (t + 1) * (U * yl) ≤ (t + 1) * Yk := Int.mul_le_mul_of_nonneg_left h3 (by omega)
    have e2 : U * hi < U * ((t + 1) * yl) := Int.mul_lt_mul_of_pos_left hq2 hU
    have e3 : (t + 1) * (U * yl) = U * ((t + 1) * yl) := by grind
    omega
/-! Newton -/
theorem nw_div {N s g : Nat} (hs : N < (s + 1) * (s + 1)) (hg : s + 1 ≤ g) : N / g ≤ s := by
  have h1 : (s + 1) * (s + 1) ≤ (s + 1) * g := Nat.mul_le_mul_left _ hg
  have : N / g < s + 1 := (Nat.div_lt_iff_lt_mul (by omega)).mpr (by omega)
  omega
theorem nw_ge {N s g : Nat} (hs : s * s ≤ N) (hg : 0 < g) : s ≤ (N / g + g) / 2 := by
  have h1 := Nat.div_add_mod N g
  have h2 := Nat.mod_lt N hg
  generalize hq : N / g = q at *
  rw [Nat.le_div_iff_mul_le (by decide)]
  rcases Nat.lt_or_ge (q + g) (s * 2) with h | h
  · exfalso
    -- (q + g + 1)^2 <= 4 s^2 and 4 g (q + 1) <= (q + g + 1)^2
    have e1 : (q + g + 1) * (q + g + 1) ≤ (2 * s) * (2 * s) := Nat.mul_le_mul (by omega) (by omega)
    have e2 : 4 * (g * (q + 1)) ≤ (q + g + 1) * (q + g + 1) := by
      rcases Nat.le_total g (q + 1) with h3 | h3
      · obtain ⟨z, hz⟩ : ∃ z, q + 1 = g + z := ⟨q + 1 - g, by omega⟩
        have e3 : q + g + 1 = g + z + g := by omega
        rw [e3, hz]
        have : (g + z + g) * (g + z + g) = 4 * (g * (g + z)) + z * z := by grind
        omega
      · obtain ⟨z, hz⟩ : ∃ z, g = q + 1 + z := ⟨g - (q + 1), by omega⟩
        have e3 : q + g + 1 = (q + 1) + (q + 1 + z) := by omega
        rw [e3, hz]
        have : ((q + 1) + (q + 1 + z)) * ((q + 1) + (q + 1 + z)) = 4 * ((q + 1 + z) * (q + 1)) + z * z := by grind
        omega
    have e3 : (2 * s) * (2 * s) = 4 * (s * s) := by grind
    have e4 : g * (q + 1) = g * q + g := by rw [Nat.mul_add, Nat.mul_one]
    omega
  · omega
theorem nw_end {N s g : Nat} (h1 : s * s ≤ N) (h2 : N < (s + 1) * (s + 1)) (hg : s ≤ g) (hg0 : 0 < g) (hf : g ≤ (N / g + g) / 2) : g = s := by
  rcases Nat.lt_or_ge s g with h | h
  · have := nw_div h2 (g := g) h
    omega
  · omega
theorem nw_half {N s g : Nat} (h2 : N < (s + 1) * (s + 1)) (hg : s < g) : 2 * ((N / g + g) / 2 - s) ≤ g - s := by
  have := nw_div h2 (g := g) hg
  omega
theorem nw_sqrt (N : Nat) : ∃ s, s * s ≤ N ∧ N < (s + 1) * (s + 1) := by
  induction N with
  | zero => exact ⟨0, by decide, by decide⟩
  | succ N ih =>
    obtain ⟨s, h1, h2⟩ := ih
    by_cases h : N + 1 < (s + 1) * (s + 1)
    · exact ⟨s, by omega, h⟩
    · refine ⟨s + 1, by omega, ?_⟩
      have : (s + 1) * (s + 1) < (s + 1 + 1) * (s + 1 + 1) := Nat.mul_lt_mul_of_lt_of_lt (by omega) (by omega)
      omega
theorem nw_unique {N s t : Nat} (h1 : s * s ≤ N) (h2 : N < (s + 1) * (s + 1)) (h3 : t * t ≤ N) (h4 : N < (t + 1) * (t + 1)) : s = t := by
  rcases Nat.lt_trichotomy s t with h | h | h
  · have : (s + 1) * (s + 1) ≤ t * t := Nat.mul_le_mul h h
    omega
  · exact h
  · have : (t + 1) * (t + 1) ≤ s * s := Nat.mul_le_mul h h
    omega
end
section
/-! steps of loops over limbs -/
theorem nvb_digit {b : Nat} {h : Nat → Nat} {t cr w dg cr' S : Nat} (hS : nvb b h t + cr * b ^ t = S) (e : dg + cr' * b = w + cr) : nvb b (va_up h t dg) (t + 1) + cr' * b ^ (t + 1) = S + w * b ^ t := by
  rw [nvb_upS, Nat.pow_succ]
  have e1 : (dg + cr' * b) * b ^ t = (w + cr) * b ^ t := by rw [e]
  rw [Nat.add_mul, Nat.add_mul, Nat.mul_assoc, Nat.mul_comm b (b ^ t)] at e1
  omega
theorem nvb_borrow {b : Nat} {h : Nat → Nat} {t bw x y dg bw' X Y : Nat} (hS : nvb b h t + Y = X + bw * b ^ t) (e : dg + y + bw = x + bw' * b) : nvb b (va_up h t dg) (t + 1) + (Y + y * b ^ t) = (X + x * b ^ t) + bw' * b ^ (t + 1) := by
  rw [nvb_upS, Nat.pow_succ]
  have e1 : (dg + y + bw) * b ^ t = (x + bw' * b) * b ^ t := by rw [e]
  rw [Nat.add_mul, Nat.add_mul, Nat.add_mul, Nat.mul_assoc, Nat.mul_comm b (b ^ t)] at e1
  omega
/-- the limb that limbAt tells -/
def padl (u : Nat × (Nat → Nat)) (q : Nat) : Nat := if q < u.1 then u.2 q else 0
theorem padl_lt {b : Nat} {u : Nat × (Nat → Nat)} (hb : 0 < b) (h : ∀ j, u.2 j < b) (q : Nat) : padl u q < b := by
  unfold padl; split
  · exact h q
  · exact hb
theorem nvb_padl {b : Nat} {u : Nat × (Nat → Nat)} {n : Nat} (h : u.1 ≤ n) : nvb b (padl u) n = nvb b u.2 u.1 := by
  have h1 : nvb b (padl u) n = nvb b (padl u) u.1 := nvb_zeros h (fun j h1 h2 => by unfold padl; rw [if_neg (by omega)])
  rw [h1]
  exact nvb_congr (fun j hj => by unfold padl; rw [if_pos hj])
/-- what settle leaves -/
theorem nOk_settle {b n n' : Nat} {h : Nat → Nat} (hb : ∀ j, h j < b) (hn : n' ≤ n) (ht : 0 < n' → 0 < h (n' - 1)) (hz : ∀ j, n' ≤ j → j < n → h j = 0) : nOk b n' h (nvb b h n) := ⟨hb, ht, (nvb_zeros hn hz).symm⟩
/-- all wholes hold numbers -/
def AllN (D : va_G) (L : List Nat) (f : Nat → va_E) (o r : Nat → Nat) (N : Nat) (x : Nat → Nat) : Prop := ∃ v, AllW D L f o r N v ∧ ∀ i, i < N → (v i).1 ≤ 41 ∧ nOk nB (v i).1 (v i).2 (x i)
theorem AllN.mk {D : va_G} {L : List Nat} {f : Nat → va_E} {o r : Nat → Nat} {N : Nat} {x : Nat → Nat} {v : Nat → Nat × (Nat → Nat)} {i n y : Nat} {h : Nat → Nat} (ho : ∀ i, i < N → (v i).1 ≤ 41 ∧ nOk nB (v i).1 (v i).2 (x i)) (hV : AllW D L f o r N (va_up v i (n, h))) (hn : n ≤ 41) (hk : nOk nB n h y) : AllN D L f o r N (va_up x i y) := by
  refine ⟨_, hV, fun j hj => ?_⟩
  by_cases e : j = i
  · subst e; rw [hw_up_eq, hw_up_eq]; exact ⟨hn, hk⟩
  · rw [hw_up_ne e, hw_up_ne e]; exact ho j hj
theorem AllN.frame {D : va_G} {L : List Nat} {f f' : Nat → va_E} {o r : Nat → Nat} {N : Nat} {x : Nat → Nat} (h : AllN D L f o r N x) (hf : ∀ i, i < N → f' (o i) = f (o i) ∧ f' (r i) = f (r i)) : AllN D L f' o r N x := by
  obtain ⟨v, hV, ho⟩ := h
  exact ⟨v, fun i hi => ⟨⟨(hV i hi).1.1, (hf i hi).1.trans (hV i hi).1.2⟩, ⟨(hV i hi).2.1, (hf i hi).2.trans (hV i hi).2.2⟩⟩, ho⟩
theorem lN0 {a : Nat} (h : a < 2 ^ 63) : lN a = lN 0 ↔ a = 0 := pk_lEQ h (by decide)
theorem nB63 {a : Nat} (h : a < nB) : a < 2 ^ 63 := Nat.lt_trans h (by decide)
section HS
variable {p : Program} {l : Launch} {e : Env} {R : Room} {s : State} {m : MethodId} {args : Array Value} {below : List Frame} {meth : Method} {c : Code} {H : Heap} {locs : List Loc} {cells slots : Nat} {Q : State → Prop} {pc : Nat} {ls : Array Slot}
theorem hw_stk {st st' : List Value} (h : st = st') (k : W p l e R s m args below meth c H locs cells slots Q (F0 m pc ls st')) : W p l e R s m args below meth c H locs cells slots Q (F0 m pc ls st) := h ▸ k
end HS
end
section
/-! a counter that runs down: mI k is k - 1, and -1 at the end -/
def mI (k : Nat) : Int32 := nI k - 1
theorem mI_s (k : Nat) : mI (k + 1) = nI k := nI_pred k
theorem mI_p {k : Nat} (h : 0 < k) : mI k = nI (k - 1) := by
  obtain ⟨j, rfl⟩ : ∃ j, k = j + 1 := ⟨k - 1, by omega⟩
  rw [mI_s, Nat.add_sub_cancel]
theorem mI_d (k : Nat) : nI k + Int32.ofInt (-1) = mI k := by
  unfold mI
  rw [Int32.sub_eq_add_neg]
  rfl
theorem mI_0 : mI 0 < 0 := by decide
section HT
variable {p : Program} {l : Launch} {e : Env} {R : Room} {s : State} {m : MethodId} {args : Array Value} {below : List Frame} {meth : Method} {c : Code} {H : Heap} {locs : List Loc} {cells slots : Nat} {Q : State → Prop}
variable {cc : ByteArray} {pc nL index : Nat} {ls : Array Slot} {rest : List Value} {D : va_G} {t0 : Nat} {A : Nat → Prop} {L : List Nat} {f : Nat → va_E} {own : String}
theorem hw_m0 {off : Int} {tgt : Nat} (hx : p.tables.exec = Jvm.exec) (hb : c.code = cc) (hdg : decode cc pc = .ok (.ifCond .lt off, 3)) (ht : (pc : Int) + off = (tgt : Int)) (k1 : W p l e R s m args below meth c H locs cells slots Q (F0 m tgt ls rest)) : W p l e R s m args below meth c H locs cells slots Q (F0 m pc ls (.int (mI 0) :: rest)) :=
  lv_if_lt hx hb hdg ht (fun _ => k1) (fun h => absurd mI_0 h)
theorem hw_tens (S : CallFix p m c cc nL s args TT own) (hI : hw_I D t0 A s L f H locs) (hl : (own, index, "WallFractions", "TENS", "[J") ∈ NF) (hdg : decode cc pc = .ok (.getstatic index, 3)) (kk : W p l e R s m args below meth c H locs cells slots Q (F0 m (pc + 3) ls (.ref t0 :: rest))) : W p l e R s m args below meth c H locs cells slots Q (F0 m pc ls rest) :=
  va_getsN S.1 S.2.1 hI.2.2.2.2.2.2.2.2.1 hI.2.2.1 S.2.2.2.1 (va_Nw.use rfl (hI.2.2.2.2.2.1 _ hl)) (fun _ h => h) hdg kk
theorem hw_tld (S : CallFix p m c cc nL s args TT own) (hI : hw_I D t0 A s L f H locs) {k : Nat} (hk : k < 10) (hdg : decode cc pc = .ok (.laload, 1)) (kk : W p l e R s m args below meth c H locs cells slots Q (F0 m (pc + 1) ls (.long (lN (10 ^ k)) :: rest))) : W p l e R s m args below meth c H locs cells slots Q (F0 m pc ls (.int (nI k) :: .ref t0 :: rest)) :=
  va_tl S.1 S.2.1 hI.2.2.2.2.2.2.2.2.2.1 hI.2.2.1 (vp_in_nI hk (by decide)) (by rw [nI_clamp (by omega)]) hdg kk
end HT
/-- as Met.ofW, for a method of a class of which another method is the machine's own -/
theorem Met.ofWF {l : Launch} {y : MethodName} {ws ws' : List Cond} {rm : Room} {Pc : Array Value → State → Prop} {Qc : Array Value → State → Outcome → State → Prop} {mc ms : Nat} {free : Addr → Prop} {cc : ByteArray} {maxL : Nat} {ret : Option FieldType}
    (hy : plainFor y = true) (hw : ws = Cond.code y cc maxL ret :: ws')
    (body : ∀ p e s m args below meth c s₁, BodyLoose p l y (headSpec ws rm) cc maxL ret e s m args below meth c s₁ → c.maxLocals = maxL → Pc args s →
      W p l e (headSpec ws rm).room s m args below meth c s.heap [] 0 0 (MQ below Qc args s mc ms free) (entryFrame m args maxL)) : Met l y ws rm Pc Qc mc ms free := by
  refine MetFree.of_bodySF (code := cc) (maxLocals := maxL) (ret := ret) hy ?_ ?_
  · intro args s m h hn
    obtain ⟨meth, c, h1, h2, h3, h4, h5, h6, -, -⟩ := Cond.code_spec hn (atoms_spec (ws := ws) h _ (by rw [hw]; exact List.mem_cons_self))
    exact ⟨meth, c, h1, h2, h3, h4, h5, h6⟩
  · intro p e s m args below meth c s₁ B hml hP _
    have hh0 : s₁.heap = s.heap := by rw [B.state]; rfl
    obtain ⟨t, a1, o, b1, b2, b3⟩ := body p e s m args below meth c s₁ B hml hP s₁ hh0 (Stand.of_body B)
    exact ⟨t, o, a1, b1, b2, ⟨b3.1, b3.2⟩⟩
end
section
theorem AllW.arr {D : va_G} {L : List Nat} {f : Nat → va_E} {o r : Nat → Nat} {N : Nat} {v : Nat → Nat × (Nat → Nat)} (h : AllW D L f o r N v) (hY : Lay o r N) {i : Nat} (hi : i < N) (g : Nat → Nat) : AllW D L (va_up f (r i) (.inl (D.1 100, 41, .inr (.inl (fun q => lN (g q)))))) o r N (va_up v i ((v i).1, g)) := by
  intro j hj
  by_cases e : j = i
  · subst e
    rw [hw_up_eq]
    exact ⟨(h j hj).1.up (h.or hj hj), (h j hj).2.self⟩
  · rw [hw_up_ne e]
    exact ⟨(h j hj).1.up (h.or hj hi), (h j hj).2.up (fun q => e (hY.2 j i hj hi q))⟩
section HCp
variable {p : Program} {l : Launch} {e : Env} {R : Room} {s : State} {m : MethodId} {args : Array Value} {below : List Frame} {meth : Method} {c : Code} {H : Heap} {locs : List Loc} {cells slots : Nat} {Q : State → Prop}
variable {cc : ByteArray} {pc nL : Nat} {ls : Array Slot} {rest : List Value} {D : va_G} {t0 : Nat} {A : Nat → Prop} {L : List Nat} {f : Nat → va_E} {o r : Nat → Nat} {N : Nat} {v : Nat → Nat × (Nat → Nat)} {i : Nat} {own : String} {index : Nat}
theorem wh_copy (S : CallFix p m c cc nL s args TT own) (hI : hw_I D t0 A s L f H locs) (hV : AllW D L f o r N v) (hY : Lay o r N) (hi : i < N) {a0 n0 : Nat} {h0 : Nat → Nat} (ha0 : hw_c L f a0 (.inl (D.1 100, n0, .inr (.inl (fun q => lN (h0 q)))))) (hls : ls.size = nL) (hl : Cond.methodLink own index arraycopyName ∈ TT) {n : Nat} (hn : n ≤ 41) (hn0 : n ≤ n0)
    (hframes : 1 ≤ R.frames) (hlocals : (rest.map fun v => v.category).sum + (nativeFrameWords "java/lang/System" "arraycopy" 5 + 11) ≤ R.locals) (hdg : decode cc pc = .ok (.invokestatic index, 3))
    (kk : ∀ (f' : Nat → va_E) (H' : Heap) (locs' : List Loc), hw_I D t0 A s L f' H' locs' → AllW D L f' o r N (va_up v i ((v i).1, fun q => if q < n then h0 q else (v i).2 q)) → (∀ q, q ≠ r i → f' q = f q) → W p l e R s m args below meth c H' locs' cells slots Q (F0 m (pc + 3) ls rest)) : W p l e R s m args below meth c H locs cells slots Q (F0 m pc ls (.int (nI n) :: .int (nI 0) :: .ref (r i) :: .int (nI 0) :: .ref a0 :: rest)) := by
  have e0 : (nI 0).toNatClampNeg = 0 := nI_clamp (by decide)
  have en : (nI n).toNatClampNeg = n := nI_clamp (by omega)
  refine hw_copyl S.1 S.2.1 (S.2.2.1.trans hls.symm) S.2.2.2.1 (S.2.2.2.2 _ hl) (S.2.2.2.2 _ w_349) (S.2.2.2.2 _ w_348) (S.2.2.2.2 _ w_16) hI 0 0 ha0 (hV i hi).2 rfl rfl (nI_pos (by decide)) (nI_pos (by decide)) (nI_pos (by omega)) (by rw [e0, en]; omega) (by rw [e0, en]; omega) hframes hlocals hdg (fun H1 locs1 h => ?_)
  rw [e0, en] at h
  have e2 : va_cpy (fun q => lN (h0 q)) (fun q => lN ((v i).2 q)) 0 0 n = fun q => lN (if q < n then h0 q else (v i).2 q) := by
    funext q
    unfold va_cpy
    by_cases hq : q < n
    · rw [if_pos ⟨Nat.zero_le _, by omega⟩, if_pos hq, Nat.zero_add, Nat.sub_zero]
    · rw [if_neg (by omega), if_neg hq]
  rw [e2] at h
  exact kk _ H1 locs1 h (hV.arr hY hi _) (fun q hq => hw_up_ne hq)
end HCp
/-! numbers and their limbs -/
theorem nB1 : 1 < nB := by decide
theorem nOk_one {n x : Nat} {h : Nat → Nat} (hk : nOk nB n h x) : (n = 1 ∧ h 0 = 1) ↔ x = 1 := by
  constructor
  · rintro ⟨h1, h2⟩
    rw [← hk.2.2, h1, nvb_succ, nvb_zero, h2]
    rfl
  · intro e
    have h1 : n ≤ 1 := (hk.size_le nB1).mpr (by rw [e]; decide)
    have h2 : n ≠ 0 := fun h => by have := (hk.zero nB_pos).mp h; omega
    have h3 : n = 1 := by omega
    refine ⟨h3, ?_⟩
    have h4 := hk.2.2
    rw [h3, nvb_succ, nvb_zero, Nat.pow_zero, Nat.mul_one, Nat.zero_add] at h4
    omega
theorem nOk_low {x : Nat} {u : Nat × (Nat → Nat)} (hk : nOk nB u.1 u.2 x) (hx : x < nB ^ 2) : padl u 1 * nB + padl u 0 = x := by
  have h1 : u.1 ≤ 2 := (hk.size_le nB1).mpr hx
  have h2 := nvb_padl (b := nB) h1
  rw [hk.2.2, nvb_succ, nvb_succ, nvb_zero, Nat.pow_zero, Nat.pow_one] at h2
  omega
def cmpN (a b : Nat) : Int32 := if a < b then -1 else if a = b then 0 else 1
theorem cmpN_lt {a b : Nat} (h : a < b) : cmpN a b = -1 := if_pos h
theorem cmpN_eq {a b : Nat} (h : a = b) : cmpN a b = 0 := by unfold cmpN; rw [if_neg (by omega), if_pos h]
theorem cmpN_gt {a b : Nat} (h : b < a) : cmpN a b = 1 := by unfold cmpN; rw [if_neg (by omega), if_neg (by omega)]
theorem nOk_size_lt {n m x y : Nat} {f g : Nat → Nat} (h : nOk nB n f x) (k : nOk nB m g y) (hl : n < m) : x < y := by
  have h1 := h.lt
  have h2 := k.ge (by omega)
  have h3 : nB ^ n ≤ nB ^ (m - 1) := Nat.pow_le_pow_right nB_pos (by omega)
  omega
theorem up_fst {v : Nat → Nat × (Nat → Nat)} {i j : Nat} {g : Nat → Nat} : (va_up v i ((v i).1, g) j).1 = (v j).1 := by
  by_cases e : j = i
  · subst e; rw [hw_up_eq]
  · rw [hw_up_ne e]
theorem up_snd {v : Nat → Nat × (Nat → Nat)} {i j q n : Nat} {g : Nat → Nat} (h : g q = (v i).2 q) : (va_up v i (n, g) j).2 q = (v j).2 q := by
  by_cases e : j = i
  · subst e; rw [hw_up_eq]; exact h
  · rw [hw_up_ne e]
end
section
theorem up_padl {v : Nat → Nat × (Nat → Nat)} {i j q : Nat} {h : Nat → Nat} (e : h q = (v i).2 q) : padl (va_up v i ((v i).1, h) j) q = padl (v j) q := by
  unfold padl
  rw [up_fst, up_snd e]
theorem lN_sub3 {a b c : Nat} (h : b + c ≤ a) : lN a - lN b - lN c = lN (a - b - c) := by rw [lN_sub (by omega), lN_sub (by omega)]
theorem lN_sub3w {a b c w : Nat} (h : b + c ≤ a + w) : lN a - lN b - lN c + lN w = lN (a + w - b - c) := by
  rw [← lN_sub3 h, ← lN_add]
  grind
theorem lN_ti {n : Nat} (h : n < 2 ^ 63) : (lN n).toInt = (n : Int) := pk_lT h
theorem lN_sub3_ge {a b c : Nat} (ha : a < 2 ^ 60) (hb : b < 2 ^ 60) (hc : c < 2 ^ 60) : lN 0 ≤ lN a - lN b - lN c ↔ b + c ≤ a := by
  by_cases h : b + c ≤ a
  · rw [lN_sub3 h, pk_lLE (by decide) (by omega)]
    exact ⟨fun _ => h, fun _ => Nat.zero_le _⟩
  · refine ⟨fun q => absurd q ?_, fun q => absurd q h⟩
    have e1 : lN a - lN b - lN c + lN (b + c - a) = lN 0 := by
      rw [lN_sub3w (by omega), show a + (b + c - a) - b - c = 0 by omega]
    intro q
    have q1 := Int64.le_iff_toInt_le.mp q
    have e2 : lN a - lN b - lN c = lN 0 - lN (b + c - a) := by rw [← e1]; grind
    rw [e2, Int64.toInt_sub, lN_ti (by decide), lN_ti (by omega)] at q1
    have e3 : ((0 : Nat) : Int) - ((b + c - a : Nat) : Int) = -((b + c - a : Nat) : Int) := by omega
    rw [e3, Int.bmod_eq_of_le (by omega) (by omega)] at q1
    omega
theorem nvb_down {b : Nat} {f : Nat → Nat} {k n : Nat} (h : k < n) : nvb b (nsh f k) (n - k) = f k + b * nvb b (nsh f (k + 1)) (n - (k + 1)) := by
  have e1 : n - k = 1 + (n - (k + 1)) := by omega
  have e2 : nsh (nsh f k) 1 = nsh f (k + 1) := by funext j; unfold nsh; rw [show k + (1 + j) = k + 1 + j by omega]
  rw [e1, nvb_split, e2, nvb_succ, nvb_zero, Nat.pow_one, Nat.pow_zero]
  simp [nsh]
theorem nvb_nsh_up {b : Nat} {f : Nat → Nat} {k q v n : Nat} (h : q < k) : nvb b (nsh (va_up f q v) k) n = nvb b (nsh f k) n := nvb_congr (fun j _ => by unfold nsh; rw [hw_up_ne (by omega)])
/-- a step of a short division, from the top down -/
theorem sdiv_step {b : Nat} {f h : Nat → Nat} {k n d rest : Nat} (hk : k < n) (hd : 0 < d) (he : nvb b (nsh f (k + 1)) (n - (k + 1)) = nvb b (nsh h (k + 1)) (n - (k + 1)) * d + rest) :
    nvb b (nsh f k) (n - k) = nvb b (nsh (va_up h k ((rest * b + f k) / d)) k) (n - k) * d + (rest * b + f k) % d := by
  rw [nvb_down hk, nvb_down hk, hw_up_eq, nvb_nsh_up (by omega), he]
  generalize nvb b (nsh h (k + 1)) (n - (k + 1)) = Z
  have e := Nat.div_add_mod (rest * b + f k) d
  generalize (rest * b + f k) / d = q at *
  generalize (rest * b + f k) % d = w at *
  grind
theorem sdiv_lt {b d rest z : Nat} (hr : rest < d) (hz : z < b) : (rest * b + z) / d < b := by
  refine (Nat.div_lt_iff_lt_mul (by omega)).mpr ?_
  have : (rest + 1) * b ≤ d * b := Nat.mul_le_mul_right _ hr
  rw [Nat.add_mul, Nat.one_mul] at this
  rw [Nat.mul_comm b d]
  omega
end
section
theorem nsh_up {f : Nat → Nat} {a t v : Nat} : nsh (va_up f (a + t) v) a = va_up (nsh f a) t v := by
  funext j
  unfold nsh va_up
  by_cases e : j = t
  · subst e; simp
  · rw [if_neg e, if_neg (by omega)]
theorem prod_lt {b x y c s : Nat} (hx : x < b) (hy : y < b) (hs : s < b) (hc : c < b) : s + x * y + c < b * b := by
  have h1 : x * y ≤ (b - 1) * (b - 1) := Nat.mul_le_mul (by omega) (by omega)
  obtain ⟨z, rfl⟩ : ∃ z, b = z + 1 := ⟨b - 1, by omega⟩
  rw [Nat.add_sub_cancel] at h1
  have : (z + 1) * (z + 1) = z * z + z + z + 1 := by grind
  omega
theorem prod_step {b : Nat} {h h2 y z : Nat → Nat} {a K cr : Nat} (h1 : ∀ q, q < a → h2 q = h q) (hS : nvb b (nsh h2 a) K + cr * b ^ K = nvb b (nsh h a) K + y a * nvb b z K) (hO : nvb b h (a + K) = nvb b y a * nvb b z K) : nvb b (va_up h2 (a + K) cr) (a + 1 + K) = nvb b y (a + 1) * nvb b z K := by
  rw [show a + 1 + K = a + (K + 1) by omega, nvb_split, nsh_up, nvb_upS, hS, nvb_up (by omega), nvb_congr h1, nvb_succ]
  rw [nvb_split] at hO
  rw [Nat.add_mul, ← hO]
  grind
theorem padl_num {n x q : Nat} {h : Nat → Nat} (hk : nOk nB n h x) : padl (n, h) q = x / nB ^ q % nB := by
  unfold padl
  by_cases e : q < n
  · rw [if_pos e, ← hk.2.2, nvb_limb e (fun j _ => hk.1 j)]
  · rw [if_neg e, Nat.div_eq_of_lt (Nat.lt_of_lt_of_le hk.lt (Nat.pow_le_pow_right nB_pos (by omega))), Nat.zero_mod]
theorem nB10 : nB = 10 ^ 9 := by decide
theorem dig_low {y r : Nat} (hr : r < 9) : y % nB / 10 ^ r % 10 = y / 10 ^ r % 10 := by
  obtain ⟨z, w, hy, hw⟩ : ∃ z w, y = nB * z + w ∧ y % nB = w := ⟨y / nB, y % nB, (Nat.div_add_mod y nB).symm, rfl⟩
  have h2 : nB = 10 ^ r * (10 * 10 ^ (8 - r)) := by
    rw [nB10, ← Nat.pow_succ', ← Nat.pow_add]
    congr 1
    omega
  have h4 : nB * z = 10 ^ r * (10 * (10 ^ (8 - r) * z)) := by
    rw [h2]
    grind
  rw [hw, hy, h4, Nat.mul_add_div (Nat.pow_pos (by decide)), Nat.mul_add_mod]
theorem dig_num {x k : Nat} : x / nB ^ (k / 9) % nB / 10 ^ (k % 9) % 10 = x / 10 ^ k % 10 := by
  rw [dig_low (Nat.mod_lt _ (by decide)), Nat.div_div_eq_div_mul, nB10, ← Nat.pow_mul, ← Nat.pow_add, Nat.div_add_mod]
/-- T is how many digits x has -/
def dlen (T x : Nat) : Prop := 1 ≤ T ∧ x < 10 ^ T ∧ (1 < T → 10 ^ (T - 1) ≤ x)
theorem dlen_top {n x T : Nat} {h : Nat → Nat} (hk : nOk nB n h x) (hn : 0 < n) (hT : 1 ≤ T) (h1 : 10 ^ (T - 1) ≤ h (n - 1)) (h2 : h (n - 1) < 10 ^ T) : dlen ((n - 1) * 9 + T) x := by
  obtain ⟨k, rfl⟩ : ∃ k, n = k + 1 := ⟨n - 1, by omega⟩
  rw [Nat.add_sub_cancel] at *
  have e1 := hk.2.2
  rw [nvb_succ] at e1
  have e2 := nvb_lt (b := nB) (f := h) (n := k) (fun j _ => hk.1 j)
  have e3 : (h k + 1) * nB ^ k ≤ 10 ^ T * nB ^ k := Nat.mul_le_mul_right _ h2
  have e4 : 10 ^ (T - 1) * nB ^ k ≤ h k * nB ^ k := Nat.mul_le_mul_right _ h1
  have e5 : ∀ m, 10 ^ (k * 9 + m) = 10 ^ m * nB ^ k := fun m => by rw [nB10, ← Nat.pow_mul, ← Nat.pow_add]; congr 1; omega
  rw [Nat.add_mul, Nat.one_mul] at e3
  refine ⟨by omega, by rw [e5]; omega, fun _ => ?_⟩
  rw [show k * 9 + T - 1 = k * 9 + (T - 1) by omega, e5]
  omega
theorem dlen_eq {S T x : Nat} (h : dlen S x) (k : dlen T x) : S = T := by
  have key : ∀ {S T : Nat}, dlen S x → dlen T x → S ≤ T := by
    intro S T h k
    rcases Nat.lt_or_ge T S with q | q
    · exfalso
      have h1 := h.2.2 (by have := k.1; omega)
      have h2 : 10 ^ T ≤ 10 ^ (S - 1) := Nat.pow_le_pow_right (by decide) (by omega)
      have := k.2.1
      omega
    · exact q
  exact Nat.le_antisymm (key h k) (key k h)
theorem ten_num {e : Nat} : 10 ^ (e % 9) * nB ^ (e / 9) = 10 ^ e := by
  rw [nB10, ← Nat.pow_mul, ← Nat.pow_add]
  congr 1
  omega
theorem ten9 {r : Nat} (h : r < 9) : 10 ^ r < nB ∧ 0 < 10 ^ r := by
  refine ⟨?_, Nat.pow_pos (by decide)⟩
  have : 10 ^ r ≤ 10 ^ 8 := Nat.pow_le_pow_right (by decide) (by omega)
  rw [nB10]
  omega
end
section
/-! rows of longs that stand alone; fields of nest mates -/
def arrN (D : va_G) (L : List Nat) (f : Nat → va_E) (a n : Nat) (u : Nat → Nat) : Prop := hw_c L f a (.inl (D.1 100, n, .inr (.inl (fun q => lN (u q)))))
theorem hw_c.fr {L : List Nat} {f f' : Nat → va_E} {a : Nat} {e : va_E} (h : hw_c L f a e) (hf : f' a = f a) : hw_c L f' a e := ⟨h.1, hf.trans h.2⟩
theorem AllW.fr {D : va_G} {L : List Nat} {f f' : Nat → va_E} {o r : Nat → Nat} {N : Nat} {v : Nat → Nat × (Nat → Nat)} (h : AllW D L f o r N v) (hf : ∀ i, i < N → f' (o i) = f (o i) ∧ f' (r i) = f (r i)) : AllW D L f' o r N v := fun i hi => ⟨(h i hi).1.fr (hf i hi).1, (h i hi).2.fr (hf i hi).2⟩
theorem AllW.ne {D : va_G} {L : List Nat} {f : Nat → va_E} {o r : Nat → Nat} {N : Nat} {v : Nat → Nat × (Nat → Nat)} (h : AllW D L f o r N v) {a i : Nat} {x : ClassId × vp_A} (ha : hw_c L f a (.inl x)) (hi : i < N) : o i ≠ a := fun e => hw_ne ha (h i hi).1 e.symm
section HAr
variable {p : Program} {l : Launch} {e : Env} {R : Room} {s : State} {m : MethodId} {args : Array Value} {below : List Frame} {meth : Method} {c : Code} {H : Heap} {locs : List Loc} {cells slots : Nat} {Q : State → Prop}
variable {cc : ByteArray} {pc nL : Nat} {ls : Array Slot} {rest : List Value} {D : va_G} {t0 : Nat} {A : Nat → Prop} {L : List Nat} {f : Nat → va_E} {o r : Nat → Nat} {N : Nat} {v : Nat → Nat × (Nat → Nat)} {i : Nat} {own : String} {index a n : Nat} {u : Nat → Nat}
theorem ar_ld (S : CallFix p m c cc nL s args TT own) (hI : hw_I D t0 A s L f H locs) (hU : arrN D L f a n u) (hn : n < 2 ^ 31) {k : Nat} (hk : k < n) (hdg : decode cc pc = .ok (.laload, 1))
    (kk : W p l e R s m args below meth c H locs cells slots Q (F0 m (pc + 1) ls (.long (lN (u k)) :: rest))) : W p l e R s m args below meth c H locs cells slots Q (F0 m pc ls (.int (nI k) :: .ref a :: rest)) :=
  hw_lald S.1 S.2.1 hI 0 hU rfl (vp_in_nI hk hn) hdg (by rw [nI_clamp (by omega)]; exact kk)
theorem ar_st (S : CallFix p m c cc nL s args TT own) (hI : hw_I D t0 A s L f H locs) (hU : arrN D L f a n u) (hn : n < 2 ^ 31) {k x : Nat} (hk : k < n) (hdg : decode cc pc = .ok (.lastore, 1))
    (kk : ∀ (f' : Nat → va_E) (H' : Heap) (locs' : List Loc), hw_I D t0 A s L f' H' locs' → arrN D L f' a n (va_up u k x) → (∀ q, q ≠ a → f' q = f q) → W p l e R s m args below meth c H' locs' cells slots Q (F0 m (pc + 1) ls rest)) : W p l e R s m args below meth c H locs cells slots Q (F0 m pc ls (.long (lN x) :: .int (nI k) :: .ref a :: rest)) :=
  hw_last S.1 S.2.1 hI 0 hU rfl (vp_in_nI hk hn) hdg (fun H1 locs1 h => by
    rw [nI_clamp (by omega)] at h
    refine kk _ H1 locs1 h ?_ (fun q hq => hw_up_ne hq)
    have e2 : (vp_updL (fun q => lN (u q)) k (lN x)) = (fun q => lN (va_up u k x q)) := by
      funext q
      simp only [vp_updL, va_up]
      split <;> rfl
    have h2 := hU.self (e' := (.inl (D.1 100, n, .inr (.inl (vp_updL (fun q => lN (u q)) k (lN x))))))
    unfold arrN
    rw [e2] at h2
    rw [e2]
    exact h2)
theorem wh_limbsN (S : CallFix p m c cc nL s args TT own) (hI : hw_I D t0 A s L f H locs) (hV : AllW D L f o r N v) (hi : i < N) (hl : (own, index, "WallFractions$Whole", "limbs", "[J") ∈ NF) (hdg : decode cc pc = .ok (.getfield index, 3))
    (kk : W p l e R s m args below meth c H locs cells slots Q (F0 m (pc + 3) ls (.ref (r i) :: rest))) : W p l e R s m args below meth c H locs cells slots Q (F0 m pc ls (.ref (o i) :: rest)) :=
  hw_getN S.1 S.2.1 (C := R_Wh) (T := F_Wh) (N := 2) (ref := "WallFractions$Whole") (host := "WallFractions") S.2.2.2.2 i_Wh S.2.2.2.1 hI (hV i hi).1 rfl 0 (by decide) (va_Nw.use rfl (hI.2.2.2.2.2.1 _ hl)) (fun _ h => h) rfl hdg kk
theorem wh_sizeN (S : CallFix p m c cc nL s args TT own) (hI : hw_I D t0 A s L f H locs) (hV : AllW D L f o r N v) (hi : i < N) (hl : (own, index, "WallFractions$Whole", "size", "I") ∈ NF) (hdg : decode cc pc = .ok (.getfield index, 3))
    (kk : W p l e R s m args below meth c H locs cells slots Q (F0 m (pc + 3) ls (.int (nI (v i).1) :: rest))) : W p l e R s m args below meth c H locs cells slots Q (F0 m pc ls (.ref (o i) :: rest)) :=
  hw_getN S.1 S.2.1 (C := R_Wh) (T := F_Wh) (N := 2) (ref := "WallFractions$Whole") (host := "WallFractions") S.2.2.2.2 i_Wh S.2.2.2.1 hI (hV i hi).1 rfl 1 (by decide) (va_Nw.use rfl (hI.2.2.2.2.2.1 _ hl)) (fun _ h => h) rfl hdg kk
variable {ad al ab : Nat}
theorem dv_left (S : CallFix p m c cc nL s args TT "WallFractions$Divider") (hI : hw_I D t0 A s L f H locs) (hA : hw_c L f ad (.inr (0, [.ref al, .ref ab]))) (hdg : decode cc pc = .ok (.getfield 9, 3))
    (kk : W p l e R s m args below meth c H locs cells slots Q (F0 m (pc + 3) ls (.ref al :: rest))) : W p l e R s m args below meth c H locs cells slots Q (F0 m pc ls (.ref ad :: rest)) :=
  hw_get S.1 S.2.1 (C := R_Dv) (T := F_Dv) (N := 2) (ref := "WallFractions$Divider") S.2.2.2.2 i_Dv S.2.2.2.1 hI hA rfl 0 (by decide) (S.2.2.2.2 _ w_79) (fun _ h => h) rfl hdg kk
theorem dv_by (S : CallFix p m c cc nL s args TT "WallFractions$Divider") (hI : hw_I D t0 A s L f H locs) (hA : hw_c L f ad (.inr (0, [.ref al, .ref ab]))) (hdg : decode cc pc = .ok (.getfield 15, 3))
    (kk : W p l e R s m args below meth c H locs cells slots Q (F0 m (pc + 3) ls (.ref ab :: rest))) : W p l e R s m args below meth c H locs cells slots Q (F0 m pc ls (.ref ad :: rest)) :=
  hw_get S.1 S.2.1 (C := R_Dv) (T := F_Dv) (N := 2) (ref := "WallFractions$Divider") S.2.2.2.2 i_Dv S.2.2.2.1 hI hA rfl 1 (by decide) (S.2.2.2.2 _ w_80) (fun _ h => h) rfl hdg kk
end HAr
/-! whole longs and their sign -/
def zL (z : Int) : Int64 := Int64.ofInt z
theorem zL_lN (n : Nat) : lN n = zL (n : Int) := rfl
theorem zL_sub (a b : Int) : zL a - zL b = zL (a - b) := (Int64.ofInt_sub a b).symm
theorem zL_add (a b : Int) : zL a + zL b = zL (a + b) := (Int64.ofInt_add a b).symm
theorem zL_mul (a b : Int) : zL a * zL b = zL (a * b) := (Int64.ofInt_mul a b).symm
theorem zL_neg (a : Int) : -zL a = zL (-a) := (Int64.ofInt_neg a).symm
theorem zL_ti {z : Int} (h1 : -2 ^ 63 ≤ z) (h2 : z < 2 ^ 63) : (zL z).toInt = z := Int64.toInt_ofInt_of_le h1 h2
theorem zL_le {a b : Int} (h1 : -2 ^ 63 ≤ a) (h2 : a < 2 ^ 63) (h3 : -2 ^ 63 ≤ b) (h4 : b < 2 ^ 63) : zL a ≤ zL b ↔ a ≤ b := by rw [Int64.le_iff_toInt_le, zL_ti h1 h2, zL_ti h3 h4]
theorem zL_lt {a b : Int} (h1 : -2 ^ 63 ≤ a) (h2 : a < 2 ^ 63) (h3 : -2 ^ 63 ≤ b) (h4 : b < 2 ^ 63) : zL a < zL b ↔ a < b := by rw [Int64.lt_iff_toInt_lt, zL_ti h1 h2, zL_ti h3 h4]
theorem zL_eq {a b : Int} (h1 : -2 ^ 63 ≤ a) (h2 : a < 2 ^ 63) (h3 : -2 ^ 63 ≤ b) (h4 : b < 2 ^ 63) : zL a = zL b ↔ a = b := ⟨fun h => by have := congrArg Int64.toInt h; rwa [zL_ti h1 h2, zL_ti h3 h4] at this, fun h => by rw [h]⟩
theorem zL_div {a b : Int} (h1 : -2 ^ 63 < a) (h2 : a < 2 ^ 63) (h3 : 0 < b) (h4 : b < 2 ^ 63) : (zL a / zL b) = zL (a.tdiv b) := by
  refine Int64.toInt_inj.mp ?_
  have hb : (zL b).toInt = b := zL_ti (by omega) h4
  have ha : (zL a).toInt = a := zL_ti (by omega) h2
  have hq : -2 ^ 63 ≤ a.tdiv b ∧ a.tdiv b < 2 ^ 63 := by
    have h5 := Int.natAbs_tdiv_le_natAbs a b
    omega
  rw [zL_ti hq.1 hq.2, Int64.toInt_div, ha, hb, Int.bmod_eq_of_le (by omega) (by omega)]
theorem zL_xor_ge {a b : Int} (h1 : -2 ^ 63 ≤ a) (h2 : a < 2 ^ 63) (h3 : 0 < b) (h4 : b < 2 ^ 63) : zL 0 ≤ zL a ^^^ zL b ↔ 0 ≤ a := by
  have ha : (zL a).toInt = a := zL_ti h1 h2
  have hb : (zL b).toInt = b := zL_ti (by omega) h4
  have k : ∀ z : Int64, zL 0 ≤ z ↔ z.toBitVec.msb = false := by
    intro z
    rw [Int64.le_iff_toInt_le, zL_ti (by decide) (by decide), BitVec.msb_eq_toInt]
    show 0 ≤ z.toBitVec.toInt ↔ _
    rw [decide_eq_false_iff_not]
    omega
  rw [k, Int64.toBitVec_xor, BitVec.msb_xor, BitVec.msb_eq_toInt, BitVec.msb_eq_toInt]
  have ha2 : (zL a).toBitVec.toInt = a := ha
  have hb2 : (zL b).toBitVec.toInt = b := hb
  rw [ha2, hb2, decide_eq_false (show ¬ b < 0 by omega), Bool.xor_false, decide_eq_false_iff_not]
  omega
theorem fdiv_pos {a b : Int} (ha : 0 ≤ a) (hb : 0 < b) : a.tdiv b = a / b := Int.tdiv_eq_ediv_of_nonneg ha
theorem fdiv_neg {a b : Int} (ha : a < 0) (hb : 0 < b) : (a.tdiv b * b = a → a / b = a.tdiv b) ∧ (a.tdiv b * b ≠ a → a / b = a.tdiv b - 1) := by
  have h1 := Int.mul_tdiv_add_tmod a b
  have h2 : a.tmod b ≤ 0 := by
    have := Int.tmod_nonneg (a := -a) b (by omega)
    rw [Int.neg_tmod] at this
    omega
  have h3 : -b < a.tmod b := Int.lt_tmod_of_pos a hb
  generalize a.tdiv b = q at *
  generalize a.tmod b = t at *
  constructor
  · intro h
    rw [← h, Int.mul_ediv_cancel _ (by omega)]
  · intro h
    have h4 : t ≠ 0 := fun h0 => h (by rw [h0] at h1; rw [Int.mul_comm]; omega)
    have h5 : a = (t + b) + b * (q - 1) := by rw [Int.mul_sub, Int.mul_one]; omega
    rw [h5, Int.add_mul_ediv_left _ _ (by omega), Int.ediv_eq_zero_of_lt (by omega) (by omega)]
    omega
end
section
theorem lN_z3 (a b c : Nat) : lN a - lN b - lN c = zL ((a : Int) - b - c) := by rw [zL_lN, zL_lN, zL_lN, zL_sub, zL_sub]
theorem fl_step0 {a y bw : Nat} (ha : a < 1000000000) (hy : y ≤ 999999999000000000) (hbw : bw ≤ 1000000000) : ∃ bw2 dg : Nat, dg < 1000000000 ∧ bw2 ≤ 1000000000 ∧ dg + y + bw = a + bw2 * 1000000000 ∧ -(((a : Int) - y - bw) / 1000000000) = (bw2 : Int) := by
  refine ⟨(-(((a : Int) - y - bw) / 1000000000)).toNat, (((a : Int) - y - bw) % 1000000000).toNat, ?_, ?_, ?_, ?_⟩ <;> omega
/-- a step of taking off: digit and borrow -/
theorem fl_step {a y bw : Nat} (ha : a < nB) (hy : y ≤ 999999999000000000) (hbw : bw ≤ nB) : ∃ bw2 dg : Nat, dg < nB ∧ bw2 ≤ nB ∧ dg + y + bw = a + bw2 * nB ∧ -(((a : Int) - y - bw) / (nB : Int)) = (bw2 : Int) := fl_step0 ha hy hbw
theorem zL_dig {d : Int} {bw2 dg : Nat} (h : d + (bw2 : Int) * (nB : Int) = (dg : Int)) : zL d + lN (bw2 * nB) = lN dg := by
  rw [zL_lN, zL_lN, zL_add, ← h]
  congr 1
theorem lN_wrap {a b : Nat} (h : b ≤ a + 2 ^ 64) : lN a - lN b = lN (a + 2 ^ 64 - b) := by
  rw [← lN_sub h, ← lN_add, show lN (2 ^ 64) = 0 from by decide, Int64.add_zero]
theorem lN_neg {d : Nat} (h0 : 0 < d) (h : d ≤ 2 ^ 62) : lN (2 ^ 64 - d) < lN 0 := by
  have e : lN (2 ^ 64 - d) = zL (-(d : Int)) := by
    have := lN_wrap (a := 0) (b := d) (by omega)
    rw [Nat.zero_add] at this
    rw [← this, zL_lN, zL_lN, zL_sub]
    congr 1
    omega
  rw [e, zL_lN]
  exact (zL_lt (by omega) (by omega) (by decide) (by decide)).mpr (by omega)
/-- the true limb was guessed: nothing is borrowed beyond the top -/
theorem tk_good {B Pn U V lo Ulo ut bw t : Nat} (hU : U = Ulo + ut * Pn) (hS : lo + t * V = Ulo + bw * Pn) (hV : V ≤ Pn) (hV0 : 0 < V) (hq : U / V ≤ t) (hc : bw ≤ ut) : t = U / V ∧ ut = bw ∧ lo = U % V := by
  have e1 : U = lo + (ut - bw) * Pn + t * V := by
    have : ut * Pn = (ut - bw) * Pn + bw * Pn := by rw [← Nat.add_mul]; congr 1; omega
    omega
  have e2 : t ≤ U / V := (Nat.le_div_iff_mul_le hV0).mpr (by omega)
  have e3 : t = U / V := Nat.le_antisymm e2 hq
  have e4 := Nat.div_add_mod U V
  have e5 := Nat.mod_lt U hV0
  rw [← e3, Nat.mul_comm] at e4
  have e6 : lo + (ut - bw) * Pn = U % V := by omega
  have e7 : ut - bw = 0 := by
    rcases Nat.eq_zero_or_pos (ut - bw) with h | h
    · exact h
    · have : 1 * Pn ≤ (ut - bw) * Pn := Nat.mul_le_mul_right _ h
      omega
  refine ⟨e3, by omega, ?_⟩
  rw [e7, Nat.zero_mul] at e6
  omega
/-- one too many: the divisor goes back once -/
theorem tk_over {Pn U V lo Ulo ut bw t lo2 cr : Nat} (hU : U = Ulo + ut * Pn) (hS : lo + t * V = Ulo + bw * Pn) (hV : V < Pn) (hV0 : 0 < V) (hlo : lo < Pn) (hlo2 : lo2 < Pn) (hq : t ≤ U / V + 1) (hc : ut < bw) (hcr : cr ≤ 1) (hB : lo2 + cr * Pn = lo + V) : t - 1 = U / V ∧ 1 ≤ t ∧ ut + 1 = bw ∧ cr = 1 ∧ lo2 = U % V := by
  have hd : bw * Pn = ut * Pn + (bw - ut) * Pn := by rw [← Nat.add_mul]; congr 1; omega
  have hd1 : 1 * Pn ≤ (bw - ut) * Pn := Nat.mul_le_mul_right _ (by omega)
  have e0 : U + (bw - ut) * Pn = lo + t * V := by omega
  have e1 : U < t * V := by omega
  have e2 : U / V < t := (Nat.div_lt_iff_lt_mul hV0).mpr e1
  have e3 : t = U / V + 1 := by omega
  have e4 := Nat.div_add_mod U V
  have e5 := Nat.mod_lt U hV0
  have e6 : t * V = V * (U / V) + V := by rw [e3, Nat.add_mul, Nat.one_mul, Nat.mul_comm]
  have e7 : (bw - ut) * Pn + U % V = lo + V := by omega
  generalize U / V = q at *
  generalize U % V = w at *
  have e8 : bw - ut = 1 := by
    rcases Nat.lt_or_ge 1 (bw - ut) with h | h
    · have : 2 * Pn ≤ (bw - ut) * Pn := Nat.mul_le_mul_right _ h
      omega
    · omega
  rw [e8, Nat.one_mul] at e7
  have e9 : cr = 1 := by
    rcases Nat.eq_zero_or_pos cr with h | h
    · rw [h, Nat.zero_mul] at hB; omega
    · omega
  rw [e9, Nat.one_mul] at hB
  exact ⟨by omega, by omega, by omega, e9, by omega⟩
/-- the top of rows, as a guess sees it -/
theorem kd_of {u w : Nat → Nat} {p n : Nat} (hn : 2 ≤ n) (hu : ∀ q, q ≤ n → u (p + q) < nB) (hw : ∀ q, q < n → w q < nB) (ht : nB ≤ 2 * w (n - 1)) (hlt : nvb nB (nsh u p) (n + 1) < nvb nB w n * nB) : ∃ W U0 V0, kd_at nB (w (n - 1)) (w (n - 2)) (u (p + n) * nB + u (p + n - 1)) (u (p + n - 2)) W U0 V0 (nvb nB (nsh u p) (n + 1)) (nvb nB w n) := by
  obtain ⟨k, rfl⟩ : ∃ k, n = k + 2 := ⟨n - 2, by omega⟩
  refine ⟨nB ^ k, nvb nB (nsh u p) k, nvb nB w k, nB1, ht, hw _ (by omega), hw _ (by omega), ?_, nvb_lt (fun j hj => hu j (by omega)), nvb_lt (fun j hj => hw j (by omega)), ?_, ?_, hlt⟩
  · have := hu k (by omega)
    rw [show p + (k + 2) - 2 = p + k by omega]
    exact this
  · rw [show k + 2 - 1 = k + 1 by omega, show k + 2 - 2 = k by omega, nvb_succ, nvb_succ, Nat.pow_succ]
    grind
  · rw [show p + (k + 2) - 2 = p + k by omega, show p + (k + 2) - 1 = p + (k + 1) by omega, nvb_succ, nvb_succ, nvb_succ, Nat.pow_succ, Nat.pow_succ]
    unfold nsh
    grind
theorem arrN.at0 {D : va_G} {L : List Nat} {f : Nat → va_E} {a n : Nat} {u u' : Nat → Nat} (h : arrN D L f a n u) (he : ∀ q, lN (u q) = lN (u' q)) : arrN D L f a n u' := by
  unfold arrN at *
  rw [show (fun q => lN (u' q)) = (fun q => lN (u q)) from funext (fun q => (he q).symm)]
  exact h
end
section
set_option maxHeartbeats 4000000 in
set_option maxRecDepth 100000 in
theorem c_Mt_max (l : Launch) (D : va_G) (t0 : Nat) (L : List Nat) (f : Nat → va_E) (sz : Nat) (a b : Nat) (ha : a < 2 ^ 31) (hb0 : b < 2 ^ 31) : Met l y_Mt_max (Cond.code y_Mt_max b_Mt_max 2 (some .int) :: TT) ({ frames := 0, cells := 0, slots := 0, locals := 0 } : Room) (hw_Pc t0 [.int (nI a), .int (nI b)] D L f sz) (hw_Q D L sz (fun oc L' f' => oc = .returned (some (.int (nI (max a b)))) ∧ L = L' ∧ f = f')) 0 0 (hw_A L sz) := by
  refine Met.ofWF (cc := b_Mt_max) (maxL := 2) (ret := (some .int)) (by decide +kernel) rfl ?_
  intro p e s m args below meth c s₁ B hml hv
  obtain ⟨rfl, rfl, hI⟩ := hw_start hv
  clear hv
  have hx := B.exec
  have hb := B.bytes
  have hr := B.returns
  have hlocks := B.notSynchronized
  have hown : s.vm.findClass "java/lang/Math" = some m.cls := findClass_of_methodNamed B.named
  have hT : ∀ w ∈ TT, w.before ([.int (nI a), .int (nI b)]).toArray s = true := fun w h => atoms_spec (ws := (Cond.code y_Mt_max b_Mt_max 2 (some .int) :: TT)) B.pre w (List.mem_cons_of_mem _ h)
  have S : CallFix p m c b_Mt_max 2 s ([.int (nI a), .int (nI b)]).toArray TT "java/lang/Math" := ⟨hx, hb, hml, hown, hT⟩
  have hl := lv_entry ([.int (nI a), .int (nI b)]) (n := 2) (Nat.le_of_ble_eq_true rfl)
  rw [lg_entry_eq]
  generalize (lg_sl ([.int (nI a), .int (nI b)]) ++ List.replicate (2 - (lg_sl ([.int (nI a), .int (nI b)])).length) Slot.unset).toArray = ls at hl ⊢
  have hl : lv_has ls 2 [(0, .int (nI a)), (1, .int (nI b))] := hl
  skip
  refine lv_iload_n hx hb d_Mt_max_0 rfl (lv_at hl 0 rfl) ?_
  refine lv_iload_n hx hb d_Mt_max_1 rfl (lv_at hl 1 rfl) ?_
  refine hw_icmp_lt (tgt := 9) hx hb d_Mt_max_2 (by decide) (by omega) (by omega) (fun c1 => ?_) (fun c1 => ?_)
  · refine lv_iload_n hx hb d_Mt_max_9 rfl (lv_at hl 1 rfl) ?_
    exact hw_iret hx hb hr hlocks hI d_Mt_max_10 ⟨by rw [Nat.max_eq_right (by omega)], rfl, rfl⟩
  · refine lv_iload_n hx hb d_Mt_max_5 rfl (lv_at hl 0 rfl) ?_
    refine lv_goto (tgt := 10) hx hb d_Mt_max_6 (by decide) ?_
    exact hw_iret hx hb hr hlocks hI d_Mt_max_10 ⟨by rw [Nat.max_eq_left (by omega)], rfl, rfl⟩
set_option maxHeartbeats 4000000 in
set_option maxRecDepth 100000 in
theorem c_Mt_min (l : Launch) (D : va_G) (t0 : Nat) (L : List Nat) (f : Nat → va_E) (sz : Nat) (a b : Int32)  : Met l y_Mt_min (Cond.code y_Mt_min b_Mt_min 2 (some .int) :: TT) ({ frames := 0, cells := 0, slots := 0, locals := 0 } : Room) (hw_Pc t0 [.int (a), .int (b)] D L f sz) (hw_Q D L sz (fun oc L' f' => oc = .returned (some (.int (if b < a then b else a))) ∧ L = L' ∧ f = f')) 0 0 (hw_A L sz) := by
  refine Met.ofWF (cc := b_Mt_min) (maxL := 2) (ret := (some .int)) (by decide +kernel) rfl ?_
  intro p e s m args below meth c s₁ B hml hv
  obtain ⟨rfl, rfl, hI⟩ := hw_start hv
  clear hv
  have hx := B.exec
  have hb := B.bytes
  have hr := B.returns
  have hlocks := B.notSynchronized
  have hown : s.vm.findClass "java/lang/Math" = some m.cls := findClass_of_methodNamed B.named
  have hT : ∀ w ∈ TT, w.before ([.int (a), .int (b)]).toArray s = true := fun w h => atoms_spec (ws := (Cond.code y_Mt_min b_Mt_min 2 (some .int) :: TT)) B.pre w (List.mem_cons_of_mem _ h)
  have S : CallFix p m c b_Mt_min 2 s ([.int (a), .int (b)]).toArray TT "java/lang/Math" := ⟨hx, hb, hml, hown, hT⟩
  have hl := lv_entry ([.int (a), .int (b)]) (n := 2) (Nat.le_of_ble_eq_true rfl)
  rw [lg_entry_eq]
  generalize (lg_sl ([.int (a), .int (b)]) ++ List.replicate (2 - (lg_sl ([.int (a), .int (b)])).length) Slot.unset).toArray = ls at hl ⊢
  have hl : lv_has ls 2 [(0, .int (a)), (1, .int (b))] := hl
  skip
  refine lv_iload_n hx hb d_Mt_min_0 rfl (lv_at hl 0 rfl) ?_
  refine lv_iload_n hx hb d_Mt_min_1 rfl (lv_at hl 1 rfl) ?_
  refine lv_icmp_gt (tgt := 9) hx hb d_Mt_min_2 (by decide) (fun c2 => ?_) (fun c2 => ?_)
  · refine lv_iload_n hx hb d_Mt_min_9 rfl (lv_at hl 1 rfl) ?_
    exact hw_iret hx hb hr hlocks hI d_Mt_min_10 ⟨by rw [if_pos c2], rfl, rfl⟩
  · refine lv_iload_n hx hb d_Mt_min_5 rfl (lv_at hl 0 rfl) ?_
    refine lv_goto (tgt := 10) hx hb d_Mt_min_6 (by decide) ?_
    exact hw_iret hx hb hr hlocks hI d_Mt_min_10 ⟨by rw [if_neg c2], rfl, rfl⟩
set_option maxHeartbeats 4000000 in
set_option maxRecDepth 100000 in
theorem c_Mt_floorDiv (l : Launch) (D : va_G) (t0 : Nat) (L : List Nat) (f : Nat → va_E) (sz : Nat) (a b : Int) (h1 : -2 ^ 62 < a) (h2 : a < 2 ^ 62) (h3 : 0 < b) (h4 : b < 2 ^ 62) : Met l y_Mt_floorDiv (Cond.code y_Mt_floorDiv b_Mt_floorDiv 6 (some .long) :: TT) ({ frames := 0, cells := 0, slots := 0, locals := 0 } : Room) (hw_Pc t0 [.long (zL a), .long (zL b)] D L f sz) (hw_Q D L sz (fun oc L' f' => oc = .returned (some (.long (zL (a / b)))) ∧ L = L' ∧ f = f')) 0 0 (hw_A L sz) := by
  refine Met.ofWF (cc := b_Mt_floorDiv) (maxL := 6) (ret := (some .long)) (by decide +kernel) rfl ?_
  intro p e s m args below meth c s₁ B hml hv
  obtain ⟨rfl, rfl, hI⟩ := hw_start hv
  clear hv
  have hx := B.exec
  have hb := B.bytes
  have hr := B.returns
  have hlocks := B.notSynchronized
  have hown : s.vm.findClass "java/lang/Math" = some m.cls := findClass_of_methodNamed B.named
  have hT : ∀ w ∈ TT, w.before ([.long (zL a), .long (zL b)]).toArray s = true := fun w h => atoms_spec (ws := (Cond.code y_Mt_floorDiv b_Mt_floorDiv 6 (some .long) :: TT)) B.pre w (List.mem_cons_of_mem _ h)
  have S : CallFix p m c b_Mt_floorDiv 6 s ([.long (zL a), .long (zL b)]).toArray TT "java/lang/Math" := ⟨hx, hb, hml, hown, hT⟩
  have hl := lv_entry ([.long (zL a), .long (zL b)]) (n := 6) (Nat.le_of_ble_eq_true rfl)
  rw [lg_entry_eq]
  generalize (lg_sl ([.long (zL a), .long (zL b)]) ++ List.replicate (6 - (lg_sl ([.long (zL a), .long (zL b)])).length) Slot.unset).toArray = ls at hl ⊢
  have hl : lv_has ls 6 [(0, .long (zL a)), (2, .long (zL b))] := hl
  skip
  have hne : ¬ zL b = 0 := fun h => by have h9 := (zL_eq (b := 0) (by omega) (by omega) (by decide) (by decide)).mp h; omega
  have hq : (a.tdiv b).natAbs ≤ a.natAbs := Int.natAbs_tdiv_le_natAbs a b
  refine lv_lload_n hx hb d_Mt_floorDiv_0 rfl (lv_at hl 0 rfl) ?_
  refine lv_lload_n hx hb d_Mt_floorDiv_1 rfl (lv_at hl 1 rfl) ?_
  refine lv_ldiv hx hb d_Mt_floorDiv_2 (hne) ?_
  refine hw_tl (show _ = zL (a.tdiv b) from zL_div (by omega) (by omega) h3 (by omega)) ?_
  refine lv_lstore (lv' := [(4, .long (zL (a.tdiv b))), (0, .long (zL a)), (2, .long (zL b))]) hx hb d_Mt_floorDiv_3 hl (by decide) rfl (fun ls hl => ?_)
  refine lv_lload_n hx hb d_Mt_floorDiv_5 rfl (lv_at hl 1 rfl) ?_
  refine lv_lload_n hx hb d_Mt_floorDiv_6 rfl (lv_at hl 2 rfl) ?_
  refine lv_lxor hx hb d_Mt_floorDiv_7 ?_
  refine lv_lconst (v := lN 0) hx hb d_Mt_floorDiv_8 rfl ?_
  refine hw_l_ge (tgt := 27) hx hb d_Mt_floorDiv_9 d_Mt_floorDiv_10 (by decide) (fun c3 => ?_) (fun c3 => ?_)
  · have ha := (zL_xor_ge (by omega) (by omega) h3 (by omega)).mp c3
    refine lv_lload hx hb d_Mt_floorDiv_27 (lv_at hl 0 rfl) ?_
    exact hw_lret hx hb hr hlocks hI d_Mt_floorDiv_29 ⟨by rw [fdiv_pos ha h3], rfl, rfl⟩
  · have ha : a < 0 := Int.not_le.mp (fun q => Int64.not_le.mpr c3 ((zL_xor_ge (by omega) (by omega) h3 (by omega)).mpr q))
    have hmt := Int.tdiv_mul_add_tmod a b
    have ht1 := Int.lt_tmod_of_pos a h3
    have ht2 := Int.tmod_lt_of_pos a h3
    refine lv_lload hx hb d_Mt_floorDiv_13 (lv_at hl 0 rfl) ?_
    refine lv_lload_n hx hb d_Mt_floorDiv_15 rfl (lv_at hl 2 rfl) ?_
    refine lv_lmul hx hb d_Mt_floorDiv_16 ?_
    refine hw_tl (show _ = zL (a.tdiv b * b) from zL_mul _ _) ?_
    refine lv_lload_n hx hb d_Mt_floorDiv_17 rfl (lv_at hl 1 rfl) ?_
    refine hw_l_eq (tgt := 27) hx hb d_Mt_floorDiv_18 d_Mt_floorDiv_19 (by decide) (fun c4 => ?_) (fun c4 => ?_)
    · have he := (zL_eq (by omega) (by omega) (by omega) (by omega)).mp c4
      refine lv_lload hx hb d_Mt_floorDiv_27 (lv_at hl 0 rfl) ?_
      exact hw_lret hx hb hr hlocks hI d_Mt_floorDiv_29 ⟨by rw [(fdiv_neg ha h3).1 he], rfl, rfl⟩
    · have he : a.tdiv b * b ≠ a := fun h => c4 (by rw [h])
      refine lv_lload hx hb d_Mt_floorDiv_22 (lv_at hl 0 rfl) ?_
      refine lv_lconst (v := lN 1) hx hb d_Mt_floorDiv_24 rfl ?_
      refine lv_lsub hx hb d_Mt_floorDiv_25 ?_
      refine hw_tl (show _ = zL (a.tdiv b - 1) from zL_sub _ 1) ?_
      exact hw_lret hx hb hr hlocks hI d_Mt_floorDiv_26 ⟨by rw [(fdiv_neg ha h3).2 he], rfl, rfl⟩
set_option maxHeartbeats 4000000 in
set_option maxRecDepth 100000 in
theorem c_Mt_abs (l : Launch) (D : va_G) (t0 : Nat) (L : List Nat) (f : Nat → va_E) (sz : Nat) (a : Int) (h1 : -2 ^ 63 < a) (h2 : a < 2 ^ 63) : Met l y_Mt_abs (Cond.code y_Mt_abs b_Mt_abs 2 (some .long) :: TT) ({ frames := 0, cells := 0, slots := 0, locals := 0 } : Room) (hw_Pc t0 [.long (zL a)] D L f sz) (hw_Q D L sz (fun oc L' f' => oc = .returned (some (.long (lN a.natAbs))) ∧ L = L' ∧ f = f')) 0 0 (hw_A L sz) := by
  refine Met.ofWF (cc := b_Mt_abs) (maxL := 2) (ret := (some .long)) (by decide +kernel) rfl ?_
  intro p e s m args below meth c s₁ B hml hv
  obtain ⟨rfl, rfl, hI⟩ := hw_start hv
  clear hv
  have hx := B.exec
  have hb := B.bytes
  have hr := B.returns
  have hlocks := B.notSynchronized
  have hown : s.vm.findClass "java/lang/Math" = some m.cls := findClass_of_methodNamed B.named
  have hT : ∀ w ∈ TT, w.before ([.long (zL a)]).toArray s = true := fun w h => atoms_spec (ws := (Cond.code y_Mt_abs b_Mt_abs 2 (some .long) :: TT)) B.pre w (List.mem_cons_of_mem _ h)
  have S : CallFix p m c b_Mt_abs 2 s ([.long (zL a)]).toArray TT "java/lang/Math" := ⟨hx, hb, hml, hown, hT⟩
  have hl := lv_entry ([.long (zL a)]) (n := 2) (Nat.le_of_ble_eq_true rfl)
  rw [lg_entry_eq]
  generalize (lg_sl ([.long (zL a)]) ++ List.replicate (2 - (lg_sl ([.long (zL a)])).length) Slot.unset).toArray = ls at hl ⊢
  have hl : lv_has ls 2 [(0, .long (zL a))] := hl
  skip
  refine lv_lload_n hx hb d_Mt_abs_0 rfl (lv_at hl 0 rfl) ?_
  refine lv_lconst (v := lN 0) hx hb d_Mt_abs_1 rfl ?_
  refine hw_l_ge (tgt := 11) hx hb d_Mt_abs_2 d_Mt_abs_3 (by decide) (fun c5 => ?_) (fun c5 => ?_)
  · have ha := (zL_le (a := 0) (by decide) (by decide) (by omega) h2).mp c5
    refine lv_lload_n hx hb d_Mt_abs_11 rfl (lv_at hl 0 rfl) ?_
    exact hw_lret hx hb hr hlocks hI d_Mt_abs_12 ⟨by rw [zL_lN, Int.natAbs_of_nonneg ha], rfl, rfl⟩
  · have ha := (zL_lt (b := 0) (by omega) h2 (by decide) (by decide)).mp c5
    refine lv_lload_n hx hb d_Mt_abs_6 rfl (lv_at hl 0 rfl) ?_
    refine lv_lneg hx hb d_Mt_abs_7 ?_
    refine hw_tl (show _ = zL (-a) from zL_neg _) ?_
    refine lv_goto (tgt := 12) hx hb d_Mt_abs_8 (by decide) ?_
    exact hw_lret hx hb hr hlocks hI d_Mt_abs_12 ⟨by rw [zL_lN, show ((a.natAbs : Nat) : Int) = -a by omega], rfl, rfl⟩
end
section
set_option maxHeartbeats 4000000 in
set_option maxRecDepth 100000 in
/-- limb k, or 0 -/
theorem c_Wh_limbAt (l : Launch) (D : va_G) (t0 : Nat) (L : List Nat) (f : Nat → va_E) (sz : Nat) (o r : Nat → Nat) (N : Nat) (v : Nat → Nat × (Nat → Nat)) (i : Nat) (k : Nat) (hi : i < N) (hY : Lay o r N) (hV : AllW D L f o r N v) (hk : k < 2 ^ 31) (hn : (v i).1 ≤ 41) : Met l y_Wh_limbAt (Cond.code y_Wh_limbAt b_Wh_limbAt 2 (some .long) :: TT) ({ frames := 0, cells := 0, slots := 0, locals := 0 } : Room) (hw_Pc t0 [.ref (o i), .int (nI k)] D L f sz) (hw_Q D L sz (fun oc L' f' => oc = .returned (some (.long (lN (padl (v i) k)))) ∧ L = L' ∧ f = f')) 0 0 (hw_A L sz) := by
  refine Met.ofW (cc := b_Wh_limbAt) (maxL := 2) (ret := (some .long)) (by decide) rfl ?_
  intro p e s m args below meth c s₁ B hml hv
  obtain ⟨rfl, rfl, hI⟩ := hw_start hv
  clear hv
  have hx := B.exec
  have hb := B.bytes
  have hr := B.returns
  have hlocks := B.notSynchronized
  have hown : s.vm.findClass "WallFractions$Whole" = some m.cls := findClass_of_methodNamed B.named
  have hT : ∀ w ∈ TT, w.before ([.ref (o i), .int (nI k)]).toArray s = true := fun w h => atoms_spec (ws := (Cond.code y_Wh_limbAt b_Wh_limbAt 2 (some .long) :: TT)) B.pre w (List.mem_cons_of_mem _ h)
  have S : CallFix p m c b_Wh_limbAt 2 s ([.ref (o i), .int (nI k)]).toArray TT "WallFractions$Whole" := ⟨hx, hb, hml, hown, hT⟩
  have hl := lv_entry ([.ref (o i), .int (nI k)]) (n := 2) (Nat.le_of_ble_eq_true rfl)
  rw [lg_entry_eq]
  generalize (lg_sl ([.ref (o i), .int (nI k)]) ++ List.replicate (2 - (lg_sl ([.ref (o i), .int (nI k)])).length) Slot.unset).toArray = ls at hl ⊢
  have hl : lv_has ls 2 [(0, .ref (o i)), (1, .int (nI k))] := hl
  skip
  refine lv_iload_n hx hb d_Wh_limbAt_0 rfl (lv_at hl 1 rfl) ?_
  refine hw_if_lt (tgt := 21) hx hb d_Wh_limbAt_1 (by decide) hk ?_
  refine lv_iload_n hx hb d_Wh_limbAt_4 rfl (lv_at hl 1 rfl) ?_
  refine lv_aload_n hx hb d_Wh_limbAt_5 rfl (lv_at hl 0 rfl) ?_
  refine wh_size S hI hV hi d_Wh_limbAt_6 ?_
  refine hw_icmp_ge (tgt := 21) hx hb d_Wh_limbAt_9 (by decide) (by omega) (by omega) (fun c1 => ?_) (fun c1 => ?_)
  · refine lv_lconst (v := lN 0) hx hb d_Wh_limbAt_21 rfl ?_
    exact hw_lret hx hb hr hlocks hI d_Wh_limbAt_22 ⟨by unfold padl; rw [if_neg (by omega)], rfl, rfl⟩
  · refine lv_aload_n hx hb d_Wh_limbAt_12 rfl (lv_at hl 0 rfl) ?_
    refine wh_limbs S hI hV hi d_Wh_limbAt_13 ?_
    refine lv_iload_n hx hb d_Wh_limbAt_16 rfl (lv_at hl 1 rfl) ?_
    refine wh_ld S hI hV hi (by omega) d_Wh_limbAt_17 ?_
    refine lv_goto (tgt := 22) hx hb d_Wh_limbAt_18 (by decide) ?_
    exact hw_lret hx hb hr hlocks hI d_Wh_limbAt_22 ⟨by unfold padl; rw [if_pos (by omega)], rfl, rfl⟩
set_option maxHeartbeats 4000000 in
set_option maxRecDepth 100000 in
theorem c_Wh_requireRoom (l : Launch) (D : va_G) (t0 : Nat) (L : List Nat) (f : Nat → va_E) (sz : Nat) (k : Nat) (hk : k ≤ 41) : Met l y_Wh_requireRoom (Cond.code y_Wh_requireRoom b_Wh_requireRoom 1 none :: TT) ({ frames := 6, cells := 0, slots := 0, locals := 110 } : Room) (hw_Pc t0 [.int (nI k)] D L f sz) (hw_Q D L sz (fun oc L' f' => oc = .returned none ∧ L = L' ∧ f = f')) 0 0 (hw_A L sz) := by
  refine Met.ofW (cc := b_Wh_requireRoom) (maxL := 1) (ret := none) (by decide) rfl ?_
  intro p e s m args below meth c s₁ B hml hv
  obtain ⟨rfl, rfl, hI⟩ := hw_start hv
  clear hv
  have hx := B.exec
  have hb := B.bytes
  have hr := B.returns
  have hlocks := B.notSynchronized
  have hown : s.vm.findClass "WallFractions$Whole" = some m.cls := findClass_of_methodNamed B.named
  have hT : ∀ w ∈ TT, w.before ([.int (nI k)]).toArray s = true := fun w h => atoms_spec (ws := (Cond.code y_Wh_requireRoom b_Wh_requireRoom 1 none :: TT)) B.pre w (List.mem_cons_of_mem _ h)
  have S : CallFix p m c b_Wh_requireRoom 1 s ([.int (nI k)]).toArray TT "WallFractions$Whole" := ⟨hx, hb, hml, hown, hT⟩
  have hl := lv_entry ([.int (nI k)]) (n := 1) (Nat.le_of_ble_eq_true rfl)
  rw [lg_entry_eq]
  generalize (lg_sl ([.int (nI k)]) ++ List.replicate (1 - (lg_sl ([.int (nI k)])).length) Slot.unset).toArray = ls at hl ⊢
  have hl : lv_has ls 1 [(0, .int (nI k))] := hl
  skip
  refine lv_iload_n hx hb d_Wh_requireRoom_0 rfl (lv_at hl 0 rfl) ?_
  refine lv_bipush (v := nI 41) hx hb d_Wh_requireRoom_1 (by decide) ?_
  refine hw_icmp_le (tgt := 16) hx hb d_Wh_requireRoom_3 (by decide) (by omega) (by omega) (fun c2 => ?_) (fun c2 => ?_)
  · exact hw_vret hx hb hr hlocks hI d_Wh_requireRoom_16 ⟨rfl, rfl, rfl⟩
  · exact absurd hk (by omega)
set_option maxHeartbeats 4000000 in
set_option maxRecDepth 100000 in
/-- the highest limb that is not 0 -/
theorem c_Wh_settle (l : Launch) (D : va_G) (t0 : Nat) (L : List Nat) (f : Nat → va_E) (sz : Nat) (o r : Nat → Nat) (N : Nat) (v : Nat → Nat × (Nat → Nat)) (i : Nat) (n : Nat) (hi : i < N) (hY : Lay o r N) (hV : AllW D L f o r N v) (hn : n ≤ 41) (hB : ∀ j, (v i).2 j < nB) : Met l y_Wh_settle (Cond.code y_Wh_settle b_Wh_settle 2 none :: TT) ({ frames := 0, cells := 0, slots := 0, locals := 0 } : Room) (hw_Pc t0 [.ref (o i), .int (nI n)] D L f sz) (hw_Q D L sz (fun oc L' f' => oc = .returned none ∧ L = L' ∧ ∃ n', n' ≤ n ∧ nOk nB n' (v i).2 (nvb nB (v i).2 n) ∧ AllW D L f' o r N (va_up v i (n', (v i).2)) ∧ ∀ q, q ≠ o i → f' q = f q)) 0 0 (hw_A L sz) := by
  refine Met.ofW (cc := b_Wh_settle) (maxL := 2) (ret := none) (by decide) rfl ?_
  intro p e s m args below meth c s₁ B hml hv
  obtain ⟨rfl, rfl, hI⟩ := hw_start hv
  clear hv
  have hx := B.exec
  have hb := B.bytes
  have hr := B.returns
  have hlocks := B.notSynchronized
  have hown : s.vm.findClass "WallFractions$Whole" = some m.cls := findClass_of_methodNamed B.named
  have hT : ∀ w ∈ TT, w.before ([.ref (o i), .int (nI n)]).toArray s = true := fun w h => atoms_spec (ws := (Cond.code y_Wh_settle b_Wh_settle 2 none :: TT)) B.pre w (List.mem_cons_of_mem _ h)
  have S : CallFix p m c b_Wh_settle 2 s ([.ref (o i), .int (nI n)]).toArray TT "WallFractions$Whole" := ⟨hx, hb, hml, hown, hT⟩
  have hl := lv_entry ([.ref (o i), .int (nI n)]) (n := 2) (Nat.le_of_ble_eq_true rfl)
  rw [lg_entry_eq]
  generalize (lg_sl ([.ref (o i), .int (nI n)]) ++ List.replicate (2 - (lg_sl ([.ref (o i), .int (nI n)])).length) Slot.unset).toArray = ls at hl ⊢
  have hl : lv_has ls 2 [(0, .ref (o i)), (1, .int (nI n))] := hl
  skip
  have loop : ∀ (k : Nat) (f1 : Nat → va_E) (H : Heap) (locs : List Loc) (ls : Array Slot), k ≤ n → (∀ j, k ≤ j → j < n → (v i).2 j = 0) → AllW D L f1 o r N (va_up v i (k, (v i).2)) → (∀ q, q ≠ o i → f1 q = f q) → hw_I D t0 (hw_A L s.heap.size) s L f1 H locs → lv_has ls 2 [(0, .ref (o i)), (1, .int (nI n))] → W p l e (headSpec (Cond.code y_Wh_settle b_Wh_settle 2 none :: TT) ({ frames := 0, cells := 0, slots := 0, locals := 0 } : Room)).room s m ([.ref (o i), .int (nI n)]).toArray below meth c H locs 0 0 (MQ below (hw_Q D L s.heap.size (fun oc L' f' => oc = .returned none ∧ L = L' ∧ ∃ n', n' ≤ n ∧ nOk nB n' (v i).2 (nvb nB (v i).2 n) ∧ AllW D L f' o r N (va_up v i (n', (v i).2)) ∧ ∀ q, q ≠ o i → f' q = f q)) ([.ref (o i), .int (nI n)]).toArray s 0 0 (hw_A L s.heap.size)) (F0 m 5 ls []) := by
    intro k
    induction k with
    | zero =>
      intro f1 H locs ls hk hz hV hF hI hl
      refine lv_aload_n hx hb d_Wh_settle_5 rfl (lv_at hl 0 rfl) ?_
      refine wh_size S hI hV hi d_Wh_settle_6 ?_
      refine hw_ti (show _ = nI 0 from by rw [hw_up_eq]) ?_
      refine hw_if_le (tgt := 41) hx hb d_Wh_settle_9 (by decide) (by omega) (fun c3 => ?_) (fun c3 => ?_)
      · exact hw_vret hx hb hr hlocks hI d_Wh_settle_41 ⟨rfl, rfl, 0, hk, nOk_settle hB hk (fun h => absurd h (by decide)) hz, hV, hF⟩
      · exact absurd c3 (by decide)
    | succ k ih =>
      intro f1 H locs ls hk hz hV hF hI hl
      refine lv_aload_n hx hb d_Wh_settle_5 rfl (lv_at hl 0 rfl) ?_
      refine wh_size S hI hV hi d_Wh_settle_6 ?_
      refine hw_ti (show _ = nI ((k + 1)) from by rw [hw_up_eq]) ?_
      refine hw_if_le (tgt := 41) hx hb d_Wh_settle_9 (by decide) (by omega) (fun c4 => ?_) (fun c4 => ?_)
      · exact absurd c4 (by omega)
      · refine lv_aload_n hx hb d_Wh_settle_12 rfl (lv_at hl 0 rfl) ?_
        refine wh_limbs S hI hV hi d_Wh_settle_13 ?_
        refine lv_aload_n hx hb d_Wh_settle_16 rfl (lv_at hl 0 rfl) ?_
        refine wh_size S hI hV hi d_Wh_settle_17 ?_
        refine hw_ti (show _ = nI ((k + 1)) from by rw [hw_up_eq]) ?_
        refine lv_iconst (v := nI 1) hx hb d_Wh_settle_20 (by decide) ?_
        refine lv_isub hx hb d_Wh_settle_21 ?_
        refine hw_ti (pk_sub (by omega)) ?_
        refine wh_ld S hI hV hi (by omega) d_Wh_settle_22 ?_
        refine hw_tl (show _ = lN ((v i).2 ((k + 1) - 1)) from by rw [hw_up_eq]) ?_
        refine lv_lconst (v := lN 0) hx hb d_Wh_settle_23 rfl ?_
        refine hw_l_ne (tgt := 41) hx hb d_Wh_settle_24 d_Wh_settle_25 (by decide) (fun c5 => ?_) (fun c5 => ?_)
        · exact hw_vret hx hb hr hlocks hI d_Wh_settle_41 ⟨rfl, rfl, (k + 1), hk, nOk_settle hB hk (fun _ => Nat.pos_of_ne_zero (fun h => c5 (by rw [h]))) hz, hV, hF⟩
        · have hz0 : (v i).2 k = 0 := (lN0 (nB63 (hB _))).mp c5
          refine lv_aload_n hx hb d_Wh_settle_28 rfl (lv_at hl 0 rfl) ?_
          refine lv_dup hx hb d_Wh_settle_29 rfl ?_
          refine wh_size S hI hV hi d_Wh_settle_30 ?_
          refine hw_ti (show _ = nI ((k + 1)) from by rw [hw_up_eq]) ?_
          refine lv_iconst (v := nI 1) hx hb d_Wh_settle_33 (by decide) ?_
          refine lv_isub hx hb d_Wh_settle_34 ?_
          refine hw_ti (pk_sub (by omega)) ?_
          refine wh_psize S hI hV hY hi d_Wh_settle_35 (fun f6 H locs hI hV hf6 => ?_)
          refine lv_goto (tgt := 5) hx hb d_Wh_settle_38 (by decide) ?_
          exact ih _ _ _ _ (by omega) (fun j h1 h2 => by rcases Nat.lt_or_ge k j with h3 | h3; exact hz j h3 h2; rw [show j = k by omega]; exact hz0) (by rw [hw_up_eq, bx_uu] at hV; exact hV) (fun q hq => (hf6 q hq).trans (hF q hq)) hI hl
  refine lv_aload_n hx hb d_Wh_settle_0 rfl (lv_at hl 0 rfl) ?_
  refine lv_iload_n hx hb d_Wh_settle_1 rfl (lv_at hl 1 rfl) ?_
  refine wh_psize S hI hV hY hi d_Wh_settle_2 (fun f7 H locs hI hV hf7 => ?_)
  exact loop n _ _ _ _ (Nat.le_refl _) (fun j h1 h2 => by omega) hV hf7 hI hl
end
section
set_option maxHeartbeats 4000000 in
set_option maxRecDepth 100000 in
theorem c_Wh_isZero (l : Launch) (D : va_G) (t0 : Nat) (L : List Nat) (f : Nat → va_E) (sz : Nat) (o r : Nat → Nat) (N : Nat) (x : Nat → Nat) (i : Nat) (hi : i < N) (hY : Lay o r N) (hN : AllN D L f o r N x) : Met l y_Wh_isZero (Cond.code y_Wh_isZero b_Wh_isZero 1 (some .boolean) :: TT) ({ frames := 0, cells := 0, slots := 0, locals := 0 } : Room) (hw_Pc t0 [.ref (o i)] D L f sz) (hw_Q D L sz (fun oc L' f' => oc = .returned (some (.int (if x i = 0 then nI 1 else nI 0))) ∧ L = L' ∧ f = f')) 0 0 (hw_A L sz) := by
  refine Met.ofW (cc := b_Wh_isZero) (maxL := 1) (ret := (some .boolean)) (by decide) rfl ?_
  intro p e s m args below meth c s₁ B hml hv
  obtain ⟨rfl, rfl, hI⟩ := hw_start hv
  clear hv
  have hx := B.exec
  have hb := B.bytes
  have hr := B.returns
  have hlocks := B.notSynchronized
  have hown : s.vm.findClass "WallFractions$Whole" = some m.cls := findClass_of_methodNamed B.named
  have hT : ∀ w ∈ TT, w.before ([.ref (o i)]).toArray s = true := fun w h => atoms_spec (ws := (Cond.code y_Wh_isZero b_Wh_isZero 1 (some .boolean) :: TT)) B.pre w (List.mem_cons_of_mem _ h)
  have S : CallFix p m c b_Wh_isZero 1 s ([.ref (o i)]).toArray TT "WallFractions$Whole" := ⟨hx, hb, hml, hown, hT⟩
  have hl := lv_entry ([.ref (o i)]) (n := 1) (Nat.le_of_ble_eq_true rfl)
  rw [lg_entry_eq]
  generalize (lg_sl ([.ref (o i)]) ++ List.replicate (1 - (lg_sl ([.ref (o i)])).length) Slot.unset).toArray = ls at hl ⊢
  have hl : lv_has ls 1 [(0, .ref (o i))] := hl
  skip
  obtain ⟨v, hV, hO⟩ := hN
  have hz := (hO i hi).2.zero nB_pos
  have h41 := (hO i hi).1
  refine lv_aload_n hx hb d_Wh_isZero_0 rfl (lv_at hl 0 rfl) ?_
  refine wh_size S hI hV hi d_Wh_isZero_1 ?_
  refine hw_if_ne (tgt := 11) hx hb d_Wh_isZero_4 (by decide) (by omega) (fun c8 => ?_) (fun c8 => ?_)
  · refine lv_iconst (v := nI 0) hx hb d_Wh_isZero_11 (by decide) ?_
    exact hw_zret hx hb hr hlocks hI rfl d_Wh_isZero_12 ⟨by rw [if_neg (fun h => c8 (hz.mpr h))], rfl, rfl⟩
  · refine lv_iconst (v := nI 1) hx hb d_Wh_isZero_7 (by decide) ?_
    refine lv_goto (tgt := 12) hx hb d_Wh_isZero_8 (by decide) ?_
    exact hw_zret hx hb hr hlocks hI rfl d_Wh_isZero_12 ⟨by rw [if_pos (hz.mp c8)], rfl, rfl⟩
set_option maxHeartbeats 4000000 in
set_option maxRecDepth 100000 in
theorem c_Wh_isOne (l : Launch) (D : va_G) (t0 : Nat) (L : List Nat) (f : Nat → va_E) (sz : Nat) (o r : Nat → Nat) (N : Nat) (x : Nat → Nat) (i : Nat) (hi : i < N) (hY : Lay o r N) (hN : AllN D L f o r N x) : Met l y_Wh_isOne (Cond.code y_Wh_isOne b_Wh_isOne 1 (some .boolean) :: TT) ({ frames := 0, cells := 0, slots := 0, locals := 0 } : Room) (hw_Pc t0 [.ref (o i)] D L f sz) (hw_Q D L sz (fun oc L' f' => oc = .returned (some (.int (if x i = 1 then nI 1 else nI 0))) ∧ L = L' ∧ f = f')) 0 0 (hw_A L sz) := by
  refine Met.ofW (cc := b_Wh_isOne) (maxL := 1) (ret := (some .boolean)) (by decide) rfl ?_
  intro p e s m args below meth c s₁ B hml hv
  obtain ⟨rfl, rfl, hI⟩ := hw_start hv
  clear hv
  have hx := B.exec
  have hb := B.bytes
  have hr := B.returns
  have hlocks := B.notSynchronized
  have hown : s.vm.findClass "WallFractions$Whole" = some m.cls := findClass_of_methodNamed B.named
  have hT : ∀ w ∈ TT, w.before ([.ref (o i)]).toArray s = true := fun w h => atoms_spec (ws := (Cond.code y_Wh_isOne b_Wh_isOne 1 (some .boolean) :: TT)) B.pre w (List.mem_cons_of_mem _ h)
  have S : CallFix p m c b_Wh_isOne 1 s ([.ref (o i)]).toArray TT "WallFractions$Whole" := ⟨hx, hb, hml, hown, hT⟩
  have hl := lv_entry ([.ref (o i)]) (n := 1) (Nat.le_of_ble_eq_true rfl)
  rw [lg_entry_eq]
  generalize (lg_sl ([.ref (o i)]) ++ List.replicate (1 - (lg_sl ([.ref (o i)])).length) Slot.unset).toArray = ls at hl ⊢
  have hl : lv_has ls 1 [(0, .ref (o i))] := hl
  skip
  obtain ⟨v, hV, hO⟩ := hN
  have hz := nOk_one (hO i hi).2
  have h41 := (hO i hi).1
  refine lv_aload_n hx hb d_Wh_isOne_0 rfl (lv_at hl 0 rfl) ?_
  refine wh_size S hI hV hi d_Wh_isOne_1 ?_
  refine lv_iconst (v := nI 1) hx hb d_Wh_isOne_4 (by decide) ?_
  refine hw_icmp_ne (tgt := 23) hx hb d_Wh_isOne_5 (by decide) (by omega) (by omega) (fun c9 => ?_) (fun c9 => ?_)
  · refine lv_iconst (v := nI 0) hx hb d_Wh_isOne_23 (by decide) ?_
    exact hw_zret hx hb hr hlocks hI rfl d_Wh_isOne_24 ⟨by rw [if_neg (fun h => c9 (hz.mpr h).1)], rfl, rfl⟩
  · refine lv_aload_n hx hb d_Wh_isOne_8 rfl (lv_at hl 0 rfl) ?_
    refine wh_limbs S hI hV hi d_Wh_isOne_9 ?_
    refine lv_iconst (v := nI 0) hx hb d_Wh_isOne_12 (by decide) ?_
    refine wh_ld S hI hV hi (by omega) d_Wh_isOne_13 ?_
    refine lv_lconst (v := lN 1) hx hb d_Wh_isOne_14 rfl ?_
    refine hw_l_ne (tgt := 23) hx hb d_Wh_isOne_15 d_Wh_isOne_16 (by decide) (fun c10 => ?_) (fun c10 => ?_)
    · refine lv_iconst (v := nI 0) hx hb d_Wh_isOne_23 (by decide) ?_
      exact hw_zret hx hb hr hlocks hI rfl d_Wh_isOne_24 ⟨by rw [if_neg (fun h => c10 (by rw [(hz.mpr h).2]))], rfl, rfl⟩
    · refine lv_iconst (v := nI 1) hx hb d_Wh_isOne_19 (by decide) ?_
      refine lv_goto (tgt := 24) hx hb d_Wh_isOne_20 (by decide) ?_
      exact hw_zret hx hb hr hlocks hI rfl d_Wh_isOne_24 ⟨by rw [if_pos (hz.mp ⟨c9, (pk_lEQ (nB63 ((hO i hi).2.1 _)) (by decide)).mp c10⟩)], rfl, rfl⟩
set_option maxHeartbeats 4000000 in
set_option maxRecDepth 100000 in
theorem c_Wh_lowest (l : Launch) (D : va_G) (t0 : Nat) (L : List Nat) (f : Nat → va_E) (sz : Nat) (o r : Nat → Nat) (N : Nat) (x : Nat → Nat) (i : Nat) (hi : i < N) (hY : Lay o r N) (hN : AllN D L f o r N x) (hx2 : x i < nB ^ 2) : Met l y_Wh_lowest (Cond.code y_Wh_lowest b_Wh_lowest 1 (some .long) :: TT) ({ frames := 1, cells := 0, slots := 0, locals := 21 } : Room) (hw_Pc t0 [.ref (o i)] D L f sz) (hw_Q D L sz (fun oc L' f' => oc = .returned (some (.long (lN (x i)))) ∧ L = L' ∧ f = f')) 0 0 (hw_A L sz) := by
  refine Met.ofW (cc := b_Wh_lowest) (maxL := 1) (ret := (some .long)) (by decide) rfl ?_
  intro p e s m args below meth c s₁ B hml hv
  obtain ⟨rfl, rfl, hI⟩ := hw_start hv
  clear hv
  have hx := B.exec
  have hb := B.bytes
  have hr := B.returns
  have hlocks := B.notSynchronized
  have hown : s.vm.findClass "WallFractions$Whole" = some m.cls := findClass_of_methodNamed B.named
  have hT : ∀ w ∈ TT, w.before ([.ref (o i)]).toArray s = true := fun w h => atoms_spec (ws := (Cond.code y_Wh_lowest b_Wh_lowest 1 (some .long) :: TT)) B.pre w (List.mem_cons_of_mem _ h)
  have S : CallFix p m c b_Wh_lowest 1 s ([.ref (o i)]).toArray TT "WallFractions$Whole" := ⟨hx, hb, hml, hown, hT⟩
  have hl := lv_entry ([.ref (o i)]) (n := 1) (Nat.le_of_ble_eq_true rfl)
  rw [lg_entry_eq]
  generalize (lg_sl ([.ref (o i)]) ++ List.replicate (1 - (lg_sl ([.ref (o i)])).length) Slot.unset).toArray = ls at hl ⊢
  have hl : lv_has ls 1 [(0, .ref (o i))] := hl
  skip
  obtain ⟨v, hV, hO⟩ := hN
  have h41 := (hO i hi).1
  refine lv_aload_n hx hb d_Wh_lowest_0 rfl (lv_at hl 0 rfl) ?_
  refine lv_iconst (v := nI 1) hx hb d_Wh_lowest_1 (by decide) ?_
  refine hw_cV (As := [.int (nI 1)]) (rest := []) S hI m_Wh_limbAt w_414 (c_Wh_limbAt l D t0 L _ _ o r N v i 1 hi hY hV (by decide) h41) (hV _ hi).1 rfl hl.1 rfl rfl (Nat.le_of_ble_eq_true rfl) d_Wh_lowest_2 ⟨Nat.le_of_ble_eq_true rfl, Nat.le_of_ble_eq_true rfl⟩ ⟨Nat.le_of_ble_eq_true rfl, Nat.le_of_ble_eq_true rfl⟩ (fun v9 L9 f11 H locs hp hI => ?_)
  refine W.cs (cells' := 0) (slots' := 0) rfl rfl ?_
  obtain ⟨hv9, rfl, rfl⟩ := hp
  cases hv9
  refine hw_stk (st' := [.long (lN (padl (v i) 1))]) rfl ?_
  refine hw_ldc2 (v := lN nB) hx hb hown (hT _ w_56) d_Wh_lowest_5 ?_
  refine lv_lmul hx hb d_Wh_lowest_8 ?_
  refine hw_tl (lN_mul _ _) ?_
  refine lv_aload_n hx hb d_Wh_lowest_9 rfl (lv_at hl 0 rfl) ?_
  refine lv_iconst (v := nI 0) hx hb d_Wh_lowest_10 (by decide) ?_
  refine hw_cV (As := [.int (nI 0)]) (rest := [.long (lN ((padl (v i) 1) * nB))]) S hI m_Wh_limbAt w_414 (c_Wh_limbAt l D t0 L _ _ o r N v i 0 hi hY hV (by decide) h41) (hV _ hi).1 rfl hl.1 rfl rfl (Nat.le_of_ble_eq_true rfl) d_Wh_lowest_11 ⟨Nat.le_of_ble_eq_true rfl, Nat.le_of_ble_eq_true rfl⟩ ⟨Nat.le_of_ble_eq_true rfl, Nat.le_of_ble_eq_true rfl⟩ (fun v9 L9 f12 H locs hp hI => ?_)
  refine W.cs (cells' := 0) (slots' := 0) rfl rfl ?_
  obtain ⟨hv9, rfl, rfl⟩ := hp
  cases hv9
  refine hw_stk (st' := [.long (lN (padl (v i) 0)), .long (lN ((padl (v i) 1) * nB))]) rfl ?_
  refine lv_ladd hx hb d_Wh_lowest_14 ?_
  refine hw_tl (lN_add _ _) ?_
  exact hw_lret hx hb hr hlocks hI d_Wh_lowest_15 ⟨by rw [nOk_low (hO i hi).2 hx2], rfl, rfl⟩
set_option maxHeartbeats 4000000 in
set_option maxRecDepth 100000 in
theorem c_Wh_copyFrom (l : Launch) (D : va_G) (t0 : Nat) (L : List Nat) (f : Nat → va_E) (sz : Nat) (o r : Nat → Nat) (N : Nat) (x : Nat → Nat) (i : Nat) (j : Nat) (hi : i < N) (hY : Lay o r N) (hN : AllN D L f o r N x) (hj : j < N) : Met l y_Wh_copyFrom (Cond.code y_Wh_copyFrom b_Wh_copyFrom 2 none :: TT) ({ frames := 1, cells := 0, slots := 0, locals := 40 } : Room) (hw_Pc t0 [.ref (o i), .ref (o j)] D L f sz) (hw_Q D L sz (fun oc L' f' => oc = .returned none ∧ L = L' ∧ AllN D L f' o r N (va_up x i (x j)) ∧ ∀ q, q ≠ o i → q ≠ r i → f' q = f q)) 0 0 (hw_A L sz) := by
  refine Met.ofW (cc := b_Wh_copyFrom) (maxL := 2) (ret := none) (by decide) rfl ?_
  intro p e s m args below meth c s₁ B hml hv
  obtain ⟨rfl, rfl, hI⟩ := hw_start hv
  clear hv
  have hx := B.exec
  have hb := B.bytes
  have hr := B.returns
  have hlocks := B.notSynchronized
  have hown : s.vm.findClass "WallFractions$Whole" = some m.cls := findClass_of_methodNamed B.named
  have hT : ∀ w ∈ TT, w.before ([.ref (o i), .ref (o j)]).toArray s = true := fun w h => atoms_spec (ws := (Cond.code y_Wh_copyFrom b_Wh_copyFrom 2 none :: TT)) B.pre w (List.mem_cons_of_mem _ h)
  have S : CallFix p m c b_Wh_copyFrom 2 s ([.ref (o i), .ref (o j)]).toArray TT "WallFractions$Whole" := ⟨hx, hb, hml, hown, hT⟩
  have hl := lv_entry ([.ref (o i), .ref (o j)]) (n := 2) (Nat.le_of_ble_eq_true rfl)
  rw [lg_entry_eq]
  generalize (lg_sl ([.ref (o i), .ref (o j)]) ++ List.replicate (2 - (lg_sl ([.ref (o i), .ref (o j)])).length) Slot.unset).toArray = ls at hl ⊢
  have hl : lv_has ls 2 [(0, .ref (o i)), (1, .ref (o j))] := hl
  skip
  obtain ⟨v, hV, hO⟩ := hN
  have h41 := (hO j hj).1
  refine lv_aload_n hx hb d_Wh_copyFrom_0 rfl (lv_at hl 1 rfl) ?_
  refine wh_limbs S hI hV hj d_Wh_copyFrom_1 ?_
  refine lv_iconst (v := nI 0) hx hb d_Wh_copyFrom_4 (by decide) ?_
  refine lv_aload_n hx hb d_Wh_copyFrom_5 rfl (lv_at hl 0 rfl) ?_
  refine wh_limbs S hI hV hi d_Wh_copyFrom_6 ?_
  refine lv_iconst (v := nI 0) hx hb d_Wh_copyFrom_9 (by decide) ?_
  refine lv_aload_n hx hb d_Wh_copyFrom_10 rfl (lv_at hl 1 rfl) ?_
  refine wh_size S hI hV hj d_Wh_copyFrom_11 ?_
  refine wh_copy S hI hV hY hi (hV j hj).2 hl.1 w_347 h41 h41 (Nat.le_of_ble_eq_true rfl) (Nat.le_of_ble_eq_true rfl) d_Wh_copyFrom_14 (fun f2 H locs hI hV hF2 => ?_)
  have ej : (va_up v i ((v i).1, fun q => if q < (v j).1 then (v j).2 q else (v i).2 q)) j = (va_up v i ((v i).1, fun q => if q < (v j).1 then (v j).2 q else (v i).2 q)) j := rfl
  refine lv_aload_n hx hb d_Wh_copyFrom_17 rfl (lv_at hl 0 rfl) ?_
  refine lv_aload_n hx hb d_Wh_copyFrom_18 rfl (lv_at hl 1 rfl) ?_
  refine wh_size S hI hV hj d_Wh_copyFrom_19 ?_
  refine hw_ti (show _ = nI (v j).1 from by rw [up_fst]) ?_
  refine wh_psize S hI hV hY hi d_Wh_copyFrom_22 (fun f13 H locs hI hV hf13 => ?_)
  refine hw_vret hx hb hr hlocks hI d_Wh_copyFrom_25 ⟨rfl, rfl, ?_, fun q h1 h2 => (hf13 q h1).trans (hF2 q h2)⟩
  rw [hw_up_eq, bx_uu] at hV
  refine AllN.mk hO hV h41 ⟨fun q => ?_, fun h => ?_, ?_⟩
  · dsimp only; split; exact (hO j hj).2.1 q; exact (hO i hi).2.1 q
  · dsimp only; rw [if_pos (by omega)]; exact (hO j hj).2.2.1 h
  · rw [← (hO j hj).2.2.2]; exact nvb_congr (fun q hq => by dsimp only; rw [if_pos hq])
set_option maxHeartbeats 4000000 in
set_option maxRecDepth 100000 in
theorem c_Wh_order (l : Launch) (D : va_G) (t0 : Nat) (L : List Nat) (f : Nat → va_E) (sz : Nat) (o r : Nat → Nat) (N : Nat) (x : Nat → Nat) (i : Nat) (j : Nat) (hi : i < N) (hY : Lay o r N) (hN : AllN D L f o r N x) (hj : j < N) : Met l y_Wh_order (Cond.code y_Wh_order b_Wh_order 3 (some .int) :: TT) ({ frames := 0, cells := 0, slots := 0, locals := 0 } : Room) (hw_Pc t0 [.ref (o i), .ref (o j)] D L f sz) (hw_Q D L sz (fun oc L' f' => oc = .returned (some (.int (cmpN (x i) (x j)))) ∧ L = L' ∧ f = f')) 0 0 (hw_A L sz) := by
  refine Met.ofW (cc := b_Wh_order) (maxL := 3) (ret := (some .int)) (by decide) rfl ?_
  intro p e s m args below meth c s₁ B hml hv
  obtain ⟨rfl, rfl, hI⟩ := hw_start hv
  clear hv
  have hx := B.exec
  have hb := B.bytes
  have hr := B.returns
  have hlocks := B.notSynchronized
  have hown : s.vm.findClass "WallFractions$Whole" = some m.cls := findClass_of_methodNamed B.named
  have hT : ∀ w ∈ TT, w.before ([.ref (o i), .ref (o j)]).toArray s = true := fun w h => atoms_spec (ws := (Cond.code y_Wh_order b_Wh_order 3 (some .int) :: TT)) B.pre w (List.mem_cons_of_mem _ h)
  have S : CallFix p m c b_Wh_order 3 s ([.ref (o i), .ref (o j)]).toArray TT "WallFractions$Whole" := ⟨hx, hb, hml, hown, hT⟩
  have hl := lv_entry ([.ref (o i), .ref (o j)]) (n := 3) (Nat.le_of_ble_eq_true rfl)
  rw [lg_entry_eq]
  generalize (lg_sl ([.ref (o i), .ref (o j)]) ++ List.replicate (3 - (lg_sl ([.ref (o i), .ref (o j)])).length) Slot.unset).toArray = ls at hl ⊢
  have hl : lv_has ls 3 [(0, .ref (o i)), (1, .ref (o j))] := hl
  skip
  obtain ⟨v, hV, hO⟩ := hN
  have h41 := (hO i hi).1
  have h42 := (hO j hj).1
  refine lv_aload_n hx hb d_Wh_order_0 rfl (lv_at hl 0 rfl) ?_
  refine wh_size S hI hV hi d_Wh_order_1 ?_
  refine lv_aload_n hx hb d_Wh_order_4 rfl (lv_at hl 1 rfl) ?_
  refine wh_size S hI hV hj d_Wh_order_5 ?_
  refine hw_icmp_eq (tgt := 28) hx hb d_Wh_order_8 (by decide) (by omega) (by omega) (fun c14 => ?_) (fun c14 => ?_)
  · have loop : ∀ (k : Nat) (f1 : Nat → va_E) (H : Heap) (locs : List Loc) (ls : Array Slot), k ≤ (v i).1 → (∀ q, k ≤ q → q < (v i).1 → (v i).2 q = (v j).2 q) → f = f1 → hw_I D t0 (hw_A L s.heap.size) s L f1 H locs → lv_has ls 3 [(2, .int (mI k)), (0, .ref (o i)), (1, .ref (o j))] → W p l e (headSpec (Cond.code y_Wh_order b_Wh_order 3 (some .int) :: TT) ({ frames := 0, cells := 0, slots := 0, locals := 0 } : Room)).room s m ([.ref (o i), .ref (o j)]).toArray below meth c H locs 0 0 (MQ below (hw_Q D L s.heap.size (fun oc L' f' => oc = .returned (some (.int (cmpN (x i) (x j)))) ∧ L = L' ∧ f = f')) ([.ref (o i), .ref (o j)]).toArray s 0 0 (hw_A L s.heap.size)) (F0 m 35 ls []) := by
      intro k
      induction k with
      | zero =>
        intro f1 H locs ls hk he hf hI hl
        subst hf
        refine lv_iload_n hx hb d_Wh_order_35 rfl (lv_at hl 0 rfl) ?_
        refine hw_m0 (tgt := 83) hx hb d_Wh_order_36 (by decide) ?_
        refine lv_iconst (v := nI 0) hx hb d_Wh_order_83 (by decide) ?_
        exact hw_iret hx hb hr hlocks hI d_Wh_order_84 ⟨by rw [cmpN_eq (by rw [← (hO i hi).2.2.2, ← (hO j hj).2.2.2, ← c14]; exact nvb_congr (fun q hq => he q (Nat.zero_le _) hq))]; rfl, rfl, rfl⟩
      | succ k ih =>
        intro f1 H locs ls hk he hf hI hl
        subst hf
        rw [mI_s] at hl
        refine lv_iload_n hx hb d_Wh_order_35 rfl (lv_at hl 0 rfl) ?_
        refine hw_if_lt (tgt := 83) hx hb d_Wh_order_36 (by decide) (by omega) ?_
        refine lv_aload_n hx hb d_Wh_order_39 rfl (lv_at hl 1 rfl) ?_
        refine wh_limbs S hI hV hi d_Wh_order_40 ?_
        refine lv_iload_n hx hb d_Wh_order_43 rfl (lv_at hl 0 rfl) ?_
        refine wh_ld S hI hV hi (by omega) d_Wh_order_44 ?_
        refine lv_aload_n hx hb d_Wh_order_45 rfl (lv_at hl 2 rfl) ?_
        refine wh_limbs S hI hV hj d_Wh_order_46 ?_
        refine lv_iload_n hx hb d_Wh_order_49 rfl (lv_at hl 0 rfl) ?_
        refine wh_ld S hI hV hj (by omega) d_Wh_order_50 ?_
        refine hw_l_eq (tgt := 77) hx hb d_Wh_order_51 d_Wh_order_52 (by decide) (fun c16 => ?_) (fun c16 => ?_)
        · have he0 : (v i).2 k = (v j).2 k := (pk_lEQ (nB63 ((hO i hi).2.1 _)) (nB63 ((hO j hj).2.1 _))).mp c16
          refine lv_iinc (v := mI k) (lv' := [(2, .int (mI k)), (0, .ref (o i)), (1, .ref (o j))]) hx hb d_Wh_order_77 hl (k := 0) rfl (mI_d k) (by decide) rfl (fun ls hl => ?_)
          refine lv_goto (tgt := 35) hx hb d_Wh_order_80 (by decide) ?_
          exact ih _ _ _ _ (by omega) (fun q h1 h2 => by rcases Nat.lt_or_ge k q with h3 | h3; exact he q h3 h2; rw [show q = k by omega]; exact he0) rfl hI hl
        · refine lv_aload_n hx hb d_Wh_order_55 rfl (lv_at hl 1 rfl) ?_
          refine wh_limbs S hI hV hi d_Wh_order_56 ?_
          refine lv_iload_n hx hb d_Wh_order_59 rfl (lv_at hl 0 rfl) ?_
          refine wh_ld S hI hV hi (by omega) d_Wh_order_60 ?_
          refine lv_aload_n hx hb d_Wh_order_61 rfl (lv_at hl 2 rfl) ?_
          refine wh_limbs S hI hV hj d_Wh_order_62 ?_
          refine lv_iload_n hx hb d_Wh_order_65 rfl (lv_at hl 0 rfl) ?_
          refine wh_ld S hI hV hj (by omega) d_Wh_order_66 ?_
          refine hw_l_ge (tgt := 75) hx hb d_Wh_order_67 d_Wh_order_68 (by decide) (fun c17 => ?_) (fun c17 => ?_)
          · refine lv_iconst (v := nI 1) hx hb d_Wh_order_75 (by decide) ?_
            have hgt : x j < x i := by
              rw [← (hO i hi).2.2.2, ← (hO j hj).2.2.2, ← c14]
              have h9 : (v j).2 k < (v i).2 k := by
                have h1 := (pk_lLE (nB63 ((hO j hj).2.1 k)) (nB63 ((hO i hi).2.1 k))).mp c17
                have h2 : (v i).2 k ≠ (v j).2 k := fun h => c16 (by rw [h])
                omega
              exact nvb_lt_of (i := k) (by omega) (fun j9 _ => (hO j hj).2.1 j9) h9 (fun q h1 h2 => (he q (by omega) h2).symm)
            exact hw_iret hx hb hr hlocks hI d_Wh_order_76 ⟨by rw [cmpN_gt hgt]; rfl, rfl, rfl⟩
          · refine lv_iconst (v := -1) hx hb d_Wh_order_71 (by decide) ?_
            refine lv_goto (tgt := 76) hx hb d_Wh_order_72 (by decide) ?_
            have hlt : x i < x j := by
              rw [← (hO i hi).2.2.2, ← (hO j hj).2.2.2, ← c14]
              exact nvb_lt_of (i := k) (by omega) (fun j9 _ => (hO i hi).2.1 j9) ((pk_lLT (nB63 ((hO i hi).2.1 k)) (nB63 ((hO j hj).2.1 k))).mp c17) (fun q h1 h2 => he q (by omega) h2)
            exact hw_iret hx hb hr hlocks hI d_Wh_order_76 ⟨by rw [cmpN_lt hlt], rfl, rfl⟩
    refine lv_aload_n hx hb d_Wh_order_28 rfl (lv_at hl 0 rfl) ?_
    refine wh_size S hI hV hi d_Wh_order_29 ?_
    refine lv_iconst (v := nI 1) hx hb d_Wh_order_32 (by decide) ?_
    refine lv_isub hx hb d_Wh_order_33 ?_
    refine hw_ti (show _ = mI (v i).1 from rfl) ?_
    refine lv_istore_n (lv' := [(2, .int (mI (v i).1)), (0, .ref (o i)), (1, .ref (o j))]) hx hb d_Wh_order_34 rfl hl (by decide) rfl (fun ls hl => ?_)
    exact loop _ _ _ _ _ (Nat.le_refl _) (fun q h1 h2 => by omega) rfl hI hl
  · refine lv_aload_n hx hb d_Wh_order_11 rfl (lv_at hl 0 rfl) ?_
    refine wh_size S hI hV hi d_Wh_order_12 ?_
    refine lv_aload_n hx hb d_Wh_order_15 rfl (lv_at hl 1 rfl) ?_
    refine wh_size S hI hV hj d_Wh_order_16 ?_
    refine hw_icmp_ge (tgt := 26) hx hb d_Wh_order_19 (by decide) (by omega) (by omega) (fun c15 => ?_) (fun c15 => ?_)
    · refine lv_iconst (v := nI 1) hx hb d_Wh_order_26 (by decide) ?_
      exact hw_iret hx hb hr hlocks hI d_Wh_order_27 ⟨by rw [cmpN_gt (nOk_size_lt (hO j hj).2 (hO i hi).2 (by omega))]; rfl, rfl, rfl⟩
    · refine lv_iconst (v := -1) hx hb d_Wh_order_22 (by decide) ?_
      refine lv_goto (tgt := 27) hx hb d_Wh_order_23 (by decide) ?_
      exact hw_iret hx hb hr hlocks hI d_Wh_order_27 ⟨by rw [cmpN_lt (nOk_size_lt (hO i hi).2 (hO j hj).2 (by omega))], rfl, rfl⟩
end
section
set_option maxHeartbeats 4000000 in
set_option maxRecDepth 100000 in
theorem c_Wh_become (l : Launch) (D : va_G) (t0 : Nat) (L : List Nat) (f : Nat → va_E) (sz : Nat) (o r : Nat → Nat) (N : Nat) (x : Nat → Nat) (i : Nat) (val : Nat) (hi : i < N) (hY : Lay o r N) (hN : AllN D L f o r N x) (hval : val < 2 ^ 63) : Met l y_Wh_become (Cond.code y_Wh_become b_Wh_become 5 none :: TT) ({ frames := 0, cells := 0, slots := 0, locals := 0 } : Room) (hw_Pc t0 [.ref (o i), .long (lN val)] D L f sz) (hw_Q D L sz (fun oc L' f' => oc = .returned none ∧ L = L' ∧ AllN D L f' o r N (va_up x i (val)) ∧ ∀ q, q ≠ o i → q ≠ r i → f' q = f q)) 0 0 (hw_A L sz) := by
  refine Met.ofW (cc := b_Wh_become) (maxL := 5) (ret := none) (by decide) rfl ?_
  intro p e s m args below meth c s₁ B hml hv
  obtain ⟨rfl, rfl, hI⟩ := hw_start hv
  clear hv
  have hx := B.exec
  have hb := B.bytes
  have hr := B.returns
  have hlocks := B.notSynchronized
  have hown : s.vm.findClass "WallFractions$Whole" = some m.cls := findClass_of_methodNamed B.named
  have hT : ∀ w ∈ TT, w.before ([.ref (o i), .long (lN val)]).toArray s = true := fun w h => atoms_spec (ws := (Cond.code y_Wh_become b_Wh_become 5 none :: TT)) B.pre w (List.mem_cons_of_mem _ h)
  have S : CallFix p m c b_Wh_become 5 s ([.ref (o i), .long (lN val)]).toArray TT "WallFractions$Whole" := ⟨hx, hb, hml, hown, hT⟩
  have hl := lv_entry ([.ref (o i), .long (lN val)]) (n := 5) (Nat.le_of_ble_eq_true rfl)
  rw [lg_entry_eq]
  generalize (lg_sl ([.ref (o i), .long (lN val)]) ++ List.replicate (5 - (lg_sl ([.ref (o i), .long (lN val)])).length) Slot.unset).toArray = ls at hl ⊢
  have hl : lv_has ls 5 [(0, .ref (o i)), (1, .long (lN val))] := hl
  skip
  obtain ⟨v, hV, hO⟩ := hN
  have hnB : nB = 1000000000 := rfl
  have loop : ∀ (g k left : Nat) (h : Nat → Nat) (f1 : Nat → va_E) (H : Heap) (locs : List Loc) (ls : Array Slot), k + g = 3 → left < nB ^ g → (∀ q, h q < nB) → nvb nB h k + left * nB ^ k = val → (left = 0 → 0 < k → 0 < h (k - 1)) → left < 2 ^ 63 → AllW D L f1 o r N (va_up v i (k, h)) → (∀ q, q ≠ o i → q ≠ r i → f1 q = f q) → hw_I D t0 (hw_A L s.heap.size) s L f1 H locs → lv_has ls 5 [(3, .long (lN left)), (0, .ref (o i)), (1, .long (lN val))] → W p l e (headSpec (Cond.code y_Wh_become b_Wh_become 5 none :: TT) ({ frames := 0, cells := 0, slots := 0, locals := 0 } : Room)).room s m ([.ref (o i), .long (lN val)]).toArray below meth c H locs 0 0 (MQ below (hw_Q D L s.heap.size (fun oc L' f' => oc = .returned none ∧ L = L' ∧ AllN D L f' o r N (va_up x i (val)) ∧ ∀ q, q ≠ o i → q ≠ r i → f' q = f q)) ([.ref (o i), .long (lN val)]).toArray s 0 0 (hw_A L s.heap.size)) (F0 m 7 ls []) := by
    intro g
    induction g with
    | zero =>
      intro k left h f1 H locs ls hkg hlt hB hS htop h63 hV hF hI hl
      refine lv_lload_n hx hb d_Wh_become_7 rfl (lv_at hl 0 rfl) ?_
      refine lv_lconst (v := lN 0) hx hb d_Wh_become_8 rfl ?_
      refine hw_l_le (tgt := 55) hx hb d_Wh_become_9 d_Wh_become_10 (by decide) (fun c1 => ?_) (fun c1 => ?_)
      · have hl0 : left = 0 := Nat.le_zero.mp ((pk_lLE h63 (by decide)).mp c1)
        exact hw_vret hx hb hr hlocks hI d_Wh_become_55 ⟨rfl, rfl, AllN.mk hO hV (by omega) ⟨hB, htop hl0, by rw [hl0, Nat.zero_mul, Nat.add_zero] at hS; exact hS⟩, hF⟩
      · have hlp : 0 < left := (pk_lLT (by decide) h63).mp c1
        exact absurd hlt (by rw [Nat.pow_zero]; omega)
    | succ g ih =>
      intro k left h f1 H locs ls hkg hlt hB hS htop h63 hV hF hI hl
      refine lv_lload_n hx hb d_Wh_become_7 rfl (lv_at hl 0 rfl) ?_
      refine lv_lconst (v := lN 0) hx hb d_Wh_become_8 rfl ?_
      refine hw_l_le (tgt := 55) hx hb d_Wh_become_9 d_Wh_become_10 (by decide) (fun c2 => ?_) (fun c2 => ?_)
      · have hl0 : left = 0 := Nat.le_zero.mp ((pk_lLE h63 (by decide)).mp c2)
        exact hw_vret hx hb hr hlocks hI d_Wh_become_55 ⟨rfl, rfl, AllN.mk hO hV (by omega) ⟨hB, htop hl0, by rw [hl0, Nat.zero_mul, Nat.add_zero] at hS; exact hS⟩, hF⟩
      · have hlp : 0 < left := (pk_lLT (by decide) h63).mp c2
        refine lv_aload_n hx hb d_Wh_become_13 rfl (lv_at hl 1 rfl) ?_
        refine wh_size S hI hV hi d_Wh_become_14 ?_
        refine hw_ti (show _ = nI k from by rw [hw_up_eq]) ?_
        refine lv_bipush (v := nI 41) hx hb d_Wh_become_17 (by decide) ?_
        refine hw_icmp_ge (tgt := 55) hx hb d_Wh_become_19 (by decide) (by omega) (by omega) (fun c3 => ?_) (fun c3 => ?_)
        · exact absurd c3 (by omega)
        · refine lv_aload_n hx hb d_Wh_become_22 rfl (lv_at hl 1 rfl) ?_
          refine wh_limbs S hI hV hi d_Wh_become_23 ?_
          refine lv_aload_n hx hb d_Wh_become_26 rfl (lv_at hl 1 rfl) ?_
          refine wh_size S hI hV hi d_Wh_become_27 ?_
          refine hw_ti (show _ = nI k from by rw [hw_up_eq]) ?_
          refine lv_lload_n hx hb d_Wh_become_30 rfl (lv_at hl 0 rfl) ?_
          refine hw_ldc2 (v := lN nB) hx hb hown (hT _ w_56) d_Wh_become_31 ?_
          refine lv_lrem hx hb d_Wh_become_34 (by intro h9; have h8 := (pk_lEQ (b := 0) (by omega) (by decide)).mp h9; omega) ?_
          refine hw_tl (pk_lRem (by omega) (by omega) (by omega)) ?_
          refine wh_st S hI hV hY hi (by omega) d_Wh_become_35 (fun f4 H locs hI hV hf4 => ?_)
          have hF := fun q (h1 : q ≠ o i) (h2 : q ≠ r i) => (hf4 q h2).trans (hF q h1 h2)
          have hV : AllW D L f4 o r N (va_up v i (k, va_up h k (left % nB))) := by simpa only [hw_up_eq, bx_uu] using hV
          refine lv_lload_n hx hb d_Wh_become_36 rfl (lv_at hl 0 rfl) ?_
          refine hw_ldc2 (v := lN nB) hx hb hown (hT _ w_56) d_Wh_become_37 ?_
          refine lv_ldiv hx hb d_Wh_become_40 (by intro h9; have h8 := (pk_lEQ (b := 0) (by omega) (by decide)).mp h9; omega) ?_
          refine hw_tl (pk_lDiv (by omega) (by omega) (by omega)) ?_
          refine lv_lstore_n (lv' := [(3, .long (lN (left / nB))), (0, .ref (o i)), (1, .long (lN val))]) hx hb d_Wh_become_41 rfl hl (by decide) rfl (fun ls hl => ?_)
          refine lv_aload_n hx hb d_Wh_become_42 rfl (lv_at hl 1 rfl) ?_
          refine lv_dup hx hb d_Wh_become_43 rfl ?_
          refine wh_size S hI hV hi d_Wh_become_44 ?_
          refine hw_ti (show _ = nI k from by rw [hw_up_eq]) ?_
          refine lv_iconst (v := nI 1) hx hb d_Wh_become_47 (by decide) ?_
          refine lv_iadd hx hb d_Wh_become_48 ?_
          refine hw_ti (nI_add _ _) ?_
          refine wh_psize S hI hV hY hi d_Wh_become_49 (fun f5 H locs hI hV hf5 => ?_)
          have hF := fun q (h1 : q ≠ o i) (h2 : q ≠ r i) => (hf5 q h1).trans (hF q h1 h2)
          refine lv_goto (tgt := 7) hx hb d_Wh_become_52 (by decide) ?_
          have hV : AllW D L f5 o r N (va_up v i (k + 1, va_up h k (left % nB))) := by simpa only [hw_up_eq, bx_uu] using hV
          have hlt2 : left / nB < nB ^ g := Nat.div_lt_of_lt_mul (by rw [Nat.pow_succ, Nat.mul_comm] at hlt; exact hlt)
          have hdm := Nat.div_add_mod left nB
          exact ih (k + 1) (left / nB) (va_up h k (left % nB)) _ _ _ _ (by omega) hlt2 (fun q => by by_cases e9 : q = k; (subst e9; rw [hw_up_eq]; exact Nat.mod_lt _ nB_pos); (rw [hw_up_ne e9]; exact hB q)) (by rw [nvb_digit (cr := left) (w := 0) rfl (by rw [Nat.zero_add, Nat.mul_comm]; omega), Nat.zero_mul, Nat.add_zero]; exact hS) (fun e0 _ => by rw [Nat.add_sub_cancel, hw_up_eq]; rw [e0] at hdm; omega) (Nat.lt_of_le_of_lt (Nat.div_le_self _ _) h63) hV hF hI hl
  refine lv_lload_n hx hb d_Wh_become_0 rfl (lv_at hl 1 rfl) ?_
  refine lv_lstore_n (lv' := [(3, .long (lN val)), (0, .ref (o i)), (1, .long (lN val))]) hx hb d_Wh_become_1 rfl hl (by decide) rfl (fun ls hl => ?_)
  refine lv_aload_n hx hb d_Wh_become_2 rfl (lv_at hl 1 rfl) ?_
  refine lv_iconst (v := nI 0) hx hb d_Wh_become_3 (by decide) ?_
  refine wh_psize S hI hV hY hi d_Wh_become_4 (fun f6 H locs hI hV hf6 => ?_)
  exact loop 3 0 val (v i).2 _ _ _ _ rfl (by rw [hnB]; omega) (hO i hi).2.1 (by rw [nvb_zero, Nat.pow_zero]; omega) (fun _ h => absurd h (by omega)) hval hV (fun q h1 h2 => hf6 q h1) hI hl
set_option maxHeartbeats 4000000 in
set_option maxRecDepth 100000 in
theorem c_Wh_becomeSum (l : Launch) (D : va_G) (t0 : Nat) (L : List Nat) (f : Nat → va_E) (sz : Nat) (o r : Nat → Nat) (N : Nat) (x : Nat → Nat) (i : Nat) (j k : Nat) (hi : i < N) (hY : Lay o r N) (hN : AllN D L f o r N x) (hj : j < N) (hk : k < N) (hxj : x j < nB ^ 40) (hxk : x k < nB ^ 40) : Met l y_Wh_becomeSum (Cond.code y_Wh_becomeSum b_Wh_becomeSum 9 none :: TT) ({ frames := 7, cells := 0, slots := 0, locals := 130 } : Room) (hw_Pc t0 [.ref (o i), .ref (o j), .ref (o k)] D L f sz) (hw_Q D L sz (fun oc L' f' => oc = .returned none ∧ L = L' ∧ AllN D L f' o r N (va_up x i (x j + x k)) ∧ ∀ q, q ≠ o i → q ≠ r i → f' q = f q)) 0 0 (hw_A L sz) := by
  refine Met.ofW (cc := b_Wh_becomeSum) (maxL := 9) (ret := none) (by decide) rfl ?_
  intro p e s m args below meth c s₁ B hml hv
  obtain ⟨rfl, rfl, hI⟩ := hw_start hv
  clear hv
  have hx := B.exec
  have hb := B.bytes
  have hr := B.returns
  have hlocks := B.notSynchronized
  have hown : s.vm.findClass "WallFractions$Whole" = some m.cls := findClass_of_methodNamed B.named
  have hT : ∀ w ∈ TT, w.before ([.ref (o i), .ref (o j), .ref (o k)]).toArray s = true := fun w h => atoms_spec (ws := (Cond.code y_Wh_becomeSum b_Wh_becomeSum 9 none :: TT)) B.pre w (List.mem_cons_of_mem _ h)
  have S : CallFix p m c b_Wh_becomeSum 9 s ([.ref (o i), .ref (o j), .ref (o k)]).toArray TT "WallFractions$Whole" := ⟨hx, hb, hml, hown, hT⟩
  have hl := lv_entry ([.ref (o i), .ref (o j), .ref (o k)]) (n := 9) (Nat.le_of_ble_eq_true rfl)
  rw [lg_entry_eq]
  generalize (lg_sl ([.ref (o i), .ref (o j), .ref (o k)]) ++ List.replicate (9 - (lg_sl ([.ref (o i), .ref (o j), .ref (o k)])).length) Slot.unset).toArray = ls at hl ⊢
  have hl : lv_has ls 9 [(0, .ref (o i)), (1, .ref (o j)), (2, .ref (o k))] := hl
  skip
  obtain ⟨v, hV, hO⟩ := hN
  have hnB : nB = 1000000000 := rfl
  have h1 : (v j).1 ≤ 40 := ((hO j hj).2.size_le nB1).mpr hxj
  have h2 : (v k).1 ≤ 40 := ((hO k hk).2.size_le nB1).mpr hxk
  obtain ⟨M, hM⟩ : ∃ M, M = max (v j).1 (v k).1 := ⟨_, rfl⟩
  have hM1 : (v j).1 ≤ M := by omega
  have hM2 : (v k).1 ≤ M := by omega
  have hM3 : M ≤ 40 := by omega
  refine lv_aload_n hx hb d_Wh_becomeSum_0 rfl (lv_at hl 1 rfl) ?_
  refine wh_size S hI hV hj d_Wh_becomeSum_1 ?_
  refine lv_aload_n hx hb d_Wh_becomeSum_4 rfl (lv_at hl 2 rfl) ?_
  refine wh_size S hI hV hk d_Wh_becomeSum_5 ?_
  refine hw_cS (As := [.int (nI (v j).1), .int (nI (v k).1)]) (rest := []) S hI m_Mt_max w_411 (c_Mt_max l D t0 L _ _ (v j).1 (v k).1 (by omega) (by omega)) hl.1 rfl rfl (Nat.le_of_ble_eq_true rfl) d_Wh_becomeSum_8 ⟨Nat.le_of_ble_eq_true rfl, Nat.le_of_ble_eq_true rfl⟩ ⟨Nat.le_of_ble_eq_true rfl, Nat.le_of_ble_eq_true rfl⟩ (fun v9 L9 f7 H locs hp hI => ?_)
  refine W.cs (cells' := 0) (slots' := 0) rfl rfl ?_
  obtain ⟨hv9, rfl, rfl⟩ := hp
  cases hv9
  refine hw_stk (st' := [.int (nI (max (v j).1 (v k).1))]) rfl ?_
  refine hw_ti (show _ = nI M from by rw [hM]) ?_
  refine lv_istore_n (lv' := [(3, .int (nI M)), (0, .ref (o i)), (1, .ref (o j)), (2, .ref (o k))]) hx hb d_Wh_becomeSum_11 rfl hl (by decide) rfl (fun ls hl => ?_)
  refine lv_iload_n hx hb d_Wh_becomeSum_12 rfl (lv_at hl 0 rfl) ?_
  refine lv_iconst (v := nI 1) hx hb d_Wh_becomeSum_13 (by decide) ?_
  refine lv_iadd hx hb d_Wh_becomeSum_14 ?_
  refine hw_ti (nI_add _ _) ?_
  refine hw_cS (As := [.int (nI (M + 1))]) (rest := []) S hI m_Wh_requireRoom w_379 (c_Wh_requireRoom l D t0 L _ _ (M + 1) (by omega)) hl.1 rfl rfl (Nat.le_of_ble_eq_true rfl) d_Wh_becomeSum_15 ⟨Nat.le_of_ble_eq_true rfl, Nat.le_of_ble_eq_true rfl⟩ ⟨Nat.le_of_ble_eq_true rfl, Nat.le_of_ble_eq_true rfl⟩ (fun v9 L9 f8 H locs hp hI => ?_)
  refine W.cs (cells' := 0) (slots' := 0) rfl rfl ?_
  obtain ⟨hv9, rfl, rfl⟩ := hp
  cases hv9
  refine hw_stk (st' := []) rfl ?_
  have loop : ∀ (g t cr : Nat) (h : Nat → Nat) (f1 : Nat → va_E) (H : Heap) (locs : List Loc) (ls : Array Slot), t + g = M → cr ≤ 1 → (∀ q, h q < nB) → (∀ q, t ≤ q → h q = (v i).2 q) → nvb nB h t + cr * nB ^ t = nvb nB (padl (v j)) t + nvb nB (padl (v k)) t → AllW D L f1 o r N (va_up v i ((v i).1, h)) → (∀ q, q ≠ o i → q ≠ r i → f1 q = f q) → hw_I D t0 (hw_A L s.heap.size) s L f1 H locs → lv_has ls 9 [(6, .int (nI t)), (4, .long (lN cr)), (3, .int (nI M)), (0, .ref (o i)), (1, .ref (o j)), (2, .ref (o k))] → W p l e (headSpec (Cond.code y_Wh_becomeSum b_Wh_becomeSum 9 none :: TT) ({ frames := 7, cells := 0, slots := 0, locals := 130 } : Room)).room s m ([.ref (o i), .ref (o j), .ref (o k)]).toArray below meth c H locs 0 0 (MQ below (hw_Q D L s.heap.size (fun oc L' f' => oc = .returned none ∧ L = L' ∧ AllN D L f' o r N (va_up x i (x j + x k)) ∧ ∀ q, q ≠ o i → q ≠ r i → f' q = f q)) ([.ref (o i), .ref (o j), .ref (o k)]).toArray s 0 0 (hw_A L s.heap.size)) (F0 m 24 ls []) := by
    intro g
    induction g with
    | zero =>
      intro t cr h f1 H locs ls htg hcr hB hh hS hV hF hI hl
      refine lv_iload hx hb d_Wh_becomeSum_24 (lv_at hl 0 rfl) ?_
      refine lv_iload_n hx hb d_Wh_becomeSum_26 rfl (lv_at hl 2 rfl) ?_
      refine hw_icmp_ge (tgt := 86) hx hb d_Wh_becomeSum_27 (by decide) (by omega) (by omega) (fun c9 => ?_) (fun c9 => ?_)
      · refine lv_aload_n hx hb d_Wh_becomeSum_86 rfl (lv_at hl 3 rfl) ?_
        refine wh_limbs S hI hV hi d_Wh_becomeSum_87 ?_
        refine lv_iload_n hx hb d_Wh_becomeSum_90 rfl (lv_at hl 2 rfl) ?_
        refine lv_lload hx hb d_Wh_becomeSum_91 (lv_at hl 1 rfl) ?_
        refine wh_st S hI hV hY hi (by omega) d_Wh_becomeSum_93 (fun f10 H locs hI hV hf10 => ?_)
        have hF := fun q (h1 : q ≠ o i) (h2 : q ≠ r i) => (hf10 q h2).trans (hF q h1 h2)
        refine lv_aload_n hx hb d_Wh_becomeSum_94 rfl (lv_at hl 3 rfl) ?_
        refine lv_iload_n hx hb d_Wh_becomeSum_95 rfl (lv_at hl 2 rfl) ?_
        refine lv_iconst (v := nI 1) hx hb d_Wh_becomeSum_96 (by decide) ?_
        refine lv_iadd hx hb d_Wh_becomeSum_97 ?_
        refine hw_ti (nI_add _ _) ?_
        have htM : t = M := by omega
        have hV : AllW D L f10 o r N (va_up v i ((v i).1, va_up h M cr)) := by simpa only [hw_up_eq, bx_uu] using hV
        have hB2 : ∀ q, va_up h M cr q < nB := fun q => by by_cases e9 : q = M; (subst e9; rw [hw_up_eq]; omega); (rw [hw_up_ne e9]; exact hB q)
        refine hw_cV (As := [.int (nI (M + 1))]) (rest := []) S hI m_Wh_settle w_385 (c_Wh_settle l D t0 L _ _ o r N (va_up v i ((v i).1, va_up h M cr)) i (M + 1) hi hY hV (by omega) (by rw [hw_up_eq]; exact hB2)) (hV _ hi).1 rfl hl.1 rfl rfl (Nat.le_of_ble_eq_true rfl) d_Wh_becomeSum_98 ⟨Nat.le_of_ble_eq_true rfl, Nat.le_of_ble_eq_true rfl⟩ ⟨Nat.le_of_ble_eq_true rfl, Nat.le_of_ble_eq_true rfl⟩ (fun v9 L9 f11 H locs hp hI => ?_)
        refine W.cs (cells' := 0) (slots' := 0) rfl rfl ?_
        obtain ⟨hv9, rfl, n9, hn9, hk9, hV, hF9⟩ := hp
        cases hv9
        refine hw_stk (st' := []) rfl ?_
        rw [hw_up_eq] at hk9
        have hV : AllW D L f11 o r N (va_up v i (n9, va_up h M cr)) := by simpa only [hw_up_eq, bx_uu] using hV
        have hval : nvb nB (va_up h M cr) (M + 1) = x j + x k := by
          have e1 := nvb_padl (b := nB) hM1
          have e2 := nvb_padl (b := nB) hM2
          rw [(hO j hj).2.2.2] at e1
          rw [(hO k hk).2.2.2] at e2
          rw [nvb_upS, ← e1, ← e2, ← htM]
          exact hS
        exact hw_vret hx hb hr hlocks hI d_Wh_becomeSum_101 ⟨rfl, rfl, AllN.mk hO hV (by omega) (by rw [← hval]; exact hk9), fun q h1 h2 => (hF9 q h1).trans (hF q h1 h2)⟩
      · exact absurd c9 (by omega)
    | succ g ih =>
      intro t cr h f1 H locs ls htg hcr hB hh hS hV hF hI hl
      refine lv_iload hx hb d_Wh_becomeSum_24 (lv_at hl 0 rfl) ?_
      refine lv_iload_n hx hb d_Wh_becomeSum_26 rfl (lv_at hl 2 rfl) ?_
      refine hw_icmp_ge (tgt := 86) hx hb d_Wh_becomeSum_27 (by decide) (by omega) (by omega) (fun c12 => ?_) (fun c12 => ?_)
      · exact absurd c12 (by omega)
      · have ht := hh t (Nat.le_refl _)
        refine lv_aload_n hx hb d_Wh_becomeSum_30 rfl (lv_at hl 4 rfl) ?_
        refine lv_iload hx hb d_Wh_becomeSum_31 (lv_at hl 0 rfl) ?_
        refine hw_cV (As := [.int (nI t)]) (rest := []) S hI m_Wh_limbAt w_414 (c_Wh_limbAt l D t0 L _ _ o r N (va_up v i ((v i).1, h)) j t hj hY hV (by omega) (by rw [up_fst]; omega)) (hV _ hj).1 rfl hl.1 rfl rfl (Nat.le_of_ble_eq_true rfl) d_Wh_becomeSum_33 ⟨Nat.le_of_ble_eq_true rfl, Nat.le_of_ble_eq_true rfl⟩ ⟨Nat.le_of_ble_eq_true rfl, Nat.le_of_ble_eq_true rfl⟩ (fun v9 L9 f13 H locs hp hI => ?_)
        refine W.cs (cells' := 0) (slots' := 0) rfl rfl ?_
        obtain ⟨hv9, rfl, rfl⟩ := hp
        cases hv9
        refine hw_stk (st' := [.long (lN (padl (va_up v i ((v i).1, h) j) t))]) rfl ?_
        refine hw_tl (show _ = lN (padl (v j) t) from by rw [up_padl ht]) ?_
        refine lv_aload_n hx hb d_Wh_becomeSum_36 rfl (lv_at hl 5 rfl) ?_
        refine lv_iload hx hb d_Wh_becomeSum_37 (lv_at hl 0 rfl) ?_
        refine hw_cV (As := [.int (nI t)]) (rest := [.long (lN (padl (v j) t))]) S hI m_Wh_limbAt w_414 (c_Wh_limbAt l D t0 L _ _ o r N (va_up v i ((v i).1, h)) k t hk hY hV (by omega) (by rw [up_fst]; omega)) (hV _ hk).1 rfl hl.1 rfl rfl (Nat.le_of_ble_eq_true rfl) d_Wh_becomeSum_39 ⟨Nat.le_of_ble_eq_true rfl, Nat.le_of_ble_eq_true rfl⟩ ⟨Nat.le_of_ble_eq_true rfl, Nat.le_of_ble_eq_true rfl⟩ (fun v9 L9 f14 H locs hp hI => ?_)
        refine W.cs (cells' := 0) (slots' := 0) rfl rfl ?_
        obtain ⟨hv9, rfl, rfl⟩ := hp
        cases hv9
        refine hw_stk (st' := [.long (lN (padl (va_up v i ((v i).1, h) k) t)), .long (lN (padl (v j) t))]) rfl ?_
        refine hw_tl (show _ = lN (padl (v k) t) from by rw [up_padl ht]) ?_
        have hpj := padl_lt nB_pos (hO j hj).2.1 t
        have hpk := padl_lt nB_pos (hO k hk).2.1 t
        refine lv_ladd hx hb d_Wh_becomeSum_42 ?_
        refine hw_tl (lN_add _ _) ?_
        refine lv_lload hx hb d_Wh_becomeSum_43 (lv_at hl 1 rfl) ?_
        refine lv_ladd hx hb d_Wh_becomeSum_45 ?_
        refine hw_tl (lN_add _ _) ?_
        refine lv_lstore (lv' := [(7, .long (lN (((padl (v j) t) + (padl (v k) t)) + cr))), (6, .int (nI t)), (4, .long (lN cr)), (3, .int (nI M)), (0, .ref (o i)), (1, .ref (o j)), (2, .ref (o k))]) hx hb d_Wh_becomeSum_46 hl (by decide) rfl (fun ls hl => ?_)
        refine lv_lload hx hb d_Wh_becomeSum_48 (lv_at hl 0 rfl) ?_
        refine hw_ldc2 (v := lN nB) hx hb hown (hT _ w_56) d_Wh_becomeSum_50 ?_
        refine hw_l_lt (tgt := 61) hx hb d_Wh_becomeSum_53 d_Wh_becomeSum_54 (by decide) (fun c15 => ?_) (fun c15 => ?_)
        · have hc : padl (v j) t + padl (v k) t + cr < nB := (pk_lLT (by omega) (by omega)).mp c15
          refine lv_lconst (v := lN 0) hx hb d_Wh_becomeSum_61 rfl ?_
          refine lv_lstore (lv' := [(4, .long (lN 0)), (7, .long (lN (((padl (v j) t) + (padl (v k) t)) + cr))), (6, .int (nI t)), (3, .int (nI M)), (0, .ref (o i)), (1, .ref (o j)), (2, .ref (o k))]) hx hb d_Wh_becomeSum_62 hl (by decide) rfl (fun ls hl => ?_)
          refine lv_aload_n hx hb d_Wh_becomeSum_64 rfl (lv_at hl 4 rfl) ?_
          refine wh_limbs S hI hV hi d_Wh_becomeSum_65 ?_
          refine lv_iload hx hb d_Wh_becomeSum_68 (lv_at hl 2 rfl) ?_
          refine lv_lload hx hb d_Wh_becomeSum_70 (lv_at hl 1 rfl) ?_
          refine lv_lload hx hb d_Wh_becomeSum_72 (lv_at hl 0 rfl) ?_
          refine hw_ldc2 (v := lN nB) hx hb hown (hT _ w_56) d_Wh_becomeSum_74 ?_
          refine lv_lmul hx hb d_Wh_becomeSum_77 ?_
          refine hw_tl (lN_mul _ _) ?_
          refine lv_lsub hx hb d_Wh_becomeSum_78 ?_
          refine hw_tl (lN_sub (by omega)) ?_
          refine wh_st S hI hV hY hi (by omega) d_Wh_becomeSum_79 (fun f16 H locs hI hV hf16 => ?_)
          have hF := fun q (h1 : q ≠ o i) (h2 : q ≠ r i) => (hf16 q h2).trans (hF q h1 h2)
          have hV : AllW D L f16 o r N (va_up v i ((v i).1, va_up h t (padl (v j) t + padl (v k) t + cr - 0 * nB))) := by simpa only [hw_up_eq, bx_uu] using hV
          refine lv_iinc (v := nI (t + 1)) (lv' := [(6, .int (nI (t + 1))), (4, .long (lN 0)), (7, .long (lN (((padl (v j) t) + (padl (v k) t)) + cr))), (3, .int (nI M)), (0, .ref (o i)), (1, .ref (o j)), (2, .ref (o k))]) hx hb d_Wh_becomeSum_80 hl (k := 2) rfl (nI_1 _) (by decide) rfl (fun ls hl => ?_)
          refine lv_goto (tgt := 24) hx hb d_Wh_becomeSum_83 (by decide) ?_
          exact ih (t + 1) 0 (va_up h t (padl (v j) t + padl (v k) t + cr - 0 * nB)) _ _ _ _ (by omega) (by omega) (fun q => by by_cases e9 : q = t; (subst e9; rw [hw_up_eq]; omega); (rw [hw_up_ne e9]; exact hB q)) (fun q hq => by rw [hw_up_ne (by omega)]; exact hh q (by omega)) (by rw [nvb_digit (w := padl (v j) t + padl (v k) t) hS (by omega), nvb_succ, nvb_succ, Nat.add_mul]; omega) hV hF hI (lv_sub hl [0, 1, 3, 4, 5, 6] rfl)
        · have hc : nB ≤ padl (v j) t + padl (v k) t + cr := (pk_lLE (by omega) (by omega)).mp c15
          refine lv_lconst (v := lN 1) hx hb d_Wh_becomeSum_57 rfl ?_
          refine lv_goto (tgt := 62) hx hb d_Wh_becomeSum_58 (by decide) ?_
          refine lv_lstore (lv' := [(4, .long (lN 1)), (7, .long (lN (((padl (v j) t) + (padl (v k) t)) + cr))), (6, .int (nI t)), (3, .int (nI M)), (0, .ref (o i)), (1, .ref (o j)), (2, .ref (o k))]) hx hb d_Wh_becomeSum_62 hl (by decide) rfl (fun ls hl => ?_)
          refine lv_aload_n hx hb d_Wh_becomeSum_64 rfl (lv_at hl 4 rfl) ?_
          refine wh_limbs S hI hV hi d_Wh_becomeSum_65 ?_
          refine lv_iload hx hb d_Wh_becomeSum_68 (lv_at hl 2 rfl) ?_
          refine lv_lload hx hb d_Wh_becomeSum_70 (lv_at hl 1 rfl) ?_
          refine lv_lload hx hb d_Wh_becomeSum_72 (lv_at hl 0 rfl) ?_
          refine hw_ldc2 (v := lN nB) hx hb hown (hT _ w_56) d_Wh_becomeSum_74 ?_
          refine lv_lmul hx hb d_Wh_becomeSum_77 ?_
          refine hw_tl (lN_mul _ _) ?_
          refine lv_lsub hx hb d_Wh_becomeSum_78 ?_
          refine hw_tl (lN_sub (by omega)) ?_
          refine wh_st S hI hV hY hi (by omega) d_Wh_becomeSum_79 (fun f17 H locs hI hV hf17 => ?_)
          have hF := fun q (h1 : q ≠ o i) (h2 : q ≠ r i) => (hf17 q h2).trans (hF q h1 h2)
          have hV : AllW D L f17 o r N (va_up v i ((v i).1, va_up h t (padl (v j) t + padl (v k) t + cr - 1 * nB))) := by simpa only [hw_up_eq, bx_uu] using hV
          refine lv_iinc (v := nI (t + 1)) (lv' := [(6, .int (nI (t + 1))), (4, .long (lN 1)), (7, .long (lN (((padl (v j) t) + (padl (v k) t)) + cr))), (3, .int (nI M)), (0, .ref (o i)), (1, .ref (o j)), (2, .ref (o k))]) hx hb d_Wh_becomeSum_80 hl (k := 2) rfl (nI_1 _) (by decide) rfl (fun ls hl => ?_)
          refine lv_goto (tgt := 24) hx hb d_Wh_becomeSum_83 (by decide) ?_
          exact ih (t + 1) 1 (va_up h t (padl (v j) t + padl (v k) t + cr - 1 * nB)) _ _ _ _ (by omega) (by omega) (fun q => by by_cases e9 : q = t; (subst e9; rw [hw_up_eq]; omega); (rw [hw_up_ne e9]; exact hB q)) (fun q hq => by rw [hw_up_ne (by omega)]; exact hh q (by omega)) (by rw [nvb_digit (w := padl (v j) t + padl (v k) t) hS (by omega), nvb_succ, nvb_succ, Nat.add_mul]; omega) hV hF hI (lv_sub hl [0, 1, 3, 4, 5, 6] rfl)
  refine lv_lconst (v := lN 0) hx hb d_Wh_becomeSum_18 rfl ?_
  refine lv_lstore (lv' := [(4, .long (lN 0)), (3, .int (nI M)), (0, .ref (o i)), (1, .ref (o j)), (2, .ref (o k))]) hx hb d_Wh_becomeSum_19 hl (by decide) rfl (fun ls hl => ?_)
  refine lv_iconst (v := nI 0) hx hb d_Wh_becomeSum_21 (by decide) ?_
  refine lv_istore (lv' := [(6, .int (nI 0)), (4, .long (lN 0)), (3, .int (nI M)), (0, .ref (o i)), (1, .ref (o j)), (2, .ref (o k))]) hx hb d_Wh_becomeSum_22 hl (by decide) rfl (fun ls hl => ?_)
  exact loop M 0 0 (v i).2 _ _ _ _ (by omega) (by omega) (hO i hi).2.1 (fun _ _ => rfl) (by rw [nvb_zero, nvb_zero, nvb_zero]; rfl) (fun z hz => by by_cases e9 : z = i; (subst e9; rw [hw_up_eq]; exact hV z hz); (rw [hw_up_ne e9]; exact hV z hz)) (fun _ _ _ => rfl) hI hl
end
section
set_option maxHeartbeats 4000000 in
set_option maxRecDepth 100000 in
theorem c_Wh_becomeDifference (l : Launch) (D : va_G) (t0 : Nat) (L : List Nat) (f : Nat → va_E) (sz : Nat) (o r : Nat → Nat) (N : Nat) (x : Nat → Nat) (i : Nat) (j k : Nat) (hi : i < N) (hY : Lay o r N) (hN : AllN D L f o r N x) (hj : j < N) (hk : k < N) (hle : x k ≤ x j) : Met l y_Wh_becomeDifference (Cond.code y_Wh_becomeDifference b_Wh_becomeDifference 9 none :: TT) ({ frames := 1, cells := 0, slots := 0, locals := 21 } : Room) (hw_Pc t0 [.ref (o i), .ref (o j), .ref (o k)] D L f sz) (hw_Q D L sz (fun oc L' f' => oc = .returned none ∧ L = L' ∧ AllN D L f' o r N (va_up x i (x j - x k)) ∧ ∀ q, q ≠ o i → q ≠ r i → f' q = f q)) 0 0 (hw_A L sz) := by
  refine Met.ofW (cc := b_Wh_becomeDifference) (maxL := 9) (ret := none) (by decide) rfl ?_
  intro p e s m args below meth c s₁ B hml hv
  obtain ⟨rfl, rfl, hI⟩ := hw_start hv
  clear hv
  have hx := B.exec
  have hb := B.bytes
  have hr := B.returns
  have hlocks := B.notSynchronized
  have hown : s.vm.findClass "WallFractions$Whole" = some m.cls := findClass_of_methodNamed B.named
  have hT : ∀ w ∈ TT, w.before ([.ref (o i), .ref (o j), .ref (o k)]).toArray s = true := fun w h => atoms_spec (ws := (Cond.code y_Wh_becomeDifference b_Wh_becomeDifference 9 none :: TT)) B.pre w (List.mem_cons_of_mem _ h)
  have S : CallFix p m c b_Wh_becomeDifference 9 s ([.ref (o i), .ref (o j), .ref (o k)]).toArray TT "WallFractions$Whole" := ⟨hx, hb, hml, hown, hT⟩
  have hl := lv_entry ([.ref (o i), .ref (o j), .ref (o k)]) (n := 9) (Nat.le_of_ble_eq_true rfl)
  rw [lg_entry_eq]
  generalize (lg_sl ([.ref (o i), .ref (o j), .ref (o k)]) ++ List.replicate (9 - (lg_sl ([.ref (o i), .ref (o j), .ref (o k)])).length) Slot.unset).toArray = ls at hl ⊢
  have hl : lv_has ls 9 [(0, .ref (o i)), (1, .ref (o j)), (2, .ref (o k))] := hl
  skip
  obtain ⟨v, hV, hO⟩ := hN
  have hnB : nB = 1000000000 := rfl
  have h1 := (hO j hj).1
  have h2 := (hO k hk).1
  have h3 : (v k).1 ≤ (v j).1 := ((hO k hk).2.size_le nB1).mpr (Nat.lt_of_le_of_lt hle (hO j hj).2.lt)
  obtain ⟨M, hM⟩ : ∃ M, M = (v j).1 := ⟨_, rfl⟩
  have loop : ∀ (g t bw : Nat) (h : Nat → Nat) (f1 : Nat → va_E) (H : Heap) (locs : List Loc) (ls : Array Slot), t + g = M → bw ≤ 1 → (∀ q, h q < nB) → (∀ q, t ≤ q → h q = (v i).2 q) → nvb nB h t + nvb nB (padl (v k)) t = nvb nB (v j).2 t + bw * nB ^ t → AllW D L f1 o r N (va_up v i ((v i).1, h)) → (∀ q, q ≠ o i → q ≠ r i → f1 q = f q) → hw_I D t0 (hw_A L s.heap.size) s L f1 H locs → lv_has ls 9 [(6, .int (nI t)), (4, .long (lN bw)), (3, .int (nI M)), (0, .ref (o i)), (1, .ref (o j)), (2, .ref (o k))] → W p l e (headSpec (Cond.code y_Wh_becomeDifference b_Wh_becomeDifference 9 none :: TT) ({ frames := 1, cells := 0, slots := 0, locals := 21 } : Room)).room s m ([.ref (o i), .ref (o j), .ref (o k)]).toArray below meth c H locs 0 0 (MQ below (hw_Q D L s.heap.size (fun oc L' f' => oc = .returned none ∧ L = L' ∧ AllN D L f' o r N (va_up x i (x j - x k)) ∧ ∀ q, q ≠ o i → q ≠ r i → f' q = f q)) ([.ref (o i), .ref (o j), .ref (o k)]).toArray s 0 0 (hw_A L s.heap.size)) (F0 m 11 ls []) := by
    intro g
    induction g with
    | zero =>
      intro t bw h f1 H locs ls htg hbw hB hh hS hV hF hI hl
      refine lv_iload hx hb d_Wh_becomeDifference_11 (lv_at hl 0 rfl) ?_
      refine lv_iload_n hx hb d_Wh_becomeDifference_13 rfl (lv_at hl 2 rfl) ?_
      refine hw_icmp_ge (tgt := 72) hx hb d_Wh_becomeDifference_14 (by decide) (by omega) (by omega) (fun c1 => ?_) (fun c1 => ?_)
      · refine lv_aload_n hx hb d_Wh_becomeDifference_72 rfl (lv_at hl 3 rfl) ?_
        refine lv_iload_n hx hb d_Wh_becomeDifference_73 rfl (lv_at hl 2 rfl) ?_
        have htM : t = M := by omega
        subst htM
        refine hw_cV (As := [.int (nI t)]) (rest := []) S hI m_Wh_settle w_385 (c_Wh_settle l D t0 L _ _ o r N (va_up v i ((v i).1, h)) i t hi hY hV (by omega) (by rw [hw_up_eq]; exact hB)) (hV _ hi).1 rfl hl.1 rfl rfl (Nat.le_of_ble_eq_true rfl) d_Wh_becomeDifference_74 ⟨Nat.le_of_ble_eq_true rfl, Nat.le_of_ble_eq_true rfl⟩ ⟨Nat.le_of_ble_eq_true rfl, Nat.le_of_ble_eq_true rfl⟩ (fun v9 L9 f2 H locs hp hI => ?_)
        refine W.cs (cells' := 0) (slots' := 0) rfl rfl ?_
        obtain ⟨hv9, rfl, n9, hn9, hk9, hV, hF9⟩ := hp
        cases hv9
        refine hw_stk (st' := []) rfl ?_
        rw [hw_up_eq] at hk9
        have hV : AllW D L f2 o r N (va_up v i (n9, h)) := by simpa only [hw_up_eq, bx_uu] using hV
        have hval : nvb nB h t = x j - x k := by
          have e2 := nvb_padl (b := nB) h3
          rw [(hO k hk).2.2.2] at e2
          have e1 := (hO j hj).2.2.2
          have e3 := nvb_lt (b := nB) (f := h) (n := t) (fun q _ => hB q)
          rw [← hM] at e1 e2
          rw [e1, e2] at hS
          have e4 : bw = 0 := by
            rcases Nat.eq_zero_or_pos bw with q | q
            · exact q
            · have q1 : bw = 1 := by omega
              rw [q1, Nat.one_mul] at hS; omega
          rw [e4, Nat.zero_mul] at hS
          omega
        exact hw_vret hx hb hr hlocks hI d_Wh_becomeDifference_77 ⟨rfl, rfl, AllN.mk hO hV (by omega) (by rw [← hval]; exact hk9), fun q h1 h2 => (hF9 q h1).trans (hF q h1 h2)⟩
      · exact absurd c1 (by omega)
    | succ g ih =>
      intro t bw h f1 H locs ls htg hbw hB hh hS hV hF hI hl
      refine lv_iload hx hb d_Wh_becomeDifference_11 (lv_at hl 0 rfl) ?_
      refine lv_iload_n hx hb d_Wh_becomeDifference_13 rfl (lv_at hl 2 rfl) ?_
      refine hw_icmp_ge (tgt := 72) hx hb d_Wh_becomeDifference_14 (by decide) (by omega) (by omega) (fun c3 => ?_) (fun c3 => ?_)
      · exact absurd c3 (by omega)
      · have ht := hh t (Nat.le_refl _)
        refine lv_aload_n hx hb d_Wh_becomeDifference_17 rfl (lv_at hl 4 rfl) ?_
        refine wh_limbs S hI hV hj d_Wh_becomeDifference_18 ?_
        refine lv_iload hx hb d_Wh_becomeDifference_21 (lv_at hl 0 rfl) ?_
        refine wh_ld S hI hV hj (by omega) d_Wh_becomeDifference_23 ?_
        refine hw_tl (show _ = lN ((v j).2 t) from by rw [up_snd ht]) ?_
        refine lv_aload_n hx hb d_Wh_becomeDifference_24 rfl (lv_at hl 5 rfl) ?_
        refine lv_iload hx hb d_Wh_becomeDifference_25 (lv_at hl 0 rfl) ?_
        refine hw_cV (As := [.int (nI t)]) (rest := [.long (lN ((v j).2 t))]) S hI m_Wh_limbAt w_414 (c_Wh_limbAt l D t0 L _ _ o r N (va_up v i ((v i).1, h)) k t hk hY hV (by omega) (by rw [up_fst]; omega)) (hV _ hk).1 rfl hl.1 rfl rfl (Nat.le_of_ble_eq_true rfl) d_Wh_becomeDifference_27 ⟨Nat.le_of_ble_eq_true rfl, Nat.le_of_ble_eq_true rfl⟩ ⟨Nat.le_of_ble_eq_true rfl, Nat.le_of_ble_eq_true rfl⟩ (fun v9 L9 f4 H locs hp hI => ?_)
        refine W.cs (cells' := 0) (slots' := 0) rfl rfl ?_
        obtain ⟨hv9, rfl, rfl⟩ := hp
        cases hv9
        refine hw_stk (st' := [.long (lN (padl (va_up v i ((v i).1, h) k) t)), .long (lN ((v j).2 t))]) rfl ?_
        refine hw_tl (show _ = lN (padl (v k) t) from by rw [up_padl ht]) ?_
        have hpk := padl_lt nB_pos (hO k hk).2.1 t
        have hpj := (hO j hj).2.1 t
        refine lv_lsub hx hb d_Wh_becomeDifference_30 ?_
        refine lv_lload hx hb d_Wh_becomeDifference_31 (lv_at hl 1 rfl) ?_
        refine lv_lsub hx hb d_Wh_becomeDifference_33 ?_
        refine lv_lstore (lv' := [(7, .long (((lN ((v j).2 t)) - (lN (padl (v k) t))) - (lN bw))), (6, .int (nI t)), (4, .long (lN bw)), (3, .int (nI M)), (0, .ref (o i)), (1, .ref (o j)), (2, .ref (o k))]) hx hb d_Wh_becomeDifference_34 hl (by decide) rfl (fun ls hl => ?_)
        refine lv_lload hx hb d_Wh_becomeDifference_36 (lv_at hl 0 rfl) ?_
        refine lv_lconst (v := lN 0) hx hb d_Wh_becomeDifference_38 rfl ?_
        refine hw_l_ge (tgt := 47) hx hb d_Wh_becomeDifference_39 d_Wh_becomeDifference_40 (by decide) (fun c5 => ?_) (fun c5 => ?_)
        · have hc : padl (v k) t + bw ≤ (v j).2 t := (lN_sub3_ge (by omega) (by omega) (by omega)).mp c5
          refine lv_lconst (v := lN 0) hx hb d_Wh_becomeDifference_47 rfl ?_
          refine lv_lstore (lv' := [(4, .long (lN 0)), (7, .long (((lN ((v j).2 t)) - (lN (padl (v k) t))) - (lN bw))), (6, .int (nI t)), (3, .int (nI M)), (0, .ref (o i)), (1, .ref (o j)), (2, .ref (o k))]) hx hb d_Wh_becomeDifference_48 hl (by decide) rfl (fun ls hl => ?_)
          refine lv_aload_n hx hb d_Wh_becomeDifference_50 rfl (lv_at hl 4 rfl) ?_
          refine wh_limbs S hI hV hi d_Wh_becomeDifference_51 ?_
          refine lv_iload hx hb d_Wh_becomeDifference_54 (lv_at hl 2 rfl) ?_
          refine lv_lload hx hb d_Wh_becomeDifference_56 (lv_at hl 1 rfl) ?_
          refine lv_lload hx hb d_Wh_becomeDifference_58 (lv_at hl 0 rfl) ?_
          refine hw_ldc2 (v := lN nB) hx hb hown (hT _ w_56) d_Wh_becomeDifference_60 ?_
          refine lv_lmul hx hb d_Wh_becomeDifference_63 ?_
          refine hw_tl (lN_mul _ _) ?_
          refine lv_ladd hx hb d_Wh_becomeDifference_64 ?_
          refine hw_tl (show _ = lN ((v j).2 t - padl (v k) t - bw) from by rw [lN_sub3 hc, lN_add, Nat.zero_mul, Nat.add_zero]) ?_
          refine wh_st S hI hV hY hi (by omega) d_Wh_becomeDifference_65 (fun f6 H locs hI hV hf6 => ?_)
          have hF := fun q (h1 : q ≠ o i) (h2 : q ≠ r i) => (hf6 q h2).trans (hF q h1 h2)
          have hV : AllW D L f6 o r N (va_up v i ((v i).1, va_up h t ((v j).2 t - padl (v k) t - bw))) := by simpa only [hw_up_eq, bx_uu] using hV
          refine lv_iinc (v := nI (t + 1)) (lv' := [(6, .int (nI (t + 1))), (4, .long (lN 0)), (7, .long (((lN ((v j).2 t)) - (lN (padl (v k) t))) - (lN bw))), (3, .int (nI M)), (0, .ref (o i)), (1, .ref (o j)), (2, .ref (o k))]) hx hb d_Wh_becomeDifference_66 hl (k := 2) rfl (nI_1 _) (by decide) rfl (fun ls hl => ?_)
          refine lv_goto (tgt := 11) hx hb d_Wh_becomeDifference_69 (by decide) ?_
          exact ih (t + 1) 0 (va_up h t ((v j).2 t - padl (v k) t - bw)) _ _ _ _ (by omega) (by omega) (fun q => by by_cases e9 : q = t; (subst e9; rw [hw_up_eq]; omega); (rw [hw_up_ne e9]; exact hB q)) (fun q hq => by rw [hw_up_ne (by omega)]; exact hh q (by omega)) (by rw [nvb_succ nB (padl (v k)) t, nvb_succ nB (v j).2 t]; exact nvb_borrow (x := (v j).2 t) (y := padl (v k) t) hS (by omega)) hV hF hI (lv_sub hl [0, 1, 3, 4, 5, 6] rfl)
        · have hc : (v j).2 t < padl (v k) t + bw := Nat.not_le.mp (fun q => Int64.not_le.mpr c5 ((lN_sub3_ge (by omega) (by omega) (by omega)).mpr q))
          refine lv_lconst (v := lN 1) hx hb d_Wh_becomeDifference_43 rfl ?_
          refine lv_goto (tgt := 48) hx hb d_Wh_becomeDifference_44 (by decide) ?_
          refine lv_lstore (lv' := [(4, .long (lN 1)), (7, .long (((lN ((v j).2 t)) - (lN (padl (v k) t))) - (lN bw))), (6, .int (nI t)), (3, .int (nI M)), (0, .ref (o i)), (1, .ref (o j)), (2, .ref (o k))]) hx hb d_Wh_becomeDifference_48 hl (by decide) rfl (fun ls hl => ?_)
          refine lv_aload_n hx hb d_Wh_becomeDifference_50 rfl (lv_at hl 4 rfl) ?_
          refine wh_limbs S hI hV hi d_Wh_becomeDifference_51 ?_
          refine lv_iload hx hb d_Wh_becomeDifference_54 (lv_at hl 2 rfl) ?_
          refine lv_lload hx hb d_Wh_becomeDifference_56 (lv_at hl 1 rfl) ?_
          refine lv_lload hx hb d_Wh_becomeDifference_58 (lv_at hl 0 rfl) ?_
          refine hw_ldc2 (v := lN nB) hx hb hown (hT _ w_56) d_Wh_becomeDifference_60 ?_
          refine lv_lmul hx hb d_Wh_becomeDifference_63 ?_
          refine hw_tl (lN_mul _ _) ?_
          refine lv_ladd hx hb d_Wh_becomeDifference_64 ?_
          refine hw_tl (show _ = lN ((v j).2 t + nB - padl (v k) t - bw) from by rw [Nat.one_mul, lN_sub3w (by omega)]) ?_
          refine wh_st S hI hV hY hi (by omega) d_Wh_becomeDifference_65 (fun f7 H locs hI hV hf7 => ?_)
          have hF := fun q (h1 : q ≠ o i) (h2 : q ≠ r i) => (hf7 q h2).trans (hF q h1 h2)
          have hV : AllW D L f7 o r N (va_up v i ((v i).1, va_up h t ((v j).2 t + nB - padl (v k) t - bw))) := by simpa only [hw_up_eq, bx_uu] using hV
          refine lv_iinc (v := nI (t + 1)) (lv' := [(6, .int (nI (t + 1))), (4, .long (lN 1)), (7, .long (((lN ((v j).2 t)) - (lN (padl (v k) t))) - (lN bw))), (3, .int (nI M)), (0, .ref (o i)), (1, .ref (o j)), (2, .ref (o k))]) hx hb d_Wh_becomeDifference_66 hl (k := 2) rfl (nI_1 _) (by decide) rfl (fun ls hl => ?_)
          refine lv_goto (tgt := 11) hx hb d_Wh_becomeDifference_69 (by decide) ?_
          exact ih (t + 1) 1 (va_up h t ((v j).2 t + nB - padl (v k) t - bw)) _ _ _ _ (by omega) (by omega) (fun q => by by_cases e9 : q = t; (subst e9; rw [hw_up_eq]; omega); (rw [hw_up_ne e9]; exact hB q)) (fun q hq => by rw [hw_up_ne (by omega)]; exact hh q (by omega)) (by rw [nvb_succ nB (padl (v k)) t, nvb_succ nB (v j).2 t]; exact nvb_borrow (x := (v j).2 t) (y := padl (v k) t) hS (by omega)) hV hF hI (lv_sub hl [0, 1, 3, 4, 5, 6] rfl)
  refine lv_aload_n hx hb d_Wh_becomeDifference_0 rfl (lv_at hl 1 rfl) ?_
  refine wh_size S hI hV hj d_Wh_becomeDifference_1 ?_
  refine hw_ti (show _ = nI M from by rw [hM]) ?_
  refine lv_istore_n (lv' := [(3, .int (nI M)), (0, .ref (o i)), (1, .ref (o j)), (2, .ref (o k))]) hx hb d_Wh_becomeDifference_4 rfl hl (by decide) rfl (fun ls hl => ?_)
  refine lv_lconst (v := lN 0) hx hb d_Wh_becomeDifference_5 rfl ?_
  refine lv_lstore (lv' := [(4, .long (lN 0)), (3, .int (nI M)), (0, .ref (o i)), (1, .ref (o j)), (2, .ref (o k))]) hx hb d_Wh_becomeDifference_6 hl (by decide) rfl (fun ls hl => ?_)
  refine lv_iconst (v := nI 0) hx hb d_Wh_becomeDifference_8 (by decide) ?_
  refine lv_istore (lv' := [(6, .int (nI 0)), (4, .long (lN 0)), (3, .int (nI M)), (0, .ref (o i)), (1, .ref (o j)), (2, .ref (o k))]) hx hb d_Wh_becomeDifference_9 hl (by decide) rfl (fun ls hl => ?_)
  exact loop M 0 0 (v i).2 _ _ _ _ (by omega) (by omega) (hO i hi).2.1 (fun _ _ => rfl) (by rw [nvb_zero, nvb_zero, nvb_zero]; rfl) (fun z hz => by by_cases e9 : z = i; (subst e9; rw [hw_up_eq]; exact hV z hz); (rw [hw_up_ne e9]; exact hV z hz)) (fun _ _ _ => rfl) hI hl
set_option maxHeartbeats 4000000 in
set_option maxRecDepth 100000 in
theorem c_Wh_grow (l : Launch) (D : va_G) (t0 : Nat) (L : List Nat) (f : Nat → va_E) (sz : Nat) (o r : Nat → Nat) (N : Nat) (x : Nat → Nat) (i : Nat) (F E : Nat) (hi : i < N) (hY : Lay o r N) (hN : AllN D L f o r N x) (hx40 : x i < nB ^ 40) (hFB : F ≤ nB) (hEB : E < nB) : Met l y_Wh_grow (Cond.code y_Wh_grow b_Wh_grow 10 none :: TT) ({ frames := 7, cells := 0, slots := 0, locals := 130 } : Room) (hw_Pc t0 [.ref (o i), .long (lN F), .long (lN E)] D L f sz) (hw_Q D L sz (fun oc L' f' => oc = .returned none ∧ L = L' ∧ AllN D L f' o r N (va_up x i (x i * F + E)) ∧ ∀ q, q ≠ o i → q ≠ r i → f' q = f q)) 0 0 (hw_A L sz) := by
  refine Met.ofW (cc := b_Wh_grow) (maxL := 10) (ret := none) (by decide) rfl ?_
  intro p e s m args below meth c s₁ B hml hv
  obtain ⟨rfl, rfl, hI⟩ := hw_start hv
  clear hv
  have hx := B.exec
  have hb := B.bytes
  have hr := B.returns
  have hlocks := B.notSynchronized
  have hown : s.vm.findClass "WallFractions$Whole" = some m.cls := findClass_of_methodNamed B.named
  have hT : ∀ w ∈ TT, w.before ([.ref (o i), .long (lN F), .long (lN E)]).toArray s = true := fun w h => atoms_spec (ws := (Cond.code y_Wh_grow b_Wh_grow 10 none :: TT)) B.pre w (List.mem_cons_of_mem _ h)
  have S : CallFix p m c b_Wh_grow 10 s ([.ref (o i), .long (lN F), .long (lN E)]).toArray TT "WallFractions$Whole" := ⟨hx, hb, hml, hown, hT⟩
  have hl := lv_entry ([.ref (o i), .long (lN F), .long (lN E)]) (n := 10) (Nat.le_of_ble_eq_true rfl)
  rw [lg_entry_eq]
  generalize (lg_sl ([.ref (o i), .long (lN F), .long (lN E)]) ++ List.replicate (10 - (lg_sl ([.ref (o i), .long (lN F), .long (lN E)])).length) Slot.unset).toArray = ls at hl ⊢
  have hl : lv_has ls 10 [(0, .ref (o i)), (1, .long (lN F)), (3, .long (lN E))] := hl
  skip
  obtain ⟨v, hV, hO⟩ := hN
  have hnB : nB = 1000000000 := rfl
  have h1 : (v i).1 ≤ 40 := ((hO i hi).2.size_le nB1).mpr hx40
  obtain ⟨M, hM⟩ : ∃ M, M = (v i).1 := ⟨_, rfl⟩
  refine lv_aload_n hx hb d_Wh_grow_0 rfl (lv_at hl 0 rfl) ?_
  refine wh_size S hI hV hi d_Wh_grow_1 ?_
  refine hw_ti (show _ = nI M from by rw [hM]) ?_
  refine lv_iconst (v := nI 1) hx hb d_Wh_grow_4 (by decide) ?_
  refine lv_iadd hx hb d_Wh_grow_5 ?_
  refine hw_ti (nI_add _ _) ?_
  refine hw_cS (As := [.int (nI (M + 1))]) (rest := []) S hI m_Wh_requireRoom w_379 (c_Wh_requireRoom l D t0 L _ _ (M + 1) (by omega)) hl.1 rfl rfl (Nat.le_of_ble_eq_true rfl) d_Wh_grow_6 ⟨Nat.le_of_ble_eq_true rfl, Nat.le_of_ble_eq_true rfl⟩ ⟨Nat.le_of_ble_eq_true rfl, Nat.le_of_ble_eq_true rfl⟩ (fun v9 L9 f8 H locs hp hI => ?_)
  refine W.cs (cells' := 0) (slots' := 0) rfl rfl ?_
  obtain ⟨hv9, rfl, rfl⟩ := hp
  cases hv9
  refine hw_stk (st' := []) rfl ?_
  have loop : ∀ (g t cr : Nat) (h : Nat → Nat) (f1 : Nat → va_E) (H : Heap) (locs : List Loc) (ls : Array Slot), t + g = M → cr < nB → (∀ q, h q < nB) → (∀ q, t ≤ q → h q = (v i).2 q) → nvb nB h t + cr * nB ^ t = nvb nB (v i).2 t * F + E → AllW D L f1 o r N (va_up v i ((v i).1, h)) → (∀ q, q ≠ o i → q ≠ r i → f1 q = f q) → hw_I D t0 (hw_A L s.heap.size) s L f1 H locs → lv_has ls 10 [(7, .int (nI t)), (5, .long (lN cr)), (0, .ref (o i)), (1, .long (lN F)), (3, .long (lN E))] → W p l e (headSpec (Cond.code y_Wh_grow b_Wh_grow 10 none :: TT) ({ frames := 7, cells := 0, slots := 0, locals := 130 } : Room)).room s m ([.ref (o i), .long (lN F), .long (lN E)]).toArray below meth c H locs 0 0 (MQ below (hw_Q D L s.heap.size (fun oc L' f' => oc = .returned none ∧ L = L' ∧ AllN D L f' o r N (va_up x i (x i * F + E)) ∧ ∀ q, q ≠ o i → q ≠ r i → f' q = f q)) ([.ref (o i), .long (lN F), .long (lN E)]).toArray s 0 0 (hw_A L s.heap.size)) (F0 m 15 ls []) := by
    intro g
    induction g with
    | zero =>
      intro t cr h f1 H locs ls htg hcr hB hh hS hV hF hI hl
      refine lv_iload hx hb d_Wh_grow_15 (lv_at hl 0 rfl) ?_
      refine lv_aload_n hx hb d_Wh_grow_17 rfl (lv_at hl 2 rfl) ?_
      refine wh_size S hI hV hi d_Wh_grow_18 ?_
      refine hw_ti (show _ = nI M from by rw [hw_up_eq, hM]) ?_
      refine hw_icmp_ge (tgt := 68) hx hb d_Wh_grow_21 (by decide) (by omega) (by omega) (fun c9 => ?_) (fun c9 => ?_)
      · refine lv_aload_n hx hb d_Wh_grow_68 rfl (lv_at hl 2 rfl) ?_
        refine wh_limbs S hI hV hi d_Wh_grow_69 ?_
        refine lv_aload_n hx hb d_Wh_grow_72 rfl (lv_at hl 2 rfl) ?_
        refine wh_size S hI hV hi d_Wh_grow_73 ?_
        refine hw_ti (show _ = nI M from by rw [hw_up_eq, hM]) ?_
        refine lv_lload hx hb d_Wh_grow_76 (lv_at hl 1 rfl) ?_
        refine wh_st S hI hV hY hi (by omega) d_Wh_grow_78 (fun f10 H locs hI hV hf10 => ?_)
        have hF := fun q (h1 : q ≠ o i) (h2 : q ≠ r i) => (hf10 q h2).trans (hF q h1 h2)
        have hV : AllW D L f10 o r N (va_up v i ((v i).1, va_up h M cr)) := by simpa only [hw_up_eq, bx_uu] using hV
        refine lv_aload_n hx hb d_Wh_grow_79 rfl (lv_at hl 2 rfl) ?_
        refine lv_aload_n hx hb d_Wh_grow_80 rfl (lv_at hl 2 rfl) ?_
        refine wh_size S hI hV hi d_Wh_grow_81 ?_
        refine hw_ti (show _ = nI M from by rw [hw_up_eq, hM]) ?_
        refine lv_iconst (v := nI 1) hx hb d_Wh_grow_84 (by decide) ?_
        refine lv_iadd hx hb d_Wh_grow_85 ?_
        refine hw_ti (nI_add _ _) ?_
        have htM : t = M := by omega
        have hB2 : ∀ q, va_up h M cr q < nB := (fun q => by by_cases e9 : q = M; (subst e9; rw [hw_up_eq]; exact hcr); (rw [hw_up_ne e9]; exact hB q))
        refine hw_cV (As := [.int (nI (M + 1))]) (rest := []) S hI m_Wh_settle w_385 (c_Wh_settle l D t0 L _ _ o r N (va_up v i ((v i).1, va_up h M cr)) i (M + 1) hi hY hV (by omega) (by rw [hw_up_eq]; exact hB2)) (hV _ hi).1 rfl hl.1 rfl rfl (Nat.le_of_ble_eq_true rfl) d_Wh_grow_86 ⟨Nat.le_of_ble_eq_true rfl, Nat.le_of_ble_eq_true rfl⟩ ⟨Nat.le_of_ble_eq_true rfl, Nat.le_of_ble_eq_true rfl⟩ (fun v9 L9 f11 H locs hp hI => ?_)
        refine W.cs (cells' := 0) (slots' := 0) rfl rfl ?_
        obtain ⟨hv9, rfl, n9, hn9, hk9, hV, hF9⟩ := hp
        cases hv9
        refine hw_stk (st' := []) rfl ?_
        rw [hw_up_eq] at hk9
        have hV : AllW D L f11 o r N (va_up v i (n9, va_up h M cr)) := by simpa only [hw_up_eq, bx_uu] using hV
        have hval : nvb nB (va_up h M cr) (M + 1) = x i * F + E := by
          rw [nvb_upS, ← (hO i hi).2.2.2, ← hM, ← htM]
          exact hS
        exact hw_vret hx hb hr hlocks hI d_Wh_grow_89 ⟨rfl, rfl, AllN.mk hO hV (by omega) (by rw [← hval]; exact hk9), fun q h1 h2 => (hF9 q h1).trans (hF q h1 h2)⟩
      · exact absurd c9 (by omega)
    | succ g ih =>
      intro t cr h f1 H locs ls htg hcr hB hh hS hV hF hI hl
      refine lv_iload hx hb d_Wh_grow_15 (lv_at hl 0 rfl) ?_
      refine lv_aload_n hx hb d_Wh_grow_17 rfl (lv_at hl 2 rfl) ?_
      refine wh_size S hI hV hi d_Wh_grow_18 ?_
      refine hw_ti (show _ = nI M from by rw [hw_up_eq, hM]) ?_
      refine hw_icmp_ge (tgt := 68) hx hb d_Wh_grow_21 (by decide) (by omega) (by omega) (fun c12 => ?_) (fun c12 => ?_)
      · exact absurd c12 (by omega)
      · have ht := hh t (Nat.le_refl _)
        have hvt := (hO i hi).2.1 t
        have hpr : (v i).2 t * F ≤ (nB - 1) * nB := Nat.mul_le_mul (by omega) hFB
        have hsm : (v i).2 t * F + cr < nB * nB := by rw [Nat.sub_mul, Nat.one_mul] at hpr; have : nB ≤ nB * nB := Nat.le_mul_of_pos_left _ nB_pos; omega
        have hnn : nB * nB = 1000000000000000000 := rfl
        have hq : ((v i).2 t * F + cr) / nB < nB := (Nat.div_lt_iff_lt_mul nB_pos).mpr hsm
        have hdm := Nat.div_add_mod ((v i).2 t * F + cr) nB
        have hml9 := Nat.mod_lt ((v i).2 t * F + cr) nB_pos
        rw [Nat.mul_comm] at hdm
        refine lv_aload_n hx hb d_Wh_grow_24 rfl (lv_at hl 2 rfl) ?_
        refine wh_limbs S hI hV hi d_Wh_grow_25 ?_
        refine lv_iload hx hb d_Wh_grow_28 (lv_at hl 0 rfl) ?_
        refine wh_ld S hI hV hi (by omega) d_Wh_grow_30 ?_
        refine hw_tl (show _ = lN ((v i).2 t) from by rw [hw_up_eq, ← ht]) ?_
        refine lv_lload_n hx hb d_Wh_grow_31 rfl (lv_at hl 3 rfl) ?_
        refine lv_lmul hx hb d_Wh_grow_32 ?_
        refine hw_tl (lN_mul _ _) ?_
        refine lv_lload hx hb d_Wh_grow_33 (lv_at hl 1 rfl) ?_
        refine lv_ladd hx hb d_Wh_grow_35 ?_
        refine hw_tl (lN_add _ _) ?_
        refine lv_lstore (lv' := [(8, .long (lN ((((v i).2 t) * F) + cr))), (7, .int (nI t)), (5, .long (lN cr)), (0, .ref (o i)), (1, .long (lN F)), (3, .long (lN E))]) hx hb d_Wh_grow_36 hl (by decide) rfl (fun ls hl => ?_)
        refine lv_lload hx hb d_Wh_grow_38 (lv_at hl 0 rfl) ?_
        refine hw_ldc2 (v := lN nB) hx hb hown (hT _ w_56) d_Wh_grow_40 ?_
        refine lv_ldiv hx hb d_Wh_grow_43 (by intro h9; have h8 := (pk_lEQ (b := 0) (by omega) (by decide)).mp h9; omega) ?_
        refine hw_tl (pk_lDiv (by omega) (by omega) (by omega)) ?_
        refine lv_lstore (lv' := [(5, .long (lN (((((v i).2 t) * F) + cr) / nB))), (8, .long (lN ((((v i).2 t) * F) + cr))), (7, .int (nI t)), (0, .ref (o i)), (1, .long (lN F)), (3, .long (lN E))]) hx hb d_Wh_grow_44 hl (by decide) rfl (fun ls hl => ?_)
        refine lv_aload_n hx hb d_Wh_grow_46 rfl (lv_at hl 3 rfl) ?_
        refine wh_limbs S hI hV hi d_Wh_grow_47 ?_
        refine lv_iload hx hb d_Wh_grow_50 (lv_at hl 2 rfl) ?_
        refine lv_lload hx hb d_Wh_grow_52 (lv_at hl 1 rfl) ?_
        refine lv_lload hx hb d_Wh_grow_54 (lv_at hl 0 rfl) ?_
        refine hw_ldc2 (v := lN nB) hx hb hown (hT _ w_56) d_Wh_grow_56 ?_
        refine lv_lmul hx hb d_Wh_grow_59 ?_
        refine hw_tl (lN_mul _ _) ?_
        refine lv_lsub hx hb d_Wh_grow_60 ?_
        refine hw_tl (lN_sub (by omega)) ?_
        refine wh_st S hI hV hY hi (by omega) d_Wh_grow_61 (fun f13 H locs hI hV hf13 => ?_)
        have hF := fun q (h1 : q ≠ o i) (h2 : q ≠ r i) => (hf13 q h2).trans (hF q h1 h2)
        have hV : AllW D L f13 o r N (va_up v i ((v i).1, va_up h t ((v i).2 t * F + cr - ((v i).2 t * F + cr) / nB * nB))) := by simpa only [hw_up_eq, bx_uu] using hV
        refine lv_iinc (v := nI (t + 1)) (lv' := [(7, .int (nI (t + 1))), (5, .long (lN (((((v i).2 t) * F) + cr) / nB))), (8, .long (lN ((((v i).2 t) * F) + cr))), (0, .ref (o i)), (1, .long (lN F)), (3, .long (lN E))]) hx hb d_Wh_grow_62 hl (k := 2) rfl (nI_1 _) (by decide) rfl (fun ls hl => ?_)
        refine lv_goto (tgt := 15) hx hb d_Wh_grow_65 (by decide) ?_
        exact ih (t + 1) (((v i).2 t * F + cr) / nB) (va_up h t ((v i).2 t * F + cr - ((v i).2 t * F + cr) / nB * nB)) _ _ _ _ (by omega) hq (fun q => by by_cases e9 : q = t; (subst e9; rw [hw_up_eq]; omega); (rw [hw_up_ne e9]; exact hB q)) (fun q hq => by rw [hw_up_ne (by omega)]; exact hh q (by omega)) (by rw [nvb_digit (w := (v i).2 t * F) hS (by omega), nvb_succ, Nat.add_mul]; grind) hV hF hI (lv_sub hl [0, 1, 3, 4, 5] rfl)
  refine lv_lload_n hx hb d_Wh_grow_9 rfl (lv_at hl 2 rfl) ?_
  refine lv_lstore (lv' := [(5, .long (lN E)), (0, .ref (o i)), (1, .long (lN F)), (3, .long (lN E))]) hx hb d_Wh_grow_10 hl (by decide) rfl (fun ls hl => ?_)
  refine lv_iconst (v := nI 0) hx hb d_Wh_grow_12 (by decide) ?_
  refine lv_istore (lv' := [(7, .int (nI 0)), (5, .long (lN E)), (0, .ref (o i)), (1, .long (lN F)), (3, .long (lN E))]) hx hb d_Wh_grow_13 hl (by decide) rfl (fun ls hl => ?_)
  exact loop M 0 E (v i).2 _ _ _ _ (by omega) hEB (hO i hi).2.1 (fun _ _ => rfl) (by simp [nvb_zero]) (fun z hz => by by_cases e9 : z = i; (subst e9; rw [hw_up_eq]; exact hV z hz); (rw [hw_up_ne e9]; exact hV z hz)) (fun _ _ _ => rfl) hI hl
set_option maxHeartbeats 4000000 in
set_option maxRecDepth 100000 in
theorem c_Wh_becomeQuotient (l : Launch) (D : va_G) (t0 : Nat) (L : List Nat) (f : Nat → va_E) (sz : Nat) (o r : Nat → Nat) (N : Nat) (x : Nat → Nat) (i : Nat) (j d : Nat) (hi : i < N) (hY : Lay o r N) (hN : AllN D L f o r N x) (hj : j < N) (hd0 : 0 < d) (hdB : d ≤ nB) : Met l y_Wh_becomeQuotient (Cond.code y_Wh_becomeQuotient b_Wh_becomeQuotient 10 (some .long) :: TT) ({ frames := 1, cells := 0, slots := 0, locals := 21 } : Room) (hw_Pc t0 [.ref (o i), .ref (o j), .long (lN d)] D L f sz) (hw_Q D L sz (fun oc L' f' => oc = .returned (some (.long (lN (x j % d)))) ∧ L = L' ∧ AllN D L f' o r N (va_up x i (x j / d)) ∧ ∀ q, q ≠ o i → q ≠ r i → f' q = f q)) 0 0 (hw_A L sz) := by
  refine Met.ofW (cc := b_Wh_becomeQuotient) (maxL := 10) (ret := (some .long)) (by decide) rfl ?_
  intro p e s m args below meth c s₁ B hml hv
  obtain ⟨rfl, rfl, hI⟩ := hw_start hv
  clear hv
  have hx := B.exec
  have hb := B.bytes
  have hr := B.returns
  have hlocks := B.notSynchronized
  have hown : s.vm.findClass "WallFractions$Whole" = some m.cls := findClass_of_methodNamed B.named
  have hT : ∀ w ∈ TT, w.before ([.ref (o i), .ref (o j), .long (lN d)]).toArray s = true := fun w h => atoms_spec (ws := (Cond.code y_Wh_becomeQuotient b_Wh_becomeQuotient 10 (some .long) :: TT)) B.pre w (List.mem_cons_of_mem _ h)
  have S : CallFix p m c b_Wh_becomeQuotient 10 s ([.ref (o i), .ref (o j), .long (lN d)]).toArray TT "WallFractions$Whole" := ⟨hx, hb, hml, hown, hT⟩
  have hl := lv_entry ([.ref (o i), .ref (o j), .long (lN d)]) (n := 10) (Nat.le_of_ble_eq_true rfl)
  rw [lg_entry_eq]
  generalize (lg_sl ([.ref (o i), .ref (o j), .long (lN d)]) ++ List.replicate (10 - (lg_sl ([.ref (o i), .ref (o j), .long (lN d)])).length) Slot.unset).toArray = ls at hl ⊢
  have hl : lv_has ls 10 [(0, .ref (o i)), (1, .ref (o j)), (2, .long (lN d))] := hl
  skip
  obtain ⟨v, hV, hO⟩ := hN
  have hnB : nB = 1000000000 := rfl
  have h1 := (hO j hj).1
  obtain ⟨M, hM⟩ : ∃ M, M = (v j).1 := ⟨_, rfl⟩
  have loop : ∀ (k rest : Nat) (h : Nat → Nat) (f1 : Nat → va_E) (H : Heap) (locs : List Loc) (ls : Array Slot), k ≤ M → rest < d → (∀ q, h q < nB) → (∀ q, q < k → h q = (v i).2 q) → nvb nB (nsh (v j).2 k) (M - k) = nvb nB (nsh h k) (M - k) * d + rest → AllW D L f1 o r N (va_up v i ((v i).1, h)) → (∀ q, q ≠ o i → q ≠ r i → f1 q = f q) → hw_I D t0 (hw_A L s.heap.size) s L f1 H locs → lv_has ls 10 [(7, .int (mI k)), (6, .int (nI M)), (4, .long (lN rest)), (0, .ref (o i)), (1, .ref (o j)), (2, .long (lN d))] → W p l e (headSpec (Cond.code y_Wh_becomeQuotient b_Wh_becomeQuotient 10 (some .long) :: TT) ({ frames := 1, cells := 0, slots := 0, locals := 21 } : Room)).room s m ([.ref (o i), .ref (o j), .long (lN d)]).toArray below meth c H locs 0 0 (MQ below (hw_Q D L s.heap.size (fun oc L' f' => oc = .returned (some (.long (lN (x j % d)))) ∧ L = L' ∧ AllN D L f' o r N (va_up x i (x j / d)) ∧ ∀ q, q ≠ o i → q ≠ r i → f' q = f q)) ([.ref (o i), .ref (o j), .long (lN d)]).toArray s 0 0 (hw_A L s.heap.size)) (F0 m 15 ls []) := by
    intro k
    induction k with
    | zero =>
      intro rest h f1 H locs ls hk hrd hB hh hS hV hF hI hl
      refine lv_iload hx hb d_Wh_becomeQuotient_15 (lv_at hl 0 rfl) ?_
      refine hw_m0 (tgt := 59) hx hb d_Wh_becomeQuotient_17 (by decide) ?_
      refine lv_aload_n hx hb d_Wh_becomeQuotient_59 rfl (lv_at hl 3 rfl) ?_
      refine lv_iload hx hb d_Wh_becomeQuotient_60 (lv_at hl 1 rfl) ?_
      refine hw_cV (As := [.int (nI M)]) (rest := []) S hI m_Wh_settle w_385 (c_Wh_settle l D t0 L _ _ o r N (va_up v i ((v i).1, h)) i M hi hY hV (by omega) (by rw [hw_up_eq]; exact hB)) (hV _ hi).1 rfl hl.1 rfl rfl (Nat.le_of_ble_eq_true rfl) d_Wh_becomeQuotient_62 ⟨Nat.le_of_ble_eq_true rfl, Nat.le_of_ble_eq_true rfl⟩ ⟨Nat.le_of_ble_eq_true rfl, Nat.le_of_ble_eq_true rfl⟩ (fun v9 L9 f14 H locs hp hI => ?_)
      refine W.cs (cells' := 0) (slots' := 0) rfl rfl ?_
      obtain ⟨hv9, rfl, n9, hn9, hk9, hV, hF9⟩ := hp
      cases hv9
      refine hw_stk (st' := []) rfl ?_
      rw [hw_up_eq] at hk9
      have hV : AllW D L f14 o r N (va_up v i (n9, h)) := by simpa only [hw_up_eq, bx_uu] using hV
      have e0 : ∀ g : Nat → Nat, nsh g 0 = g := fun g => funext (fun q => by unfold nsh; rw [Nat.zero_add])
      rw [e0, e0, Nat.sub_zero, hM, (hO j hj).2.2.2, ← hM] at hS
      have hq9 : x j / d = nvb nB h M := by rw [hS, Nat.mul_comm, Nat.mul_add_div hd0, Nat.div_eq_of_lt hrd, Nat.add_zero]
      have hr9 : x j % d = rest := by rw [hS, Nat.mul_comm, Nat.mul_add_mod, Nat.mod_eq_of_lt hrd]
      refine lv_lload hx hb d_Wh_becomeQuotient_65 (lv_at hl 2 rfl) ?_
      exact hw_lret hx hb hr hlocks hI d_Wh_becomeQuotient_67 ⟨by rw [hr9], rfl, AllN.mk hO hV (by omega) (by rw [hq9]; exact hk9), fun q h1 h2 => (hF9 q h1).trans (hF q h1 h2)⟩
    | succ k ih =>
      intro rest h f1 H locs ls hk hrd hB hh hS hV hF hI hl
      rw [mI_s] at hl
      refine lv_iload hx hb d_Wh_becomeQuotient_15 (lv_at hl 0 rfl) ?_
      refine hw_if_lt (tgt := 59) hx hb d_Wh_becomeQuotient_17 (by decide) (by omega) ?_
      have ht := hh k (Nat.lt_succ_self k)
      have hvj := (hO j hj).2.1 k
      have hrb : rest * nB ≤ (nB - 1) * nB := Nat.mul_le_mul_right _ (by omega)
      have hnn : (nB - 1) * nB = 999999999000000000 := rfl
      have hq9 := sdiv_lt hrd hvj
      refine lv_lload hx hb d_Wh_becomeQuotient_20 (lv_at hl 2 rfl) ?_
      refine hw_ldc2 (v := lN nB) hx hb hown (hT _ w_56) d_Wh_becomeQuotient_22 ?_
      refine lv_lmul hx hb d_Wh_becomeQuotient_25 ?_
      refine hw_tl (lN_mul _ _) ?_
      refine lv_aload_n hx hb d_Wh_becomeQuotient_26 rfl (lv_at hl 4 rfl) ?_
      refine wh_limbs S hI hV hj d_Wh_becomeQuotient_27 ?_
      refine lv_iload hx hb d_Wh_becomeQuotient_30 (lv_at hl 0 rfl) ?_
      refine wh_ld S hI hV hj (by omega) d_Wh_becomeQuotient_32 ?_
      refine hw_tl (show _ = lN ((v j).2 k) from by rw [up_snd ht]) ?_
      refine lv_ladd hx hb d_Wh_becomeQuotient_33 ?_
      refine hw_tl (lN_add _ _) ?_
      refine lv_lstore (lv' := [(8, .long (lN ((rest * nB) + ((v j).2 k)))), (7, .int (nI k)), (6, .int (nI M)), (4, .long (lN rest)), (0, .ref (o i)), (1, .ref (o j)), (2, .long (lN d))]) hx hb d_Wh_becomeQuotient_34 hl (by decide) rfl (fun ls hl => ?_)
      refine lv_aload_n hx hb d_Wh_becomeQuotient_36 rfl (lv_at hl 4 rfl) ?_
      refine wh_limbs S hI hV hi d_Wh_becomeQuotient_37 ?_
      refine lv_iload hx hb d_Wh_becomeQuotient_40 (lv_at hl 1 rfl) ?_
      refine lv_lload hx hb d_Wh_becomeQuotient_42 (lv_at hl 0 rfl) ?_
      refine lv_lload_n hx hb d_Wh_becomeQuotient_44 rfl (lv_at hl 6 rfl) ?_
      refine lv_ldiv hx hb d_Wh_becomeQuotient_45 (by intro h9; have h8 := (pk_lEQ (b := 0) (by omega) (by decide)).mp h9; omega) ?_
      refine hw_tl (pk_lDiv (by omega) (by omega) (by omega)) ?_
      refine wh_st S hI hV hY hi (by omega) d_Wh_becomeQuotient_46 (fun f15 H locs hI hV hf15 => ?_)
      have hF := fun q (h1 : q ≠ o i) (h2 : q ≠ r i) => (hf15 q h2).trans (hF q h1 h2)
      have hV : AllW D L f15 o r N (va_up v i ((v i).1, va_up h k ((rest * nB + (v j).2 k) / d))) := by simpa only [hw_up_eq, bx_uu] using hV
      refine lv_lload hx hb d_Wh_becomeQuotient_47 (lv_at hl 0 rfl) ?_
      refine lv_lload_n hx hb d_Wh_becomeQuotient_49 rfl (lv_at hl 6 rfl) ?_
      refine lv_lrem hx hb d_Wh_becomeQuotient_50 (by intro h9; have h8 := (pk_lEQ (b := 0) (by omega) (by decide)).mp h9; omega) ?_
      refine hw_tl (pk_lRem (by omega) (by omega) (by omega)) ?_
      refine lv_lstore (lv' := [(4, .long (lN (((rest * nB) + ((v j).2 k)) % d))), (8, .long (lN ((rest * nB) + ((v j).2 k)))), (7, .int (nI k)), (6, .int (nI M)), (0, .ref (o i)), (1, .ref (o j)), (2, .long (lN d))]) hx hb d_Wh_becomeQuotient_51 hl (by decide) rfl (fun ls hl => ?_)
      refine lv_iinc (v := mI k) (lv' := [(7, .int (mI k)), (4, .long (lN (((rest * nB) + ((v j).2 k)) % d))), (8, .long (lN ((rest * nB) + ((v j).2 k)))), (6, .int (nI M)), (0, .ref (o i)), (1, .ref (o j)), (2, .long (lN d))]) hx hb d_Wh_becomeQuotient_53 hl (k := 2) rfl (mI_d k) (by decide) rfl (fun ls hl => ?_)
      refine lv_goto (tgt := 15) hx hb d_Wh_becomeQuotient_56 (by decide) ?_
      exact ih ((rest * nB + (v j).2 k) % d) (va_up h k ((rest * nB + (v j).2 k) / d)) _ _ _ _ (by omega) (Nat.mod_lt _ hd0) (fun q => by by_cases e9 : q = k; (subst e9; rw [hw_up_eq]; exact hq9); (rw [hw_up_ne e9]; exact hB q)) (fun q hq => by rw [hw_up_ne (by omega)]; exact hh q (by omega)) (sdiv_step (by omega) hd0 hS) hV hF hI (lv_sub hl [0, 3, 1, 4, 5, 6] rfl)
  refine lv_lconst (v := lN 0) hx hb d_Wh_becomeQuotient_0 rfl ?_
  refine lv_lstore (lv' := [(4, .long (lN 0)), (0, .ref (o i)), (1, .ref (o j)), (2, .long (lN d))]) hx hb d_Wh_becomeQuotient_1 hl (by decide) rfl (fun ls hl => ?_)
  refine lv_aload_n hx hb d_Wh_becomeQuotient_3 rfl (lv_at hl 2 rfl) ?_
  refine wh_size S hI hV hj d_Wh_becomeQuotient_4 ?_
  refine hw_ti (show _ = nI M from by rw [hM]) ?_
  refine lv_istore (lv' := [(6, .int (nI M)), (4, .long (lN 0)), (0, .ref (o i)), (1, .ref (o j)), (2, .long (lN d))]) hx hb d_Wh_becomeQuotient_7 hl (by decide) rfl (fun ls hl => ?_)
  refine lv_iload hx hb d_Wh_becomeQuotient_9 (lv_at hl 0 rfl) ?_
  refine lv_iconst (v := nI 1) hx hb d_Wh_becomeQuotient_11 (by decide) ?_
  refine lv_isub hx hb d_Wh_becomeQuotient_12 ?_
  refine hw_ti (show _ = mI M from rfl) ?_
  refine lv_istore (lv' := [(7, .int (mI M)), (6, .int (nI M)), (4, .long (lN 0)), (0, .ref (o i)), (1, .ref (o j)), (2, .long (lN d))]) hx hb d_Wh_becomeQuotient_13 hl (by decide) rfl (fun ls hl => ?_)
  exact loop M 0 (v i).2 _ _ _ _ (Nat.le_refl _) hd0 (hO i hi).2.1 (fun _ _ => rfl) (by rw [Nat.sub_self, nvb_zero, nvb_zero]; omega) (fun z hz => by by_cases e9 : z = i; (subst e9; rw [hw_up_eq]; exact hV z hz); (rw [hw_up_ne e9]; exact hV z hz)) (fun _ _ _ => rfl) hI hl
set_option maxHeartbeats 4000000 in
set_option maxRecDepth 100000 in
theorem c_Wh_restBy (l : Launch) (D : va_G) (t0 : Nat) (L : List Nat) (f : Nat → va_E) (sz : Nat) (o r : Nat → Nat) (N : Nat) (x : Nat → Nat) (i : Nat) (d : Nat) (hi : i < N) (hY : Lay o r N) (hN : AllN D L f o r N x) (hd0 : 0 < d) (hdB : d ≤ nB) : Met l y_Wh_restBy (Cond.code y_Wh_restBy b_Wh_restBy 6 (some .long) :: TT) ({ frames := 0, cells := 0, slots := 0, locals := 0 } : Room) (hw_Pc t0 [.ref (o i), .long (lN d)] D L f sz) (hw_Q D L sz (fun oc L' f' => oc = .returned (some (.long (lN (x i % d)))) ∧ L = L' ∧ f = f')) 0 0 (hw_A L sz) := by
  refine Met.ofW (cc := b_Wh_restBy) (maxL := 6) (ret := (some .long)) (by decide) rfl ?_
  intro p e s m args below meth c s₁ B hml hv
  obtain ⟨rfl, rfl, hI⟩ := hw_start hv
  clear hv
  have hx := B.exec
  have hb := B.bytes
  have hr := B.returns
  have hlocks := B.notSynchronized
  have hown : s.vm.findClass "WallFractions$Whole" = some m.cls := findClass_of_methodNamed B.named
  have hT : ∀ w ∈ TT, w.before ([.ref (o i), .long (lN d)]).toArray s = true := fun w h => atoms_spec (ws := (Cond.code y_Wh_restBy b_Wh_restBy 6 (some .long) :: TT)) B.pre w (List.mem_cons_of_mem _ h)
  have S : CallFix p m c b_Wh_restBy 6 s ([.ref (o i), .long (lN d)]).toArray TT "WallFractions$Whole" := ⟨hx, hb, hml, hown, hT⟩
  have hl := lv_entry ([.ref (o i), .long (lN d)]) (n := 6) (Nat.le_of_ble_eq_true rfl)
  rw [lg_entry_eq]
  generalize (lg_sl ([.ref (o i), .long (lN d)]) ++ List.replicate (6 - (lg_sl ([.ref (o i), .long (lN d)])).length) Slot.unset).toArray = ls at hl ⊢
  have hl : lv_has ls 6 [(0, .ref (o i)), (1, .long (lN d))] := hl
  skip
  obtain ⟨v, hV, hO⟩ := hN
  have hnB : nB = 1000000000 := rfl
  have h1 := (hO i hi).1
  obtain ⟨M, hM⟩ : ∃ M, M = (v i).1 := ⟨_, rfl⟩
  have loop : ∀ (k rest : Nat) (f1 : Nat → va_E) (H : Heap) (locs : List Loc) (ls : Array Slot), k ≤ M → rest = nvb nB (nsh (v i).2 k) (M - k) % d → f = f1 → hw_I D t0 (hw_A L s.heap.size) s L f1 H locs → lv_has ls 6 [(5, .int (mI k)), (3, .long (lN rest)), (0, .ref (o i)), (1, .long (lN d))] → W p l e (headSpec (Cond.code y_Wh_restBy b_Wh_restBy 6 (some .long) :: TT) ({ frames := 0, cells := 0, slots := 0, locals := 0 } : Room)).room s m ([.ref (o i), .long (lN d)]).toArray below meth c H locs 0 0 (MQ below (hw_Q D L s.heap.size (fun oc L' f' => oc = .returned (some (.long (lN (x i % d)))) ∧ L = L' ∧ f = f')) ([.ref (o i), .long (lN d)]).toArray s 0 0 (hw_A L s.heap.size)) (F0 m 10 ls []) := by
    intro k
    induction k with
    | zero =>
      intro rest f1 H locs ls hk hS hf hI hl
      subst hf
      refine lv_iload hx hb d_Wh_restBy_10 (lv_at hl 0 rfl) ?_
      refine hw_m0 (tgt := 37) hx hb d_Wh_restBy_12 (by decide) ?_
      refine lv_lload_n hx hb d_Wh_restBy_37 rfl (lv_at hl 1 rfl) ?_
      have e0 : ∀ g : Nat → Nat, nsh g 0 = g := fun g => funext (fun q => by unfold nsh; rw [Nat.zero_add])
      rw [e0, Nat.sub_zero, hM, (hO i hi).2.2.2] at hS
      exact hw_lret hx hb hr hlocks hI d_Wh_restBy_38 ⟨by rw [hS], rfl, rfl⟩
    | succ k ih =>
      intro rest f1 H locs ls hk hS hf hI hl
      subst hf
      rw [mI_s] at hl
      refine lv_iload hx hb d_Wh_restBy_10 (lv_at hl 0 rfl) ?_
      refine hw_if_lt (tgt := 37) hx hb d_Wh_restBy_12 (by decide) (by omega) ?_
      have hvj := (hO i hi).2.1 k
      have hrd : rest < d := by rw [hS]; exact Nat.mod_lt _ hd0
      have hrb : rest * nB ≤ (nB - 1) * nB := Nat.mul_le_mul_right _ (by omega)
      have hnn : (nB - 1) * nB = 999999999000000000 := rfl
      refine lv_lload_n hx hb d_Wh_restBy_15 rfl (lv_at hl 1 rfl) ?_
      refine hw_ldc2 (v := lN nB) hx hb hown (hT _ w_56) d_Wh_restBy_16 ?_
      refine lv_lmul hx hb d_Wh_restBy_19 ?_
      refine hw_tl (lN_mul _ _) ?_
      refine lv_aload_n hx hb d_Wh_restBy_20 rfl (lv_at hl 2 rfl) ?_
      refine wh_limbs S hI hV hi d_Wh_restBy_21 ?_
      refine lv_iload hx hb d_Wh_restBy_24 (lv_at hl 0 rfl) ?_
      refine wh_ld S hI hV hi (by omega) d_Wh_restBy_26 ?_
      refine lv_ladd hx hb d_Wh_restBy_27 ?_
      refine hw_tl (lN_add _ _) ?_
      refine lv_lload_n hx hb d_Wh_restBy_28 rfl (lv_at hl 3 rfl) ?_
      refine lv_lrem hx hb d_Wh_restBy_29 (by intro h9; have h8 := (pk_lEQ (b := 0) (by omega) (by decide)).mp h9; omega) ?_
      refine hw_tl (pk_lRem (by omega) (by omega) (by omega)) ?_
      refine lv_lstore_n (lv' := [(3, .long (lN (((rest * nB) + ((v i).2 k)) % d))), (5, .int (nI k)), (0, .ref (o i)), (1, .long (lN d))]) hx hb d_Wh_restBy_30 rfl hl (by decide) rfl (fun ls hl => ?_)
      refine lv_iinc (v := mI k) (lv' := [(5, .int (mI k)), (3, .long (lN (((rest * nB) + ((v i).2 k)) % d))), (0, .ref (o i)), (1, .long (lN d))]) hx hb d_Wh_restBy_31 hl (k := 1) rfl (mI_d k) (by decide) rfl (fun ls hl => ?_)
      refine lv_goto (tgt := 10) hx hb d_Wh_restBy_34 (by decide) ?_
      exact ih ((rest * nB + (v i).2 k) % d) _ _ _ _ (by omega) (by rw [nvb_down (by omega), hS]; generalize nvb nB (nsh (v i).2 (k + 1)) (M - (k + 1)) = Z; rw [Nat.add_mod, Nat.mod_mul_mod, ← Nat.add_mod, Nat.mul_comm Z nB, Nat.add_comm]) rfl hI hl
  refine lv_lconst (v := lN 0) hx hb d_Wh_restBy_0 rfl ?_
  refine lv_lstore_n (lv' := [(3, .long (lN 0)), (0, .ref (o i)), (1, .long (lN d))]) hx hb d_Wh_restBy_1 rfl hl (by decide) rfl (fun ls hl => ?_)
  refine lv_aload_n hx hb d_Wh_restBy_2 rfl (lv_at hl 1 rfl) ?_
  refine wh_size S hI hV hi d_Wh_restBy_3 ?_
  refine hw_ti (show _ = nI M from by rw [hM]) ?_
  refine lv_iconst (v := nI 1) hx hb d_Wh_restBy_6 (by decide) ?_
  refine lv_isub hx hb d_Wh_restBy_7 ?_
  refine hw_ti (show _ = mI M from rfl) ?_
  refine lv_istore (lv' := [(5, .int (mI M)), (3, .long (lN 0)), (0, .ref (o i)), (1, .long (lN d))]) hx hb d_Wh_restBy_8 hl (by decide) rfl (fun ls hl => ?_)
  exact loop M 0 _ _ _ _ (Nat.le_refl _) (by rw [Nat.sub_self, nvb_zero, Nat.zero_mod]) rfl hI hl
end
section
set_option maxHeartbeats 4000000 in
set_option maxRecDepth 100000 in
theorem c_Wh_topLength (l : Launch) (D : va_G) (t0 : Nat) (L : List Nat) (f : Nat → va_E) (sz : Nat) (o r : Nat → Nat) (N : Nat) (v : Nat → Nat × (Nat → Nat)) (i : Nat) (hi : i < N) (hY : Lay o r N) (hV : AllW D L f o r N v) (h1 : (v i).1 ≤ 41) (h0 : 0 < (v i).1) (hB : ∀ q, (v i).2 q < nB) (htop : 0 < (v i).2 ((v i).1 - 1)) : Met l y_Wh_topLength (Cond.code y_Wh_topLength b_Wh_topLength 4 (some .int) :: TT) ({ frames := 1, cells := 0, slots := 0, locals := 21 } : Room) (hw_Pc t0 [.ref (o i)] D L f sz) (hw_Q D L sz (fun oc L' f' => (∃ T, oc = .returned (some (.int (nI T))) ∧ 1 ≤ T ∧ T ≤ 9 ∧ 10 ^ (T - 1) ≤ (v i).2 ((v i).1 - 1) ∧ (v i).2 ((v i).1 - 1) < 10 ^ T) ∧ L = L' ∧ f = f')) 0 0 (hw_A L sz) := by
  refine Met.ofW (cc := b_Wh_topLength) (maxL := 4) (ret := (some .int)) (by decide) rfl ?_
  intro p e s m args below meth c s₁ B hml hv
  obtain ⟨rfl, rfl, hI⟩ := hw_start hv
  clear hv
  have hx := B.exec
  have hb := B.bytes
  have hr := B.returns
  have hlocks := B.notSynchronized
  have hown : s.vm.findClass "WallFractions$Whole" = some m.cls := findClass_of_methodNamed B.named
  have hT : ∀ w ∈ TT, w.before ([.ref (o i)]).toArray s = true := fun w h => atoms_spec (ws := (Cond.code y_Wh_topLength b_Wh_topLength 4 (some .int) :: TT)) B.pre w (List.mem_cons_of_mem _ h)
  have S : CallFix p m c b_Wh_topLength 4 s ([.ref (o i)]).toArray TT "WallFractions$Whole" := ⟨hx, hb, hml, hown, hT⟩
  have hl := lv_entry ([.ref (o i)]) (n := 4) (Nat.le_of_ble_eq_true rfl)
  rw [lg_entry_eq]
  generalize (lg_sl ([.ref (o i)]) ++ List.replicate (4 - (lg_sl ([.ref (o i)])).length) Slot.unset).toArray = ls at hl ⊢
  have hl : lv_has ls 4 [(0, .ref (o i))] := hl
  skip
  obtain ⟨tp, htp⟩ : ∃ tp, tp = (v i).2 ((v i).1 - 1) := ⟨_, rfl⟩
  rw [← htp] at htop
  have hnB : nB = 1000000000 := rfl
  have htB : tp < nB := by rw [htp]; exact hB _
  refine lv_aload_n hx hb d_Wh_topLength_0 rfl (lv_at hl 0 rfl) ?_
  refine lv_aload_n hx hb d_Wh_topLength_1 rfl (lv_at hl 0 rfl) ?_
  refine wh_size S hI hV hi d_Wh_topLength_2 ?_
  refine lv_iconst (v := nI 1) hx hb d_Wh_topLength_5 (by decide) ?_
  refine lv_isub hx hb d_Wh_topLength_6 ?_
  refine hw_ti (pk_sub (by omega)) ?_
  refine hw_cV (As := [.int (nI (((v i).1) - 1))]) (rest := []) S hI m_Wh_limbAt w_414 (c_Wh_limbAt l D t0 L _ _ o r N v i ((v i).1 - 1) hi hY hV (by omega) h1) (hV _ hi).1 rfl hl.1 rfl rfl (Nat.le_of_ble_eq_true rfl) d_Wh_topLength_7 ⟨Nat.le_of_ble_eq_true rfl, Nat.le_of_ble_eq_true rfl⟩ ⟨Nat.le_of_ble_eq_true rfl, Nat.le_of_ble_eq_true rfl⟩ (fun v9 L9 f1 H locs hp hI => ?_)
  refine W.cs (cells' := 0) (slots' := 0) rfl rfl ?_
  obtain ⟨hv9, rfl, rfl⟩ := hp
  cases hv9
  refine hw_stk (st' := [.long (lN (padl (v i) ((v i).1 - 1)))]) rfl ?_
  refine hw_tl (show _ = lN tp from by unfold padl; rw [if_pos (by omega), htp]) ?_
  have loop : ∀ (g t : Nat) (f1 : Nat → va_E) (H : Heap) (locs : List Loc) (ls : Array Slot), t + g = 9 → 1 ≤ t → 10 ^ (t - 1) ≤ tp → f = f1 → hw_I D t0 (hw_A L s.heap.size) s L f1 H locs → lv_has ls 4 [(3, .int (nI t)), (1, .long (lN tp)), (0, .ref (o i))] → W p l e (headSpec (Cond.code y_Wh_topLength b_Wh_topLength 4 (some .int) :: TT) ({ frames := 1, cells := 0, slots := 0, locals := 21 } : Room)).room s m ([.ref (o i)]).toArray below meth c H locs 0 0 (MQ below (hw_Q D L s.heap.size (fun oc L' f' => (∃ T, oc = .returned (some (.int (nI T))) ∧ 1 ≤ T ∧ T ≤ 9 ∧ 10 ^ (T - 1) ≤ (v i).2 ((v i).1 - 1) ∧ (v i).2 ((v i).1 - 1) < 10 ^ T) ∧ L = L' ∧ f = f')) ([.ref (o i)]).toArray s 0 0 (hw_A L s.heap.size)) (F0 m 13 ls []) := by
    intro g
    induction g with
    | zero =>
      intro t f1 H locs ls htg ht1 hlo hf hI hl
      subst hf
      refine lv_iload_n hx hb d_Wh_topLength_13 rfl (lv_at hl 0 rfl) ?_
      refine lv_bipush (v := nI 9) hx hb d_Wh_topLength_14 (by decide) ?_
      refine hw_icmp_ge (tgt := 35) hx hb d_Wh_topLength_16 (by decide) (by omega) (by omega) (fun c2 => ?_) (fun c2 => ?_)
      · refine lv_iload_n hx hb d_Wh_topLength_35 rfl (lv_at hl 0 rfl) ?_
        have ht9 : t = 9 := by omega
        exact hw_iret hx hb hr hlocks hI d_Wh_topLength_36 ⟨⟨t, rfl, ht1, by omega, by rw [← htp]; exact hlo, by rw [← htp, ht9, ← nB10]; exact htB⟩, rfl, rfl⟩
      · exact absurd c2 (by omega)
    | succ g ih =>
      intro t f1 H locs ls htg ht1 hlo hf hI hl
      subst hf
      refine lv_iload_n hx hb d_Wh_topLength_13 rfl (lv_at hl 0 rfl) ?_
      refine lv_bipush (v := nI 9) hx hb d_Wh_topLength_14 (by decide) ?_
      refine hw_icmp_ge (tgt := 35) hx hb d_Wh_topLength_16 (by decide) (by omega) (by omega) (fun c3 => ?_) (fun c3 => ?_)
      · exact absurd c3 (by omega)
      · have hp9 : 10 ^ t ≤ 10 ^ 9 := Nat.pow_le_pow_right (by decide) (by omega)
        refine lv_lload_n hx hb d_Wh_topLength_19 rfl (lv_at hl 1 rfl) ?_
        refine hw_tens S hI (by decide) d_Wh_topLength_20 ?_
        refine lv_iload_n hx hb d_Wh_topLength_23 rfl (lv_at hl 0 rfl) ?_
        refine hw_tld S hI (by omega) d_Wh_topLength_24 ?_
        refine hw_l_lt (tgt := 35) hx hb d_Wh_topLength_25 d_Wh_topLength_26 (by decide) (fun c4 => ?_) (fun c4 => ?_)
        · refine lv_iload_n hx hb d_Wh_topLength_35 rfl (lv_at hl 0 rfl) ?_
          exact hw_iret hx hb hr hlocks hI d_Wh_topLength_36 ⟨⟨t, rfl, ht1, by omega, by rw [← htp]; exact hlo, by rw [← htp]; exact (pk_lLT (by omega) (by omega)).mp c4⟩, rfl, rfl⟩
        · refine lv_iinc (v := nI (t + 1)) (lv' := [(3, .int (nI (t + 1))), (1, .long (lN tp)), (0, .ref (o i))]) hx hb d_Wh_topLength_29 hl (k := 0) rfl (nI_1 _) (by decide) rfl (fun ls hl => ?_)
          refine lv_goto (tgt := 13) hx hb d_Wh_topLength_32 (by decide) ?_
          exact ih (t + 1) _ _ _ _ (by omega) (by omega) (by rw [Nat.add_sub_cancel]; exact (pk_lLE (by omega) (by omega)).mp c4) rfl hI hl
  refine lv_lstore_n (lv' := [(1, .long (lN tp)), (0, .ref (o i))]) hx hb d_Wh_topLength_10 rfl hl (by decide) rfl (fun ls hl => ?_)
  refine lv_iconst (v := nI 1) hx hb d_Wh_topLength_11 (by decide) ?_
  refine lv_istore_n (lv' := [(3, .int (nI 1)), (1, .long (lN tp)), (0, .ref (o i))]) hx hb d_Wh_topLength_12 rfl hl (by decide) rfl (fun ls hl => ?_)
  exact loop 8 1 _ _ _ _ rfl (Nat.le_refl _) htop rfl hI hl
set_option maxHeartbeats 4000000 in
set_option maxRecDepth 100000 in
theorem c_Wh_decimalLength (l : Launch) (D : va_G) (t0 : Nat) (L : List Nat) (f : Nat → va_E) (sz : Nat) (o r : Nat → Nat) (N : Nat) (x : Nat → Nat) (i : Nat) (hi : i < N) (hY : Lay o r N) (hN : AllN D L f o r N x) : Met l y_Wh_decimalLength (Cond.code y_Wh_decimalLength b_Wh_decimalLength 1 (some .int) :: TT) ({ frames := 2, cells := 0, slots := 0, locals := 44 } : Room) (hw_Pc t0 [.ref (o i)] D L f sz) (hw_Q D L sz (fun oc L' f' => (∃ T, oc = .returned (some (.int (nI T))) ∧ dlen T (x i) ∧ T ≤ 369) ∧ L = L' ∧ f = f')) 0 0 (hw_A L sz) := by
  refine Met.ofW (cc := b_Wh_decimalLength) (maxL := 1) (ret := (some .int)) (by decide) rfl ?_
  intro p e s m args below meth c s₁ B hml hv
  obtain ⟨rfl, rfl, hI⟩ := hw_start hv
  clear hv
  have hx := B.exec
  have hb := B.bytes
  have hr := B.returns
  have hlocks := B.notSynchronized
  have hown : s.vm.findClass "WallFractions$Whole" = some m.cls := findClass_of_methodNamed B.named
  have hT : ∀ w ∈ TT, w.before ([.ref (o i)]).toArray s = true := fun w h => atoms_spec (ws := (Cond.code y_Wh_decimalLength b_Wh_decimalLength 1 (some .int) :: TT)) B.pre w (List.mem_cons_of_mem _ h)
  have S : CallFix p m c b_Wh_decimalLength 1 s ([.ref (o i)]).toArray TT "WallFractions$Whole" := ⟨hx, hb, hml, hown, hT⟩
  have hl := lv_entry ([.ref (o i)]) (n := 1) (Nat.le_of_ble_eq_true rfl)
  rw [lg_entry_eq]
  generalize (lg_sl ([.ref (o i)]) ++ List.replicate (1 - (lg_sl ([.ref (o i)])).length) Slot.unset).toArray = ls at hl ⊢
  have hl : lv_has ls 1 [(0, .ref (o i))] := hl
  skip
  obtain ⟨v, hV, hO⟩ := hN
  have h1 := (hO i hi).1
  have hz := (hO i hi).2.zero nB_pos
  refine lv_aload_n hx hb d_Wh_decimalLength_0 rfl (lv_at hl 0 rfl) ?_
  refine wh_size S hI hV hi d_Wh_decimalLength_1 ?_
  refine hw_if_ne (tgt := 11) hx hb d_Wh_decimalLength_4 (by decide) (by omega) (fun c5 => ?_) (fun c5 => ?_)
  · refine lv_aload_n hx hb d_Wh_decimalLength_11 rfl (lv_at hl 0 rfl) ?_
    refine wh_size S hI hV hi d_Wh_decimalLength_12 ?_
    refine lv_iconst (v := nI 1) hx hb d_Wh_decimalLength_15 (by decide) ?_
    refine lv_isub hx hb d_Wh_decimalLength_16 ?_
    refine hw_ti (pk_sub (by omega)) ?_
    refine lv_bipush (v := nI 9) hx hb d_Wh_decimalLength_17 (by decide) ?_
    refine lv_imul hx hb d_Wh_decimalLength_19 ?_
    refine hw_ti (pk_mul _ _) ?_
    refine lv_aload_n hx hb d_Wh_decimalLength_20 rfl (lv_at hl 0 rfl) ?_
    refine hw_cV (As := []) (rest := [.int (nI ((((v i).1) - 1) * 9))]) S hI m_Wh_topLength w_623 (c_Wh_topLength l D t0 L _ _ o r N v i hi hY hV h1 (by omega) (hO i hi).2.1 ((hO i hi).2.2.1 (by omega))) (hV _ hi).1 rfl hl.1 rfl rfl (Nat.le_of_ble_eq_true rfl) d_Wh_decimalLength_21 ⟨Nat.le_of_ble_eq_true rfl, Nat.le_of_ble_eq_true rfl⟩ ⟨Nat.le_of_ble_eq_true rfl, Nat.le_of_ble_eq_true rfl⟩ (fun v9 L9 f6 H locs hp hI => ?_)
    refine W.cs (cells' := 0) (slots' := 0) rfl rfl ?_
    obtain ⟨⟨T9, hv9, hT1, hT9, hlo, hhi⟩, rfl, rfl⟩ := hp
    cases hv9
    refine hw_stk (st' := [.int (nI T9), .int (nI ((((v i).1) - 1) * 9))]) rfl ?_
    refine lv_iadd hx hb d_Wh_decimalLength_24 ?_
    refine hw_ti (nI_add _ _) ?_
    exact hw_iret hx hb hr hlocks hI d_Wh_decimalLength_25 ⟨⟨_, rfl, dlen_top (hO i hi).2 (by omega) hT1 hlo hhi, by omega⟩, rfl, rfl⟩
  · refine lv_iconst (v := nI 1) hx hb d_Wh_decimalLength_7 (by decide) ?_
    refine lv_goto (tgt := 25) hx hb d_Wh_decimalLength_8 (by decide) ?_
    exact hw_iret hx hb hr hlocks hI d_Wh_decimalLength_25 ⟨⟨1, rfl, by rw [hz.mp c5]; exact ⟨Nat.le_refl _, by decide, fun h => absurd h (by decide)⟩, by decide⟩, rfl, rfl⟩
set_option maxHeartbeats 4000000 in
set_option maxRecDepth 100000 in
theorem c_Wh_decimalAt (l : Launch) (D : va_G) (t0 : Nat) (L : List Nat) (f : Nat → va_E) (sz : Nat) (o r : Nat → Nat) (N : Nat) (x : Nat → Nat) (i : Nat) (k : Nat) (hi : i < N) (hY : Lay o r N) (hN : AllN D L f o r N x) (hk : k < 2 ^ 31) : Met l y_Wh_decimalAt (Cond.code y_Wh_decimalAt b_Wh_decimalAt 2 (some .int) :: TT) ({ frames := 1, cells := 0, slots := 0, locals := 21 } : Room) (hw_Pc t0 [.ref (o i), .int (nI k)] D L f sz) (hw_Q D L sz (fun oc L' f' => oc = .returned (some (.int (nI (x i / 10 ^ k % 10)))) ∧ L = L' ∧ f = f')) 0 0 (hw_A L sz) := by
  refine Met.ofW (cc := b_Wh_decimalAt) (maxL := 2) (ret := (some .int)) (by decide) rfl ?_
  intro p e s m args below meth c s₁ B hml hv
  obtain ⟨rfl, rfl, hI⟩ := hw_start hv
  clear hv
  have hx := B.exec
  have hb := B.bytes
  have hr := B.returns
  have hlocks := B.notSynchronized
  have hown : s.vm.findClass "WallFractions$Whole" = some m.cls := findClass_of_methodNamed B.named
  have hT : ∀ w ∈ TT, w.before ([.ref (o i), .int (nI k)]).toArray s = true := fun w h => atoms_spec (ws := (Cond.code y_Wh_decimalAt b_Wh_decimalAt 2 (some .int) :: TT)) B.pre w (List.mem_cons_of_mem _ h)
  have S : CallFix p m c b_Wh_decimalAt 2 s ([.ref (o i), .int (nI k)]).toArray TT "WallFractions$Whole" := ⟨hx, hb, hml, hown, hT⟩
  have hl := lv_entry ([.ref (o i), .int (nI k)]) (n := 2) (Nat.le_of_ble_eq_true rfl)
  rw [lg_entry_eq]
  generalize (lg_sl ([.ref (o i), .int (nI k)]) ++ List.replicate (2 - (lg_sl ([.ref (o i), .int (nI k)])).length) Slot.unset).toArray = ls at hl ⊢
  have hl : lv_has ls 2 [(0, .ref (o i)), (1, .int (nI k))] := hl
  skip
  obtain ⟨v, hV, hO⟩ := hN
  have h1 := (hO i hi).1
  have hnB : nB = 1000000000 := rfl
  have hk9 : k / 9 ≤ k := Nat.div_le_self _ _
  refine lv_aload_n hx hb d_Wh_decimalAt_0 rfl (lv_at hl 0 rfl) ?_
  refine lv_iload_n hx hb d_Wh_decimalAt_1 rfl (lv_at hl 1 rfl) ?_
  refine lv_bipush (v := nI 9) hx hb d_Wh_decimalAt_2 (by decide) ?_
  refine lv_idiv hx hb d_Wh_decimalAt_4 (by intro h9; have h8 := (nI_eq (b := 0) (by omega) (by decide)).mp h9; omega) ?_
  refine hw_ti (pk_div (by omega) (by omega) (by omega)) ?_
  refine hw_cV (As := [.int (nI (k / 9))]) (rest := []) S hI m_Wh_limbAt w_414 (c_Wh_limbAt l D t0 L _ _ o r N v i (k / 9) hi hY hV (by omega) h1) (hV _ hi).1 rfl hl.1 rfl rfl (Nat.le_of_ble_eq_true rfl) d_Wh_decimalAt_5 ⟨Nat.le_of_ble_eq_true rfl, Nat.le_of_ble_eq_true rfl⟩ ⟨Nat.le_of_ble_eq_true rfl, Nat.le_of_ble_eq_true rfl⟩ (fun v9 L9 f7 H locs hp hI => ?_)
  refine W.cs (cells' := 0) (slots' := 0) rfl rfl ?_
  obtain ⟨hv9, rfl, rfl⟩ := hp
  cases hv9
  refine hw_stk (st' := [.long (lN (padl (v i) (k / 9)))]) rfl ?_
  have hp := padl_lt nB_pos (hO i hi).2.1 (k / 9)
  have hpn := padl_num (q := k / 9) (hO i hi).2
  have ht := ten9 (Nat.mod_lt k (show 0 < 9 by decide))
  have hdv := Nat.div_le_self (padl (v i) (k / 9)) (10 ^ (k % 9))
  refine hw_tens S hI (by decide) d_Wh_decimalAt_8 ?_
  refine lv_iload_n hx hb d_Wh_decimalAt_11 rfl (lv_at hl 1 rfl) ?_
  refine lv_bipush (v := nI 9) hx hb d_Wh_decimalAt_12 (by decide) ?_
  refine lv_irem hx hb d_Wh_decimalAt_14 (by intro h9; have h8 := (nI_eq (b := 0) (by omega) (by decide)).mp h9; omega) ?_
  refine hw_ti (pk_rem (by omega) (by omega) (by omega)) ?_
  refine hw_tld S hI (by omega) d_Wh_decimalAt_15 ?_
  refine lv_ldiv hx hb d_Wh_decimalAt_16 (by intro h9; have h8 := (pk_lEQ (b := 0) (by omega) (by decide)).mp h9; omega) ?_
  refine hw_tl (pk_lDiv (by omega) (by omega) (by omega)) ?_
  refine hw_ldc2 (v := lN 10) hx hb hown (hT _ w_688) d_Wh_decimalAt_17 ?_
  refine lv_lrem hx hb d_Wh_decimalAt_20 (by intro h9; have h8 := (pk_lEQ (b := 0) (by omega) (by decide)).mp h9; omega) ?_
  refine hw_tl (pk_lRem (by omega) (by omega) (by omega)) ?_
  refine lv_l2i (v := nI (((padl (v i) (k / 9)) / (10 ^ (k % 9))) % 10)) hx hb d_Wh_decimalAt_21 (lN_i _) ?_
  exact hw_iret hx hb hr hlocks hI d_Wh_decimalAt_22 ⟨by rw [show padl (v i) (k / 9) = _ from hpn, dig_num], rfl, rfl⟩
set_option maxHeartbeats 4000000 in
set_option maxRecDepth 100000 in
theorem c_Wh_becomeTenTo (l : Launch) (D : va_G) (t0 : Nat) (L : List Nat) (f : Nat → va_E) (sz : Nat) (o r : Nat → Nat) (N : Nat) (x : Nat → Nat) (i : Nat) (ex : Nat) (hi : i < N) (hY : Lay o r N) (hN : AllN D L f o r N x) (hex : ex ≤ 368) : Met l y_Wh_becomeTenTo (Cond.code y_Wh_becomeTenTo b_Wh_becomeTenTo 4 none :: TT) ({ frames := 7, cells := 0, slots := 0, locals := 130 } : Room) (hw_Pc t0 [.ref (o i), .int (nI ex)] D L f sz) (hw_Q D L sz (fun oc L' f' => oc = .returned none ∧ L = L' ∧ AllN D L f' o r N (va_up x i (10 ^ ex)) ∧ ∀ q, q ≠ o i → q ≠ r i → f' q = f q)) 0 0 (hw_A L sz) := by
  refine Met.ofW (cc := b_Wh_becomeTenTo) (maxL := 4) (ret := none) (by decide) rfl ?_
  intro p e s m args below meth c s₁ B hml hv
  obtain ⟨rfl, rfl, hI⟩ := hw_start hv
  clear hv
  have hx := B.exec
  have hb := B.bytes
  have hr := B.returns
  have hlocks := B.notSynchronized
  have hown : s.vm.findClass "WallFractions$Whole" = some m.cls := findClass_of_methodNamed B.named
  have hT : ∀ w ∈ TT, w.before ([.ref (o i), .int (nI ex)]).toArray s = true := fun w h => atoms_spec (ws := (Cond.code y_Wh_becomeTenTo b_Wh_becomeTenTo 4 none :: TT)) B.pre w (List.mem_cons_of_mem _ h)
  have S : CallFix p m c b_Wh_becomeTenTo 4 s ([.ref (o i), .int (nI ex)]).toArray TT "WallFractions$Whole" := ⟨hx, hb, hml, hown, hT⟩
  have hl := lv_entry ([.ref (o i), .int (nI ex)]) (n := 4) (Nat.le_of_ble_eq_true rfl)
  rw [lg_entry_eq]
  generalize (lg_sl ([.ref (o i), .int (nI ex)]) ++ List.replicate (4 - (lg_sl ([.ref (o i), .int (nI ex)])).length) Slot.unset).toArray = ls at hl ⊢
  have hl : lv_has ls 4 [(0, .ref (o i)), (1, .int (nI ex))] := hl
  skip
  obtain ⟨v, hV, hO⟩ := hN
  have hnB : nB = 1000000000 := rfl
  obtain ⟨M, hM⟩ : ∃ M, M = ex / 9 := ⟨_, rfl⟩
  have hM40 : M ≤ 40 := by omega
  refine lv_iload_n hx hb d_Wh_becomeTenTo_0 rfl (lv_at hl 1 rfl) ?_
  refine lv_bipush (v := nI 9) hx hb d_Wh_becomeTenTo_1 (by decide) ?_
  refine lv_idiv hx hb d_Wh_becomeTenTo_3 (by intro h9; have h8 := (nI_eq (b := 0) (by omega) (by decide)).mp h9; omega) ?_
  refine hw_ti (pk_div (by omega) (by omega) (by omega)) ?_
  refine hw_ti (show _ = nI M from by rw [hM]) ?_
  refine lv_istore_n (lv' := [(2, .int (nI M)), (0, .ref (o i)), (1, .int (nI ex))]) hx hb d_Wh_becomeTenTo_4 rfl hl (by decide) rfl (fun ls hl => ?_)
  refine lv_iload_n hx hb d_Wh_becomeTenTo_5 rfl (lv_at hl 0 rfl) ?_
  refine lv_iconst (v := nI 1) hx hb d_Wh_becomeTenTo_6 (by decide) ?_
  refine lv_iadd hx hb d_Wh_becomeTenTo_7 ?_
  refine hw_ti (nI_add _ _) ?_
  refine hw_cS (As := [.int (nI (M + 1))]) (rest := []) S hI m_Wh_requireRoom w_379 (c_Wh_requireRoom l D t0 L _ _ (M + 1) (by omega)) hl.1 rfl rfl (Nat.le_of_ble_eq_true rfl) d_Wh_becomeTenTo_8 ⟨Nat.le_of_ble_eq_true rfl, Nat.le_of_ble_eq_true rfl⟩ ⟨Nat.le_of_ble_eq_true rfl, Nat.le_of_ble_eq_true rfl⟩ (fun v9 L9 f8 H locs hp hI => ?_)
  refine W.cs (cells' := 0) (slots' := 0) rfl rfl ?_
  obtain ⟨hv9, rfl, rfl⟩ := hp
  cases hv9
  refine hw_stk (st' := []) rfl ?_
  have loop : ∀ (g t : Nat) (h : Nat → Nat) (f1 : Nat → va_E) (H : Heap) (locs : List Loc) (ls : Array Slot), t + g = M → (∀ q, h q < nB) → (∀ q, q < t → h q = 0) → AllW D L f1 o r N (va_up v i ((v i).1, h)) → (∀ q, q ≠ o i → q ≠ r i → f1 q = f q) → hw_I D t0 (hw_A L s.heap.size) s L f1 H locs → lv_has ls 4 [(3, .int (nI t)), (2, .int (nI M)), (0, .ref (o i)), (1, .int (nI ex))] → W p l e (headSpec (Cond.code y_Wh_becomeTenTo b_Wh_becomeTenTo 4 none :: TT) ({ frames := 7, cells := 0, slots := 0, locals := 130 } : Room)).room s m ([.ref (o i), .int (nI ex)]).toArray below meth c H locs 0 0 (MQ below (hw_Q D L s.heap.size (fun oc L' f' => oc = .returned none ∧ L = L' ∧ AllN D L f' o r N (va_up x i (10 ^ ex)) ∧ ∀ q, q ≠ o i → q ≠ r i → f' q = f q)) ([.ref (o i), .int (nI ex)]).toArray s 0 0 (hw_A L s.heap.size)) (F0 m 13 ls []) := by
    intro g
    induction g with
    | zero =>
      intro t h f1 H locs ls htg hB hz hV hF hI hl
      refine lv_iload_n hx hb d_Wh_becomeTenTo_13 rfl (lv_at hl 0 rfl) ?_
      refine lv_iload_n hx hb d_Wh_becomeTenTo_14 rfl (lv_at hl 1 rfl) ?_
      refine hw_icmp_ge (tgt := 31) hx hb d_Wh_becomeTenTo_15 (by decide) (by omega) (by omega) (fun c9 => ?_) (fun c9 => ?_)
      · have ht := ten9 (Nat.mod_lt ex (show 0 < 9 by decide))
        have hm9 := Nat.mod_lt ex (show 0 < 9 by decide)
        refine lv_aload_n hx hb d_Wh_becomeTenTo_31 rfl (lv_at hl 2 rfl) ?_
        refine wh_limbs S hI hV hi d_Wh_becomeTenTo_32 ?_
        refine lv_iload_n hx hb d_Wh_becomeTenTo_35 rfl (lv_at hl 1 rfl) ?_
        refine hw_tens S hI (by decide) d_Wh_becomeTenTo_36 ?_
        refine lv_iload_n hx hb d_Wh_becomeTenTo_39 rfl (lv_at hl 3 rfl) ?_
        refine lv_bipush (v := nI 9) hx hb d_Wh_becomeTenTo_40 (by decide) ?_
        refine lv_irem hx hb d_Wh_becomeTenTo_42 (by intro h9; have h8 := (nI_eq (b := 0) (by omega) (by decide)).mp h9; omega) ?_
        refine hw_ti (pk_rem (by omega) (by omega) (by omega)) ?_
        refine hw_tld S hI (by omega) d_Wh_becomeTenTo_43 ?_
        refine wh_st S hI hV hY hi (by omega) d_Wh_becomeTenTo_44 (fun f10 H locs hI hV hf10 => ?_)
        have hF := fun q (h1 : q ≠ o i) (h2 : q ≠ r i) => (hf10 q h2).trans (hF q h1 h2)
        have hV : AllW D L f10 o r N (va_up v i ((v i).1, va_up h M (10 ^ (ex % 9)))) := by simpa only [hw_up_eq, bx_uu] using hV
        refine lv_aload_n hx hb d_Wh_becomeTenTo_45 rfl (lv_at hl 2 rfl) ?_
        refine lv_iload_n hx hb d_Wh_becomeTenTo_46 rfl (lv_at hl 1 rfl) ?_
        refine lv_iconst (v := nI 1) hx hb d_Wh_becomeTenTo_47 (by decide) ?_
        refine lv_iadd hx hb d_Wh_becomeTenTo_48 ?_
        refine hw_ti (nI_add _ _) ?_
        refine wh_psize S hI hV hY hi d_Wh_becomeTenTo_49 (fun f11 H locs hI hV hf11 => ?_)
        have hF := fun q (h1 : q ≠ o i) (h2 : q ≠ r i) => (hf11 q h1).trans (hF q h1 h2)
        have hV : AllW D L f11 o r N (va_up v i (M + 1, va_up h M (10 ^ (ex % 9)))) := by simpa only [hw_up_eq, bx_uu] using hV
        exact hw_vret hx hb hr hlocks hI d_Wh_becomeTenTo_52 ⟨rfl, rfl, AllN.mk hO hV (by omega) ⟨(fun q => by by_cases e9 : q = M; (subst e9; rw [hw_up_eq]; exact ht.1); (rw [hw_up_ne e9]; exact hB q)), fun _ => by rw [Nat.add_sub_cancel, hw_up_eq]; exact ht.2, by rw [nvb_upS, nvb_zeros (n := 0) (Nat.zero_le _) (fun q _ hq => hz q (by omega)), nvb_zero, Nat.zero_add, hM, ten_num]⟩, hF⟩
      · exact absurd c9 (by omega)
    | succ g ih =>
      intro t h f1 H locs ls htg hB hz hV hF hI hl
      refine lv_iload_n hx hb d_Wh_becomeTenTo_13 rfl (lv_at hl 0 rfl) ?_
      refine lv_iload_n hx hb d_Wh_becomeTenTo_14 rfl (lv_at hl 1 rfl) ?_
      refine hw_icmp_ge (tgt := 31) hx hb d_Wh_becomeTenTo_15 (by decide) (by omega) (by omega) (fun c12 => ?_) (fun c12 => ?_)
      · exact absurd c12 (by omega)
      · refine lv_aload_n hx hb d_Wh_becomeTenTo_18 rfl (lv_at hl 2 rfl) ?_
        refine wh_limbs S hI hV hi d_Wh_becomeTenTo_19 ?_
        refine lv_iload_n hx hb d_Wh_becomeTenTo_22 rfl (lv_at hl 0 rfl) ?_
        refine lv_lconst (v := lN 0) hx hb d_Wh_becomeTenTo_23 rfl ?_
        refine wh_st S hI hV hY hi (by omega) d_Wh_becomeTenTo_24 (fun f13 H locs hI hV hf13 => ?_)
        have hF := fun q (h1 : q ≠ o i) (h2 : q ≠ r i) => (hf13 q h2).trans (hF q h1 h2)
        have hV : AllW D L f13 o r N (va_up v i ((v i).1, va_up h t 0)) := by simpa only [hw_up_eq, bx_uu] using hV
        refine lv_iinc (v := nI (t + 1)) (lv' := [(3, .int (nI (t + 1))), (2, .int (nI M)), (0, .ref (o i)), (1, .int (nI ex))]) hx hb d_Wh_becomeTenTo_25 hl (k := 0) rfl (nI_1 _) (by decide) rfl (fun ls hl => ?_)
        refine lv_goto (tgt := 13) hx hb d_Wh_becomeTenTo_28 (by decide) ?_
        exact ih (t + 1) (va_up h t 0) _ _ _ _ (by omega) (fun q => by by_cases e9 : q = t; (subst e9; rw [hw_up_eq]; exact nB_pos); (rw [hw_up_ne e9]; exact hB q)) (fun q hq => by by_cases e9 : q = t; (subst e9; rw [hw_up_eq]); (rw [hw_up_ne e9]; exact hz q (by omega))) hV hF hI hl
  refine lv_iconst (v := nI 0) hx hb d_Wh_becomeTenTo_11 (by decide) ?_
  refine lv_istore_n (lv' := [(3, .int (nI 0)), (2, .int (nI M)), (0, .ref (o i)), (1, .int (nI ex))]) hx hb d_Wh_becomeTenTo_12 rfl hl (by decide) rfl (fun ls hl => ?_)
  exact loop M 0 (v i).2 _ _ _ _ (by omega) (hO i hi).2.1 (fun q hq => absurd hq (by omega)) (fun z hz => by by_cases e9 : z = i; (subst e9; rw [hw_up_eq]; exact hV z hz); (rw [hw_up_ne e9]; exact hV z hz)) (fun _ _ _ => rfl) hI hl
end
section
set_option maxHeartbeats 4000000 in
set_option maxRecDepth 100000 in
theorem c_Wh_becomeProduct (l : Launch) (D : va_G) (t0 : Nat) (L : List Nat) (f : Nat → va_E) (sz : Nat) (o r : Nat → Nat) (N : Nat) (x : Nat → Nat) (i : Nat) (j k a1 a2 : Nat) (hi : i < N) (hY : Lay o r N) (hN : AllN D L f o r N x) (hj : j < N) (hk : k < N) (hij : i ≠ j) (hik : i ≠ k) (hxj : x j < nB ^ a1) (hxk : x k < nB ^ a2) (ha : a1 + a2 ≤ 41) : Met l y_Wh_becomeProduct (Cond.code y_Wh_becomeProduct b_Wh_becomeProduct 12 none :: TT) ({ frames := 7, cells := 0, slots := 0, locals := 130 } : Room) (hw_Pc t0 [.ref (o i), .ref (o j), .ref (o k)] D L f sz) (hw_Q D L sz (fun oc L' f' => oc = .returned none ∧ L = L' ∧ AllN D L f' o r N (va_up x i (x j * x k)) ∧ ∀ q, q ≠ o i → q ≠ r i → f' q = f q)) 0 0 (hw_A L sz) := by
  refine Met.ofW (cc := b_Wh_becomeProduct) (maxL := 12) (ret := none) (by decide) rfl ?_
  intro p e s m args below meth c s₁ B hml hv
  obtain ⟨rfl, rfl, hI⟩ := hw_start hv
  clear hv
  have hx := B.exec
  have hb := B.bytes
  have hr := B.returns
  have hlocks := B.notSynchronized
  have hown : s.vm.findClass "WallFractions$Whole" = some m.cls := findClass_of_methodNamed B.named
  have hT : ∀ w ∈ TT, w.before ([.ref (o i), .ref (o j), .ref (o k)]).toArray s = true := fun w h => atoms_spec (ws := (Cond.code y_Wh_becomeProduct b_Wh_becomeProduct 12 none :: TT)) B.pre w (List.mem_cons_of_mem _ h)
  have S : CallFix p m c b_Wh_becomeProduct 12 s ([.ref (o i), .ref (o j), .ref (o k)]).toArray TT "WallFractions$Whole" := ⟨hx, hb, hml, hown, hT⟩
  have hl := lv_entry ([.ref (o i), .ref (o j), .ref (o k)]) (n := 12) (Nat.le_of_ble_eq_true rfl)
  rw [lg_entry_eq]
  generalize (lg_sl ([.ref (o i), .ref (o j), .ref (o k)]) ++ List.replicate (12 - (lg_sl ([.ref (o i), .ref (o j), .ref (o k)])).length) Slot.unset).toArray = ls at hl ⊢
  have hl : lv_has ls 12 [(0, .ref (o i)), (1, .ref (o j)), (2, .ref (o k))] := hl
  skip
  obtain ⟨v, hV, hO⟩ := hN
  have hnB : nB = 1000000000 := rfl
  have h1 : (v j).1 ≤ a1 := ((hO j hj).2.size_le nB1).mpr hxj
  have h2 : (v k).1 ≤ a2 := ((hO k hk).2.size_le nB1).mpr hxk
  obtain ⟨J, hJ⟩ : ∃ J, J = (v j).1 := ⟨_, rfl⟩
  obtain ⟨K, hK⟩ : ∃ K, K = (v k).1 := ⟨_, rfl⟩
  obtain ⟨M, hM⟩ : ∃ M, M = J + K := ⟨_, rfl⟩
  refine lv_aload_n hx hb d_Wh_becomeProduct_0 rfl (lv_at hl 1 rfl) ?_
  refine wh_size S hI hV hj d_Wh_becomeProduct_1 ?_
  refine hw_ti (show _ = nI J from by rw [hJ]) ?_
  refine lv_aload_n hx hb d_Wh_becomeProduct_4 rfl (lv_at hl 2 rfl) ?_
  refine wh_size S hI hV hk d_Wh_becomeProduct_5 ?_
  refine hw_ti (show _ = nI K from by rw [hK]) ?_
  refine lv_iadd hx hb d_Wh_becomeProduct_8 ?_
  refine hw_ti (nI_add _ _) ?_
  refine hw_ti (show _ = nI M from by rw [hM]) ?_
  refine lv_istore_n (lv' := [(3, .int (nI M)), (0, .ref (o i)), (1, .ref (o j)), (2, .ref (o k))]) hx hb d_Wh_becomeProduct_9 rfl hl (by decide) rfl (fun ls hl => ?_)
  refine lv_iload_n hx hb d_Wh_becomeProduct_10 rfl (lv_at hl 0 rfl) ?_
  refine hw_cS (As := [.int (nI M)]) (rest := []) S hI m_Wh_requireRoom w_379 (c_Wh_requireRoom l D t0 L _ _ M (by omega)) hl.1 rfl rfl (Nat.le_of_ble_eq_true rfl) d_Wh_becomeProduct_11 ⟨Nat.le_of_ble_eq_true rfl, Nat.le_of_ble_eq_true rfl⟩ ⟨Nat.le_of_ble_eq_true rfl, Nat.le_of_ble_eq_true rfl⟩ (fun v9 L9 f14 H locs hp hI => ?_)
  refine W.cs (cells' := 0) (slots' := 0) rfl rfl ?_
  obtain ⟨hv9, rfl, rfl⟩ := hp
  cases hv9
  refine hw_stk (st' := []) rfl ?_
  have ej : ∀ z : Nat × (Nat → Nat), va_up v i z j = v j := fun z => hw_up_ne (fun e9 => hij e9.symm)
  have ek : ∀ z : Nat × (Nat → Nat), va_up v i z k = v k := fun z => hw_up_ne (fun e9 => hik e9.symm)
  have outer : ∀ (g a : Nat) (h : Nat → Nat) (f1 : Nat → va_E) (H : Heap) (locs : List Loc) (ls : Array Slot), a + g = J → (∀ q, h q < nB) → nvb nB h (a + K) = nvb nB (v j).2 a * nvb nB (v k).2 K → (∀ q, a + K ≤ q → q < M → h q = 0) → AllW D L f1 o r N (va_up v i ((v i).1, h)) → (∀ q, q ≠ o i → q ≠ r i → f1 q = f q) → hw_I D t0 (hw_A L s.heap.size) s L f1 H locs → lv_has ls 12 [(4, .int (nI a)), (3, .int (nI M)), (0, .ref (o i)), (1, .ref (o j)), (2, .ref (o k))] → W p l e (headSpec (Cond.code y_Wh_becomeProduct b_Wh_becomeProduct 12 none :: TT) ({ frames := 7, cells := 0, slots := 0, locals := 130 } : Room)).room s m ([.ref (o i), .ref (o j), .ref (o k)]).toArray below meth c H locs 0 0 (MQ below (hw_Q D L s.heap.size (fun oc L' f' => oc = .returned none ∧ L = L' ∧ AllN D L f' o r N (va_up x i (x j * x k)) ∧ ∀ q, q ≠ o i → q ≠ r i → f' q = f q)) ([.ref (o i), .ref (o j), .ref (o k)]).toArray s 0 0 (hw_A L s.heap.size)) (F0 m 40 ls []) := by
    intro g
    induction g with
    | zero =>
      intro a h f1 H locs ls hag hB hS hz hV hF hI hl
      refine lv_iload hx hb d_Wh_becomeProduct_40 (lv_at hl 0 rfl) ?_
      refine lv_aload_n hx hb d_Wh_becomeProduct_42 rfl (lv_at hl 3 rfl) ?_
      refine wh_size S hI hV hj d_Wh_becomeProduct_43 ?_
      refine hw_ti (show _ = nI J from by rw [ej, hJ]) ?_
      refine hw_icmp_ge (tgt := 152) hx hb d_Wh_becomeProduct_46 (by decide) (by omega) (by omega) (fun c15 => ?_) (fun c15 => ?_)
      · refine lv_aload_n hx hb d_Wh_becomeProduct_152 rfl (lv_at hl 2 rfl) ?_
        refine lv_iload_n hx hb d_Wh_becomeProduct_153 rfl (lv_at hl 1 rfl) ?_
        have haJ : a = J := by omega
        refine hw_cV (As := [.int (nI M)]) (rest := []) S hI m_Wh_settle w_385 (c_Wh_settle l D t0 L _ _ o r N (va_up v i ((v i).1, h)) i M hi hY hV (by omega) (by rw [hw_up_eq]; exact hB)) (hV _ hi).1 rfl hl.1 rfl rfl (Nat.le_of_ble_eq_true rfl) d_Wh_becomeProduct_154 ⟨Nat.le_of_ble_eq_true rfl, Nat.le_of_ble_eq_true rfl⟩ ⟨Nat.le_of_ble_eq_true rfl, Nat.le_of_ble_eq_true rfl⟩ (fun v9 L9 f16 H locs hp hI => ?_)
        refine W.cs (cells' := 0) (slots' := 0) rfl rfl ?_
        obtain ⟨hv9, rfl, n9, hn9, hk9, hV, hF9⟩ := hp
        cases hv9
        refine hw_stk (st' := []) rfl ?_
        rw [hw_up_eq] at hk9
        have hV : AllW D L f16 o r N (va_up v i (n9, h)) := by simpa only [hw_up_eq, bx_uu] using hV
        have hval : nvb nB h M = x j * x k := by rw [← (hO j hj).2.2.2, ← (hO k hk).2.2.2, ← hJ, ← hK, hM, ← haJ]; exact hS
        exact hw_vret hx hb hr hlocks hI d_Wh_becomeProduct_157 ⟨rfl, rfl, AllN.mk hO hV (by omega) (by rw [← hval]; exact hk9), fun q h1 h2 => (hF9 q h1).trans (hF q h1 h2)⟩
      · exact absurd c15 (by omega)
    | succ g ih =>
      intro a h f1 H locs ls hag hB hS hz hV hF hI hl
      refine lv_iload hx hb d_Wh_becomeProduct_40 (lv_at hl 0 rfl) ?_
      refine lv_aload_n hx hb d_Wh_becomeProduct_42 rfl (lv_at hl 3 rfl) ?_
      refine wh_size S hI hV hj d_Wh_becomeProduct_43 ?_
      refine hw_ti (show _ = nI J from by rw [ej, hJ]) ?_
      refine hw_icmp_ge (tgt := 152) hx hb d_Wh_becomeProduct_46 (by decide) (by omega) (by omega) (fun c17 => ?_) (fun c17 => ?_)
      · exact absurd c17 (by omega)
      · refine lv_aload_n hx hb d_Wh_becomeProduct_49 rfl (lv_at hl 3 rfl) ?_
        refine wh_limbs S hI hV hj d_Wh_becomeProduct_50 ?_
        refine lv_iload hx hb d_Wh_becomeProduct_53 (lv_at hl 0 rfl) ?_
        refine wh_ld S hI hV hj (by omega) d_Wh_becomeProduct_55 ?_
        refine hw_tl (show _ = lN ((v j).2 a) from by rw [ej]) ?_
        refine lv_lstore (lv' := [(5, .long (lN ((v j).2 a))), (4, .int (nI a)), (3, .int (nI M)), (0, .ref (o i)), (1, .ref (o j)), (2, .ref (o k))]) hx hb d_Wh_becomeProduct_56 hl (by decide) rfl (fun ls hl => ?_)
        refine lv_lconst (v := lN 0) hx hb d_Wh_becomeProduct_58 rfl ?_
        refine lv_lstore (lv' := [(7, .long (lN 0)), (5, .long (lN ((v j).2 a))), (4, .int (nI a)), (3, .int (nI M)), (0, .ref (o i)), (1, .ref (o j)), (2, .ref (o k))]) hx hb d_Wh_becomeProduct_59 hl (by decide) rfl (fun ls hl => ?_)
        refine lv_iconst (v := nI 0) hx hb d_Wh_becomeProduct_61 (by decide) ?_
        refine lv_istore (lv' := [(9, .int (nI 0)), (7, .long (lN 0)), (5, .long (lN ((v j).2 a))), (4, .int (nI a)), (3, .int (nI M)), (0, .ref (o i)), (1, .ref (o j)), (2, .ref (o k))]) hx hb d_Wh_becomeProduct_62 hl (by decide) rfl (fun ls hl => ?_)
        have hfa := (hO j hj).2.1 a
        have inner : ∀ (g2 t cr : Nat) (h2 : Nat → Nat) (f1 : Nat → va_E) (H : Heap) (locs : List Loc) (ls : Array Slot), t + g2 = K → cr < nB → (∀ q, h2 q < nB) → (∀ q, q < a → h2 q = h q) → (∀ q, a + t ≤ q → h2 q = h q) → nvb nB (nsh h2 a) t + cr * nB ^ t = nvb nB (nsh h a) t + (v j).2 a * nvb nB (v k).2 t → AllW D L f1 o r N (va_up v i ((v i).1, h2)) → (∀ q, q ≠ o i → q ≠ r i → f1 q = f q) → hw_I D t0 (hw_A L s.heap.size) s L f1 H locs → lv_has ls 12 [(9, .int (nI t)), (7, .long (lN cr)), (5, .long (lN ((v j).2 a))), (4, .int (nI a)), (3, .int (nI M)), (0, .ref (o i)), (1, .ref (o j)), (2, .ref (o k))] → W p l e (headSpec (Cond.code y_Wh_becomeProduct b_Wh_becomeProduct 12 none :: TT) ({ frames := 7, cells := 0, slots := 0, locals := 130 } : Room)).room s m ([.ref (o i), .ref (o j), .ref (o k)]).toArray below meth c H locs 0 0 (MQ below (hw_Q D L s.heap.size (fun oc L' f' => oc = .returned none ∧ L = L' ∧ AllN D L f' o r N (va_up x i (x j * x k)) ∧ ∀ q, q ≠ o i → q ≠ r i → f' q = f q)) ([.ref (o i), .ref (o j), .ref (o k)]).toArray s 0 0 (hw_A L s.heap.size)) (F0 m 64 ls []) := by
          intro g2
          induction g2 with
          | zero =>
            intro t cr h2 f1 H locs ls htg hcr hB2 hlo hhi hS2 hV hF hI hl
            refine lv_iload hx hb d_Wh_becomeProduct_64 (lv_at hl 0 rfl) ?_
            refine lv_aload_n hx hb d_Wh_becomeProduct_66 rfl (lv_at hl 7 rfl) ?_
            refine wh_size S hI hV hk d_Wh_becomeProduct_67 ?_
            refine hw_ti (show _ = nI K from by rw [ek, hK]) ?_
            refine hw_icmp_ge (tgt := 132) hx hb d_Wh_becomeProduct_70 (by decide) (by omega) (by omega) (fun c18 => ?_) (fun c18 => ?_)
            · have htK : t = K := by omega
              refine lv_aload_n hx hb d_Wh_becomeProduct_132 rfl (lv_at hl 5 rfl) ?_
              refine wh_limbs S hI hV hi d_Wh_becomeProduct_133 ?_
              refine lv_iload hx hb d_Wh_becomeProduct_136 (lv_at hl 3 rfl) ?_
              refine lv_aload_n hx hb d_Wh_becomeProduct_138 rfl (lv_at hl 7 rfl) ?_
              refine wh_size S hI hV hk d_Wh_becomeProduct_139 ?_
              refine hw_ti (show _ = nI K from by rw [ek, hK]) ?_
              refine lv_iadd hx hb d_Wh_becomeProduct_142 ?_
              refine hw_ti (nI_add _ _) ?_
              refine lv_lload hx hb d_Wh_becomeProduct_143 (lv_at hl 1 rfl) ?_
              refine wh_st S hI hV hY hi (by omega) d_Wh_becomeProduct_145 (fun f19 H locs hI hV hf19 => ?_)
              have hF := fun q (h1 : q ≠ o i) (h2 : q ≠ r i) => (hf19 q h2).trans (hF q h1 h2)
              have hV : AllW D L f19 o r N (va_up v i ((v i).1, va_up h2 (a + K) cr)) := by simpa only [hw_up_eq, bx_uu] using hV
              refine lv_iinc (v := nI (a + 1)) (lv' := [(4, .int (nI (a + 1))), (9, .int (nI t)), (7, .long (lN cr)), (5, .long (lN ((v j).2 a))), (3, .int (nI M)), (0, .ref (o i)), (1, .ref (o j)), (2, .ref (o k))]) hx hb d_Wh_becomeProduct_146 hl (k := 3) rfl (nI_1 _) (by decide) rfl (fun ls hl => ?_)
              refine lv_goto (tgt := 40) hx hb d_Wh_becomeProduct_149 (by decide) ?_
              rw [htK] at hS2 hhi
              exact ih (a + 1) (va_up h2 (a + K) cr) _ _ _ _ (by omega) (fun q => by by_cases e9 : q = a + K; (rw [e9, hw_up_eq]; exact hcr); (rw [hw_up_ne e9]; exact hB2 q)) (prod_step hlo hS2 hS) (fun q h1 h2 => by rw [hw_up_ne (by omega), hhi q (by omega)]; exact hz q (by omega) h2) hV hF hI (lv_sub hl [0, 4, 5, 6, 7] rfl)
            · exact absurd c18 (by omega)
          | succ g2 ih2 =>
            intro t cr h2 f1 H locs ls htg hcr hB2 hlo hhi hS2 hV hF hI hl
            refine lv_iload hx hb d_Wh_becomeProduct_64 (lv_at hl 0 rfl) ?_
            refine lv_aload_n hx hb d_Wh_becomeProduct_66 rfl (lv_at hl 7 rfl) ?_
            refine wh_size S hI hV hk d_Wh_becomeProduct_67 ?_
            refine hw_ti (show _ = nI K from by rw [ek, hK]) ?_
            refine hw_icmp_ge (tgt := 132) hx hb d_Wh_becomeProduct_70 (by decide) (by omega) (by omega) (fun c20 => ?_) (fun c20 => ?_)
            · exact absurd c20 (by omega)
            · have hkt := (hO k hk).2.1 t
              have hpl := prod_lt hfa hkt (hB2 (a + t)) hcr
              have hnn : nB * nB = 1000000000000000000 := rfl
              have hq : (h2 (a + t) + (v j).2 a * (v k).2 t + cr) / nB < nB := (Nat.div_lt_iff_lt_mul nB_pos).mpr hpl
              have hdm := Nat.div_add_mod (h2 (a + t) + (v j).2 a * (v k).2 t + cr) nB
              have hml9 := Nat.mod_lt (h2 (a + t) + (v j).2 a * (v k).2 t + cr) nB_pos
              rw [Nat.mul_comm] at hdm
              refine lv_aload_n hx hb d_Wh_becomeProduct_73 rfl (lv_at hl 5 rfl) ?_
              refine wh_limbs S hI hV hi d_Wh_becomeProduct_74 ?_
              refine lv_iload hx hb d_Wh_becomeProduct_77 (lv_at hl 3 rfl) ?_
              refine lv_iload hx hb d_Wh_becomeProduct_79 (lv_at hl 0 rfl) ?_
              refine lv_iadd hx hb d_Wh_becomeProduct_81 ?_
              refine hw_ti (nI_add _ _) ?_
              refine wh_ld S hI hV hi (by omega) d_Wh_becomeProduct_82 ?_
              refine hw_tl (show _ = lN (h2 (a + t)) from by rw [hw_up_eq]) ?_
              refine lv_lload hx hb d_Wh_becomeProduct_83 (lv_at hl 2 rfl) ?_
              refine lv_aload_n hx hb d_Wh_becomeProduct_85 rfl (lv_at hl 7 rfl) ?_
              refine wh_limbs S hI hV hk d_Wh_becomeProduct_86 ?_
              refine lv_iload hx hb d_Wh_becomeProduct_89 (lv_at hl 0 rfl) ?_
              refine wh_ld S hI hV hk (by omega) d_Wh_becomeProduct_91 ?_
              refine hw_tl (show _ = lN ((v k).2 t) from by rw [ek]) ?_
              refine lv_lmul hx hb d_Wh_becomeProduct_92 ?_
              refine hw_tl (lN_mul _ _) ?_
              refine lv_ladd hx hb d_Wh_becomeProduct_93 ?_
              refine hw_tl (lN_add _ _) ?_
              refine lv_lload hx hb d_Wh_becomeProduct_94 (lv_at hl 1 rfl) ?_
              refine lv_ladd hx hb d_Wh_becomeProduct_96 ?_
              refine hw_tl (lN_add _ _) ?_
              refine lv_lstore (lv' := [(10, .long (lN (((h2 (a + t)) + (((v j).2 a) * ((v k).2 t))) + cr))), (9, .int (nI t)), (7, .long (lN cr)), (5, .long (lN ((v j).2 a))), (4, .int (nI a)), (3, .int (nI M)), (0, .ref (o i)), (1, .ref (o j)), (2, .ref (o k))]) hx hb d_Wh_becomeProduct_97 hl (by decide) rfl (fun ls hl => ?_)
              refine lv_lload hx hb d_Wh_becomeProduct_99 (lv_at hl 0 rfl) ?_
              refine hw_ldc2 (v := lN nB) hx hb hown (hT _ w_56) d_Wh_becomeProduct_101 ?_
              refine lv_ldiv hx hb d_Wh_becomeProduct_104 (by intro h9; have h8 := (pk_lEQ (b := 0) (by omega) (by decide)).mp h9; omega) ?_
              refine hw_tl (pk_lDiv (by omega) (by omega) (by omega)) ?_
              refine lv_lstore (lv' := [(7, .long (lN ((((h2 (a + t)) + (((v j).2 a) * ((v k).2 t))) + cr) / nB))), (10, .long (lN (((h2 (a + t)) + (((v j).2 a) * ((v k).2 t))) + cr))), (9, .int (nI t)), (5, .long (lN ((v j).2 a))), (4, .int (nI a)), (3, .int (nI M)), (0, .ref (o i)), (1, .ref (o j)), (2, .ref (o k))]) hx hb d_Wh_becomeProduct_105 hl (by decide) rfl (fun ls hl => ?_)
              refine lv_aload_n hx hb d_Wh_becomeProduct_107 rfl (lv_at hl 6 rfl) ?_
              refine wh_limbs S hI hV hi d_Wh_becomeProduct_108 ?_
              refine lv_iload hx hb d_Wh_becomeProduct_111 (lv_at hl 4 rfl) ?_
              refine lv_iload hx hb d_Wh_becomeProduct_113 (lv_at hl 2 rfl) ?_
              refine lv_iadd hx hb d_Wh_becomeProduct_115 ?_
              refine hw_ti (nI_add _ _) ?_
              refine lv_lload hx hb d_Wh_becomeProduct_116 (lv_at hl 1 rfl) ?_
              refine lv_lload hx hb d_Wh_becomeProduct_118 (lv_at hl 0 rfl) ?_
              refine hw_ldc2 (v := lN nB) hx hb hown (hT _ w_56) d_Wh_becomeProduct_120 ?_
              refine lv_lmul hx hb d_Wh_becomeProduct_123 ?_
              refine hw_tl (lN_mul _ _) ?_
              refine lv_lsub hx hb d_Wh_becomeProduct_124 ?_
              refine hw_tl (lN_sub (by omega)) ?_
              refine wh_st S hI hV hY hi (by omega) d_Wh_becomeProduct_125 (fun f21 H locs hI hV hf21 => ?_)
              have hF := fun q (h1 : q ≠ o i) (h2 : q ≠ r i) => (hf21 q h2).trans (hF q h1 h2)
              have hV : AllW D L f21 o r N (va_up v i ((v i).1, va_up h2 (a + t) (h2 (a + t) + (v j).2 a * (v k).2 t + cr - (h2 (a + t) + (v j).2 a * (v k).2 t + cr) / nB * nB))) := by simpa only [hw_up_eq, bx_uu] using hV
              refine lv_iinc (v := nI (t + 1)) (lv' := [(9, .int (nI (t + 1))), (7, .long (lN ((((h2 (a + t)) + (((v j).2 a) * ((v k).2 t))) + cr) / nB))), (10, .long (lN (((h2 (a + t)) + (((v j).2 a) * ((v k).2 t))) + cr))), (5, .long (lN ((v j).2 a))), (4, .int (nI a)), (3, .int (nI M)), (0, .ref (o i)), (1, .ref (o j)), (2, .ref (o k))]) hx hb d_Wh_becomeProduct_126 hl (k := 2) rfl (nI_1 _) (by decide) rfl (fun ls hl => ?_)
              refine lv_goto (tgt := 64) hx hb d_Wh_becomeProduct_129 (by decide) ?_
              have hat := hhi (a + t) (Nat.le_refl _)
              exact ih2 (t + 1) ((h2 (a + t) + (v j).2 a * (v k).2 t + cr) / nB) (va_up h2 (a + t) (h2 (a + t) + (v j).2 a * (v k).2 t + cr - (h2 (a + t) + (v j).2 a * (v k).2 t + cr) / nB * nB)) _ _ _ _ (by omega) hq (fun q => by by_cases e9 : q = a + t; (rw [e9, hw_up_eq]; omega); (rw [hw_up_ne e9]; exact hB2 q)) (fun q hq => by rw [hw_up_ne (by omega)]; exact hlo q hq) (fun q hq => by rw [hw_up_ne (by omega)]; exact hhi q (by omega)) (by rw [nsh_up, nvb_digit (w := h2 (a + t) + (v j).2 a * (v k).2 t) hS2 (by omega), nvb_succ, nvb_succ, hat]; unfold nsh; grind) hV hF hI (lv_sub hl [0, 1, 3, 4, 5, 6, 7, 8] rfl)
        exact inner K 0 0 h _ _ _ _ (by omega) nB_pos hB (fun _ _ => rfl) (fun _ _ => rfl) (by simp [nvb_zero]) hV hF hI hl
  have loop : ∀ (g t : Nat) (h : Nat → Nat) (f1 : Nat → va_E) (H : Heap) (locs : List Loc) (ls : Array Slot), t + g = M → (∀ q, h q < nB) → (∀ q, q < t → h q = 0) → AllW D L f1 o r N (va_up v i ((v i).1, h)) → (∀ q, q ≠ o i → q ≠ r i → f1 q = f q) → hw_I D t0 (hw_A L s.heap.size) s L f1 H locs → lv_has ls 12 [(4, .int (nI t)), (3, .int (nI M)), (0, .ref (o i)), (1, .ref (o j)), (2, .ref (o k))] → W p l e (headSpec (Cond.code y_Wh_becomeProduct b_Wh_becomeProduct 12 none :: TT) ({ frames := 7, cells := 0, slots := 0, locals := 130 } : Room)).room s m ([.ref (o i), .ref (o j), .ref (o k)]).toArray below meth c H locs 0 0 (MQ below (hw_Q D L s.heap.size (fun oc L' f' => oc = .returned none ∧ L = L' ∧ AllN D L f' o r N (va_up x i (x j * x k)) ∧ ∀ q, q ≠ o i → q ≠ r i → f' q = f q)) ([.ref (o i), .ref (o j), .ref (o k)]).toArray s 0 0 (hw_A L s.heap.size)) (F0 m 17 ls []) := by
    intro g
    induction g with
    | zero =>
      intro t h f1 H locs ls htg hB hz hV hF hI hl
      refine lv_iload hx hb d_Wh_becomeProduct_17 (lv_at hl 0 rfl) ?_
      refine lv_iload_n hx hb d_Wh_becomeProduct_19 rfl (lv_at hl 1 rfl) ?_
      refine hw_icmp_ge (tgt := 37) hx hb d_Wh_becomeProduct_20 (by decide) (by omega) (by omega) (fun c22 => ?_) (fun c22 => ?_)
      · refine lv_iconst (v := nI 0) hx hb d_Wh_becomeProduct_37 (by decide) ?_
        refine lv_istore (lv' := [(4, .int (nI 0)), (3, .int (nI M)), (0, .ref (o i)), (1, .ref (o j)), (2, .ref (o k))]) hx hb d_Wh_becomeProduct_38 hl (by decide) rfl (fun ls hl => ?_)
        exact outer J 0 h _ _ _ _ (by omega) hB (by rw [nvb_zero, Nat.zero_mul, nvb_zeros (n := 0) (Nat.zero_le _) (fun q _ hq => hz q (by omega)), nvb_zero]) (fun q _ hq => hz q (by omega)) hV hF hI hl
      · exact absurd c22 (by omega)
    | succ g ih =>
      intro t h f1 H locs ls htg hB hz hV hF hI hl
      refine lv_iload hx hb d_Wh_becomeProduct_17 (lv_at hl 0 rfl) ?_
      refine lv_iload_n hx hb d_Wh_becomeProduct_19 rfl (lv_at hl 1 rfl) ?_
      refine hw_icmp_ge (tgt := 37) hx hb d_Wh_becomeProduct_20 (by decide) (by omega) (by omega) (fun c23 => ?_) (fun c23 => ?_)
      · exact absurd c23 (by omega)
      · refine lv_aload_n hx hb d_Wh_becomeProduct_23 rfl (lv_at hl 2 rfl) ?_
        refine wh_limbs S hI hV hi d_Wh_becomeProduct_24 ?_
        refine lv_iload hx hb d_Wh_becomeProduct_27 (lv_at hl 0 rfl) ?_
        refine lv_lconst (v := lN 0) hx hb d_Wh_becomeProduct_29 rfl ?_
        refine wh_st S hI hV hY hi (by omega) d_Wh_becomeProduct_30 (fun f24 H locs hI hV hf24 => ?_)
        have hF := fun q (h1 : q ≠ o i) (h2 : q ≠ r i) => (hf24 q h2).trans (hF q h1 h2)
        have hV : AllW D L f24 o r N (va_up v i ((v i).1, va_up h t 0)) := by simpa only [hw_up_eq, bx_uu] using hV
        refine lv_iinc (v := nI (t + 1)) (lv' := [(4, .int (nI (t + 1))), (3, .int (nI M)), (0, .ref (o i)), (1, .ref (o j)), (2, .ref (o k))]) hx hb d_Wh_becomeProduct_31 hl (k := 0) rfl (nI_1 _) (by decide) rfl (fun ls hl => ?_)
        refine lv_goto (tgt := 17) hx hb d_Wh_becomeProduct_34 (by decide) ?_
        exact ih (t + 1) (va_up h t 0) _ _ _ _ (by omega) (fun q => by by_cases e9 : q = t; (subst e9; rw [hw_up_eq]; exact nB_pos); (rw [hw_up_ne e9]; exact hB q)) (fun q hq => by by_cases e9 : q = t; (subst e9; rw [hw_up_eq]); (rw [hw_up_ne e9]; exact hz q (by omega))) hV hF hI hl
  refine lv_iconst (v := nI 0) hx hb d_Wh_becomeProduct_14 (by decide) ?_
  refine lv_istore (lv' := [(4, .int (nI 0)), (3, .int (nI M)), (0, .ref (o i)), (1, .ref (o j)), (2, .ref (o k))]) hx hb d_Wh_becomeProduct_15 hl (by decide) rfl (fun ls hl => ?_)
  exact loop M 0 (v i).2 _ _ _ _ (by omega) (hO i hi).2.1 (fun q hq => absurd hq (by omega)) (fun z hz => by by_cases e9 : z = i; (subst e9; rw [hw_up_eq]; exact hV z hz); (rw [hw_up_ne e9]; exact hV z hz)) (fun _ _ _ => rfl) hI hl
end
section
set_option maxHeartbeats 4000000 in
set_option maxRecDepth 100000 in
theorem c_Dv_lay (l : Launch) (D : va_G) (t0 : Nat) (L : List Nat) (f : Nat → va_E) (sz : Nat) (o r : Nat → Nat) (N : Nat) (v : Nat → Nat × (Nat → Nat)) (j a : Nat) (u : Nat → Nat) (sc : Nat) (hj : j < N) (hV : AllW D L f o r N v) (hU : arrN D L f a 42 u) (hra : ∀ z, z < N → a ≠ r z) (hn : (v j).1 ≤ 41) (hB : ∀ q, (v j).2 q < nB) (hsc : sc ≤ nB) : Met l y_Dv_lay (Cond.code y_Dv_lay b_Dv_lay 9 none :: TT) ({ frames := 0, cells := 0, slots := 0, locals := 0 } : Room) (hw_Pc t0 [.ref (o j), .long (lN sc), .ref (a)] D L f sz) (hw_Q D L sz (fun oc L' f' => oc = .returned none ∧ L = L' ∧ ∃ u', arrN D L f' a 42 u' ∧ (∀ q, q ≤ (v j).1 → u' q < nB) ∧ nvb nB u' ((v j).1 + 1) = nvb nB (v j).2 (v j).1 * sc ∧ ∀ q, q ≠ a → f' q = f q)) 0 0 (hw_A L sz) := by
  refine Met.ofW (cc := b_Dv_lay) (maxL := 9) (ret := none) (by decide) rfl ?_
  intro p e s m args below meth c s₁ B hml hv
  obtain ⟨rfl, rfl, hI⟩ := hw_start hv
  clear hv
  have hx := B.exec
  have hb := B.bytes
  have hr := B.returns
  have hlocks := B.notSynchronized
  have hown : s.vm.findClass "WallFractions$Divider" = some m.cls := findClass_of_methodNamed B.named
  have hT : ∀ w ∈ TT, w.before ([.ref (o j), .long (lN sc), .ref (a)]).toArray s = true := fun w h => atoms_spec (ws := (Cond.code y_Dv_lay b_Dv_lay 9 none :: TT)) B.pre w (List.mem_cons_of_mem _ h)
  have S : CallFix p m c b_Dv_lay 9 s ([.ref (o j), .long (lN sc), .ref (a)]).toArray TT "WallFractions$Divider" := ⟨hx, hb, hml, hown, hT⟩
  have hl := lv_entry ([.ref (o j), .long (lN sc), .ref (a)]) (n := 9) (Nat.le_of_ble_eq_true rfl)
  rw [lg_entry_eq]
  generalize (lg_sl ([.ref (o j), .long (lN sc), .ref (a)]) ++ List.replicate (9 - (lg_sl ([.ref (o j), .long (lN sc), .ref (a)])).length) Slot.unset).toArray = ls at hl ⊢
  have hl : lv_has ls 9 [(0, .ref (o j)), (1, .long (lN sc)), (3, .ref (a))] := hl
  skip
  have hnB : nB = 1000000000 := rfl
  obtain ⟨M, hM⟩ : ∃ M, M = (v j).1 := ⟨_, rfl⟩
  have hVo : ∀ z, z < N → o z ≠ a := fun z hz => hV.ne hU hz
  have loop : ∀ (g t cr : Nat) (u1 : Nat → Nat) (f1 : Nat → va_E) (H : Heap) (locs : List Loc) (ls : Array Slot), t + g = M → cr < nB → (∀ q, q < t → u1 q < nB) → nvb nB u1 t + cr * nB ^ t = nvb nB (v j).2 t * sc → AllW D L f1 o r N v → arrN D L f1 a 42 u1 → (∀ q, q ≠ a → f1 q = f q) → hw_I D t0 (hw_A L s.heap.size) s L f1 H locs → lv_has ls 9 [(6, .int (nI t)), (4, .long (lN cr)), (0, .ref (o j)), (1, .long (lN sc)), (3, .ref (a))] → W p l e (headSpec (Cond.code y_Dv_lay b_Dv_lay 9 none :: TT) ({ frames := 0, cells := 0, slots := 0, locals := 0 } : Room)).room s m ([.ref (o j), .long (lN sc), .ref (a)]).toArray below meth c H locs 0 0 (MQ below (hw_Q D L s.heap.size (fun oc L' f' => oc = .returned none ∧ L = L' ∧ ∃ u', arrN D L f' a 42 u' ∧ (∀ q, q ≤ (v j).1 → u' q < nB) ∧ nvb nB u' ((v j).1 + 1) = nvb nB (v j).2 (v j).1 * sc ∧ ∀ q, q ≠ a → f' q = f q)) ([.ref (o j), .long (lN sc), .ref (a)]).toArray s 0 0 (hw_A L s.heap.size)) (F0 m 6 ls []) := by
    intro g
    induction g with
    | zero =>
      intro t cr u1 f1 H locs ls htg hcr hB1 hS hV hU hF hI hl
      refine lv_iload hx hb d_Dv_lay_6 (lv_at hl 0 rfl) ?_
      refine lv_aload_n hx hb d_Dv_lay_8 rfl (lv_at hl 2 rfl) ?_
      refine wh_sizeN S hI hV hj (by decide) d_Dv_lay_9 ?_
      refine hw_ti (show _ = nI M from by rw [hM]) ?_
      refine hw_icmp_ge (tgt := 56) hx hb d_Dv_lay_12 (by decide) (by omega) (by omega) (fun c1 => ?_) (fun c1 => ?_)
      · refine lv_aload_n hx hb d_Dv_lay_56 rfl (lv_at hl 4 rfl) ?_
        refine lv_aload_n hx hb d_Dv_lay_57 rfl (lv_at hl 2 rfl) ?_
        refine wh_sizeN S hI hV hj (by decide) d_Dv_lay_58 ?_
        refine hw_ti (show _ = nI M from by rw [hM]) ?_
        refine lv_lload hx hb d_Dv_lay_61 (lv_at hl 1 rfl) ?_
        refine ar_st S hI hU (by decide) (by omega) d_Dv_lay_63 (fun f2 H locs hI hU hf2 => ?_)
        have hF := fun q (h1 : q ≠ a) => (hf2 q h1).trans (hF q h1)
        have hV := hV.fr (fun z hz => ⟨hf2 _ (hVo z hz), hf2 _ (fun e9 => hra z hz e9.symm)⟩)
        have htM : t = M := by omega
        rw [htM] at hS hB1
        exact hw_vret hx hb hr hlocks hI d_Dv_lay_64 ⟨rfl, rfl, _, hU, (fun q hq => by by_cases e9 : q = M; (subst e9; rw [hw_up_eq]; exact hcr); (rw [hw_up_ne e9]; exact hB1 q (by omega))), by rw [← hM, nvb_upS]; exact hS, hF⟩
      · exact absurd c1 (by omega)
    | succ g ih =>
      intro t cr u1 f1 H locs ls htg hcr hB1 hS hV hU hF hI hl
      refine lv_iload hx hb d_Dv_lay_6 (lv_at hl 0 rfl) ?_
      refine lv_aload_n hx hb d_Dv_lay_8 rfl (lv_at hl 2 rfl) ?_
      refine wh_sizeN S hI hV hj (by decide) d_Dv_lay_9 ?_
      refine hw_ti (show _ = nI M from by rw [hM]) ?_
      refine hw_icmp_ge (tgt := 56) hx hb d_Dv_lay_12 (by decide) (by omega) (by omega) (fun c3 => ?_) (fun c3 => ?_)
      · exact absurd c3 (by omega)
      · have hvt := hB t
        have hpr : (v j).2 t * sc ≤ (nB - 1) * nB := Nat.mul_le_mul (by omega) hsc
        have hnn : nB * nB = 1000000000000000000 := rfl
        have hn2 : (nB - 1) * nB = 999999999000000000 := rfl
        have hq : ((v j).2 t * sc + cr) / nB < nB := (Nat.div_lt_iff_lt_mul nB_pos).mpr (by omega)
        have hdm := Nat.div_add_mod ((v j).2 t * sc + cr) nB
        have hml9 := Nat.mod_lt ((v j).2 t * sc + cr) nB_pos
        rw [Nat.mul_comm] at hdm
        refine lv_aload_n hx hb d_Dv_lay_15 rfl (lv_at hl 2 rfl) ?_
        refine wh_limbsN S hI hV hj (by decide) d_Dv_lay_16 ?_
        refine lv_iload hx hb d_Dv_lay_19 (lv_at hl 0 rfl) ?_
        refine wh_ld S hI hV hj (by omega) d_Dv_lay_21 ?_
        refine lv_lload_n hx hb d_Dv_lay_22 rfl (lv_at hl 3 rfl) ?_
        refine lv_lmul hx hb d_Dv_lay_23 ?_
        refine hw_tl (lN_mul _ _) ?_
        refine lv_lload hx hb d_Dv_lay_24 (lv_at hl 1 rfl) ?_
        refine lv_ladd hx hb d_Dv_lay_26 ?_
        refine hw_tl (lN_add _ _) ?_
        refine lv_lstore (lv' := [(7, .long (lN ((((v j).2 t) * sc) + cr))), (6, .int (nI t)), (4, .long (lN cr)), (0, .ref (o j)), (1, .long (lN sc)), (3, .ref (a))]) hx hb d_Dv_lay_27 hl (by decide) rfl (fun ls hl => ?_)
        refine lv_lload hx hb d_Dv_lay_29 (lv_at hl 0 rfl) ?_
        refine hw_ldc2 (v := lN nB) hx hb hown (hT _ w_476) d_Dv_lay_31 ?_
        refine lv_ldiv hx hb d_Dv_lay_34 (by intro h9; have h8 := (pk_lEQ (b := 0) (by omega) (by decide)).mp h9; omega) ?_
        refine hw_tl (pk_lDiv (by omega) (by omega) (by omega)) ?_
        refine lv_lstore (lv' := [(4, .long (lN (((((v j).2 t) * sc) + cr) / nB))), (7, .long (lN ((((v j).2 t) * sc) + cr))), (6, .int (nI t)), (0, .ref (o j)), (1, .long (lN sc)), (3, .ref (a))]) hx hb d_Dv_lay_35 hl (by decide) rfl (fun ls hl => ?_)
        refine lv_aload_n hx hb d_Dv_lay_37 rfl (lv_at hl 5 rfl) ?_
        refine lv_iload hx hb d_Dv_lay_38 (lv_at hl 2 rfl) ?_
        refine lv_lload hx hb d_Dv_lay_40 (lv_at hl 1 rfl) ?_
        refine lv_lload hx hb d_Dv_lay_42 (lv_at hl 0 rfl) ?_
        refine hw_ldc2 (v := lN nB) hx hb hown (hT _ w_476) d_Dv_lay_44 ?_
        refine lv_lmul hx hb d_Dv_lay_47 ?_
        refine hw_tl (lN_mul _ _) ?_
        refine lv_lsub hx hb d_Dv_lay_48 ?_
        refine hw_tl (lN_sub (by omega)) ?_
        refine ar_st S hI hU (by decide) (by omega) d_Dv_lay_49 (fun f4 H locs hI hU hf4 => ?_)
        have hF := fun q (h1 : q ≠ a) => (hf4 q h1).trans (hF q h1)
        have hV := hV.fr (fun z hz => ⟨hf4 _ (hVo z hz), hf4 _ (fun e9 => hra z hz e9.symm)⟩)
        refine lv_iinc (v := nI (t + 1)) (lv' := [(6, .int (nI (t + 1))), (4, .long (lN (((((v j).2 t) * sc) + cr) / nB))), (7, .long (lN ((((v j).2 t) * sc) + cr))), (0, .ref (o j)), (1, .long (lN sc)), (3, .ref (a))]) hx hb d_Dv_lay_50 hl (k := 2) rfl (nI_1 _) (by decide) rfl (fun ls hl => ?_)
        refine lv_goto (tgt := 6) hx hb d_Dv_lay_53 (by decide) ?_
        exact ih (t + 1) (((v j).2 t * sc + cr) / nB) _ _ _ _ _ (by omega) hq (fun q hq => by by_cases e9 : q = t; (subst e9; rw [hw_up_eq]; omega); (rw [hw_up_ne e9]; exact hB1 q (by omega))) (by rw [nvb_digit (w := (v j).2 t * sc) hS (by omega), nvb_succ, Nat.add_mul]; grind) hV hU hF hI (lv_sub hl [0, 1, 3, 4, 5] rfl)
  refine lv_lconst (v := lN 0) hx hb d_Dv_lay_0 rfl ?_
  refine lv_lstore (lv' := [(4, .long (lN 0)), (0, .ref (o j)), (1, .long (lN sc)), (3, .ref (a))]) hx hb d_Dv_lay_1 hl (by decide) rfl (fun ls hl => ?_)
  refine lv_iconst (v := nI 0) hx hb d_Dv_lay_3 (by decide) ?_
  refine lv_istore (lv' := [(6, .int (nI 0)), (4, .long (lN 0)), (0, .ref (o j)), (1, .long (lN sc)), (3, .ref (a))]) hx hb d_Dv_lay_4 hl (by decide) rfl (fun ls hl => ?_)
  exact loop M 0 0 u _ _ _ _ (by omega) nB_pos (fun q hq => absurd hq (by omega)) (by simp [nvb_zero]) hV hU (fun _ _ => rfl) hI hl
set_option maxHeartbeats 4000000 in
set_option maxRecDepth 100000 in
theorem c_Dv_guess (l : Launch) (D : va_G) (t0 : Nat) (L : List Nat) (f : Nat → va_E) (sz : Nat) (ad al ab : Nat) (u w : Nat → Nat) (p9 n W9 U0 V0 U V : Nat) (hA : hw_c L f ad (.inr (0, [.ref al, .ref ab]))) (hU : arrN D L f al 42 u) (hWb : arrN D L f ab 42 w) (hab : al ≠ ab) (hn : 2 ≤ n) (hpn : p9 + n ≤ 41) (hu : ∀ q, q ≤ n → u (p9 + q) < nB) (hw : ∀ q, q < n → w q < nB) (hK : kd_at nB (w (n - 1)) (w (n - 2)) (u (p9 + n) * nB + u (p9 + n - 1)) (u (p9 + n - 2)) W9 U0 V0 U V) : Met l y_Dv_guess (Cond.code y_Dv_guess b_Dv_guess 11 (some .long) :: TT) ({ frames := 0, cells := 0, slots := 0, locals := 0 } : Room) (hw_Pc t0 [.ref (ad), .int (nI p9), .int (nI n)] D L f sz) (hw_Q D L sz (fun oc L' f' => (∃ t, oc = .returned (some (.long (lN t))) ∧ U / V ≤ t ∧ t ≤ U / V + 1 ∧ t < nB) ∧ L = L' ∧ f = f')) 0 0 (hw_A L sz) := by
  refine Met.ofW (cc := b_Dv_guess) (maxL := 11) (ret := (some .long)) (by decide) rfl ?_
  intro p e s m args below meth c s₁ B hml hv
  obtain ⟨rfl, rfl, hI⟩ := hw_start hv
  clear hv
  have hx := B.exec
  have hb := B.bytes
  have hr := B.returns
  have hlocks := B.notSynchronized
  have hown : s.vm.findClass "WallFractions$Divider" = some m.cls := findClass_of_methodNamed B.named
  have hT : ∀ w ∈ TT, w.before ([.ref (ad), .int (nI p9), .int (nI n)]).toArray s = true := fun w h => atoms_spec (ws := (Cond.code y_Dv_guess b_Dv_guess 11 (some .long) :: TT)) B.pre w (List.mem_cons_of_mem _ h)
  have S : CallFix p m c b_Dv_guess 11 s ([.ref (ad), .int (nI p9), .int (nI n)]).toArray TT "WallFractions$Divider" := ⟨hx, hb, hml, hown, hT⟩
  have hl := lv_entry ([.ref (ad), .int (nI p9), .int (nI n)]) (n := 11) (Nat.le_of_ble_eq_true rfl)
  rw [lg_entry_eq]
  generalize (lg_sl ([.ref (ad), .int (nI p9), .int (nI n)]) ++ List.replicate (11 - (lg_sl ([.ref (ad), .int (nI p9), .int (nI n)])).length) Slot.unset).toArray = ls at hl ⊢
  have hl : lv_has ls 11 [(0, .ref (ad)), (1, .int (nI p9)), (2, .int (nI n))] := hl
  skip
  have hnB : nB = 1000000000 := rfl
  have hnn : nB * nB = 1000000000000000000 := rfl
  obtain ⟨hi, hhi⟩ : ∃ hi, hi = u (p9 + n) * nB + u (p9 + n - 1) := ⟨_, rfl⟩
  obtain ⟨wt, hwt⟩ : ∃ wt, wt = w (n - 1) := ⟨_, rfl⟩
  obtain ⟨w2, hw2⟩ : ∃ w2, w2 = w (n - 2) := ⟨_, rfl⟩
  obtain ⟨u2, hu2⟩ : ∃ u2, u2 = u (p9 + n - 2) := ⟨_, rfl⟩
  rw [← hhi, ← hwt, ← hw2, ← hu2] at hK
  have hx1 := hu n (Nat.le_refl _)
  have hx2 := hu (n - 1) (by omega)
  rw [show p9 + (n - 1) = p9 + n - 1 by omega] at hx2
  have hpr : u (p9 + n) * nB ≤ (nB - 1) * nB := Nat.mul_le_mul_right _ (by omega)
  have hn2 : (nB - 1) * nB = 999999999000000000 := rfl
  have hhiB : hi < nB * nB := by omega
  have hwtB : wt < nB := hK.2.2.1
  have hw2B : w2 < nB := hK.2.2.2.1
  have hu2B : u2 < nB := hK.2.2.2.2.1
  have hwt0 : 0 < wt := by have := hK.2.1; omega
  have hq := hK.q
  have hhat := hK.hat
  have htop := hK.top
  have hdml := Nat.div_mul_le_self hi wt
  have loop : ∀ (g ci t ov : Nat) (f1 : Nat → va_E) (H : Heap) (locs : List Loc) (ls : Array Slot), ci + g = 2 → ov + t * wt = hi → U / V ≤ t → t + ci = hi / wt → f = f1 → hw_I D t0 (hw_A L s.heap.size) s L f1 H locs → lv_has ls 11 [(10, .int (nI ci)), (8, .long (lN ov)), (6, .long (lN t)), (4, .long (lN hi)), (3, .int (nI (p9 + n))), (0, .ref (ad)), (1, .int (nI p9)), (2, .int (nI n))] → W p l e (headSpec (Cond.code y_Dv_guess b_Dv_guess 11 (some .long) :: TT) ({ frames := 0, cells := 0, slots := 0, locals := 0 } : Room)).room s m ([.ref (ad), .int (nI p9), .int (nI n)]).toArray below meth c H locs 0 0 (MQ below (hw_Q D L s.heap.size (fun oc L' f' => (∃ t, oc = .returned (some (.long (lN t))) ∧ U / V ≤ t ∧ t ≤ U / V + 1 ∧ t < nB) ∧ L = L' ∧ f = f')) ([.ref (ad), .int (nI p9), .int (nI n)]).toArray s 0 0 (hw_A L s.heap.size)) (F0 m 57 ls []) := by
    intro g
    induction g with
    | zero =>
      intro ci t ov f1 H locs ls hcg hov hqt htc hf hI hl
      subst hf
      refine lv_iload hx hb d_Dv_guess_57 (lv_at hl 0 rfl) ?_
      refine lv_iconst (v := nI 2) hx hb d_Dv_guess_59 (by decide) ?_
      refine hw_icmp_ge (tgt := 139) hx hb d_Dv_guess_60 (by decide) (by omega) (by omega) (fun c5 => ?_) (fun c5 => ?_)
      · have ht9 : t ≤ U / V := by have := hhat.2; omega
        refine lv_lload hx hb d_Dv_guess_139 (lv_at hl 2 rfl) ?_
        exact hw_lret hx hb hr hlocks hI d_Dv_guess_141 ⟨⟨t, rfl, hqt, by omega, by omega⟩, rfl, rfl⟩
      · exact absurd c5 (by omega)
    | succ g ih =>
      intro ci t ov f1 H locs ls hcg hov hqt htc hf hI hl
      subst hf
      refine lv_iload hx hb d_Dv_guess_57 (lv_at hl 0 rfl) ?_
      refine lv_iconst (v := nI 2) hx hb d_Dv_guess_59 (by decide) ?_
      refine hw_icmp_ge (tgt := 139) hx hb d_Dv_guess_60 (by decide) (by omega) (by omega) (fun c6 => ?_) (fun c6 => ?_)
      · exact absurd c6 (by omega)
      · have hovB : ov ≤ hi := by omega
        refine lv_lload hx hb d_Dv_guess_63 (lv_at hl 1 rfl) ?_
        refine hw_ldc2 (v := lN nB) hx hb hown (hT _ w_476) d_Dv_guess_65 ?_
        refine hw_l_ge (tgt := 139) hx hb d_Dv_guess_68 d_Dv_guess_69 (by decide) (fun c7 => ?_) (fun c7 => ?_)
        · have ho := (pk_lLE (by omega) (by omega)).mp c7
          have hg := hK.wide hov ho
          refine lv_lload hx hb d_Dv_guess_139 (lv_at hl 2 rfl) ?_
          exact hw_lret hx hb hr hlocks hI d_Dv_guess_141 ⟨⟨t, rfl, hqt, hK.good hov hg.1 hg.2, hg.1⟩, rfl, rfl⟩
        · have ho := (pk_lLT (by omega) (by omega)).mp c7
          have ht1 : t ≤ nB + 1 := by have := hhat.1; omega
          refine lv_lload hx hb d_Dv_guess_72 (lv_at hl 2 rfl) ?_
          refine hw_ldc2 (v := lN nB) hx hb hown (hT _ w_476) d_Dv_guess_74 ?_
          refine hw_l_ge (tgt := 114) hx hb d_Dv_guess_77 d_Dv_guess_78 (by decide) (fun c8 => ?_) (fun c8 => ?_)
          · have hb9 := (pk_lLE (by omega) (by omega)).mp c8
            have hd := hK.down hov hqt (fun h => absurd h.1 (by omega))
            have hov2 : ov + wt + (t - 1) * wt = hi := by rw [Nat.sub_mul, Nat.one_mul]; have : 1 * wt ≤ t * wt := Nat.mul_le_mul_right _ hd.1; omega
            refine lv_lload hx hb d_Dv_guess_114 (lv_at hl 2 rfl) ?_
            refine lv_lconst (v := lN 1) hx hb d_Dv_guess_116 rfl ?_
            refine lv_lsub hx hb d_Dv_guess_117 ?_
            refine hw_tl (lN_sub (by omega)) ?_
            refine lv_lstore (lv' := [(6, .long (lN (t - 1))), (10, .int (nI ci)), (8, .long (lN ov)), (4, .long (lN hi)), (3, .int (nI (p9 + n))), (0, .ref (ad)), (1, .int (nI p9)), (2, .int (nI n))]) hx hb d_Dv_guess_118 hl (by decide) rfl (fun ls hl => ?_)
            refine lv_lload hx hb d_Dv_guess_120 (lv_at hl 2 rfl) ?_
            refine lv_aload_n hx hb d_Dv_guess_122 rfl (lv_at hl 5 rfl) ?_
            refine dv_by S hI hA d_Dv_guess_123 ?_
            refine lv_iload_n hx hb d_Dv_guess_126 rfl (lv_at hl 7 rfl) ?_
            refine lv_iconst (v := nI 1) hx hb d_Dv_guess_127 (by decide) ?_
            refine lv_isub hx hb d_Dv_guess_128 ?_
            refine hw_ti (pk_sub (by omega)) ?_
            refine ar_ld S hI hWb (by decide) (by omega) d_Dv_guess_129 ?_
            refine hw_tl (show _ = lN wt from by rw [hwt]) ?_
            refine lv_ladd hx hb d_Dv_guess_130 ?_
            refine hw_tl (lN_add _ _) ?_
            refine lv_lstore (lv' := [(8, .long (lN (ov + wt))), (6, .long (lN (t - 1))), (10, .int (nI ci)), (4, .long (lN hi)), (3, .int (nI (p9 + n))), (0, .ref (ad)), (1, .int (nI p9)), (2, .int (nI n))]) hx hb d_Dv_guess_131 hl (by decide) rfl (fun ls hl => ?_)
            refine lv_iinc (v := nI (ci + 1)) (lv' := [(10, .int (nI (ci + 1))), (8, .long (lN (ov + wt))), (6, .long (lN (t - 1))), (4, .long (lN hi)), (3, .int (nI (p9 + n))), (0, .ref (ad)), (1, .int (nI p9)), (2, .int (nI n))]) hx hb d_Dv_guess_133 hl (k := 2) rfl (nI_1 _) (by decide) rfl (fun ls hl => ?_)
            refine lv_goto (tgt := 57) hx hb d_Dv_guess_136 (by decide) ?_
            exact ih (ci + 1) (t - 1) (ov + wt) _ _ _ _ (by omega) hov2 hd.2 (by omega) rfl hI hl
          · have hb9 := (pk_lLT (by omega) (by omega)).mp c8
            have hm1 : t * w2 ≤ nB * nB := Nat.mul_le_mul (by omega) (by omega)
            have hm2 : ov * nB ≤ nB * nB := Nat.mul_le_mul_right _ (by omega)
            refine lv_lload hx hb d_Dv_guess_81 (lv_at hl 2 rfl) ?_
            refine lv_aload_n hx hb d_Dv_guess_83 rfl (lv_at hl 5 rfl) ?_
            refine dv_by S hI hA d_Dv_guess_84 ?_
            refine lv_iload_n hx hb d_Dv_guess_87 rfl (lv_at hl 7 rfl) ?_
            refine lv_iconst (v := nI 2) hx hb d_Dv_guess_88 (by decide) ?_
            refine lv_isub hx hb d_Dv_guess_89 ?_
            refine hw_ti (pk_sub (by omega)) ?_
            refine ar_ld S hI hWb (by decide) (by omega) d_Dv_guess_90 ?_
            refine hw_tl (show _ = lN w2 from by rw [hw2]) ?_
            refine lv_lmul hx hb d_Dv_guess_91 ?_
            refine hw_tl (lN_mul _ _) ?_
            refine lv_lload hx hb d_Dv_guess_92 (lv_at hl 1 rfl) ?_
            refine hw_ldc2 (v := lN nB) hx hb hown (hT _ w_476) d_Dv_guess_94 ?_
            refine lv_lmul hx hb d_Dv_guess_97 ?_
            refine hw_tl (lN_mul _ _) ?_
            refine lv_aload_n hx hb d_Dv_guess_98 rfl (lv_at hl 5 rfl) ?_
            refine dv_left S hI hA d_Dv_guess_99 ?_
            refine lv_iload_n hx hb d_Dv_guess_102 rfl (lv_at hl 4 rfl) ?_
            refine lv_iconst (v := nI 2) hx hb d_Dv_guess_103 (by decide) ?_
            refine lv_isub hx hb d_Dv_guess_104 ?_
            refine hw_ti (pk_sub (by omega)) ?_
            refine ar_ld S hI hU (by decide) (by omega) d_Dv_guess_105 ?_
            refine hw_tl (show _ = lN u2 from by rw [hu2]) ?_
            refine lv_ladd hx hb d_Dv_guess_106 ?_
            refine hw_tl (lN_add _ _) ?_
            refine hw_l_gt (tgt := 114) hx hb d_Dv_guess_107 d_Dv_guess_108 (by decide) (fun c9 => ?_) (fun c9 => ?_)
            · have hc9 := (pk_lLT (by omega) (by omega)).mp c9
              have hd := hK.down hov hqt (fun h => absurd h.2 (by omega))
              have hov2 : ov + wt + (t - 1) * wt = hi := by rw [Nat.sub_mul, Nat.one_mul]; have : 1 * wt ≤ t * wt := Nat.mul_le_mul_right _ hd.1; omega
              refine lv_lload hx hb d_Dv_guess_114 (lv_at hl 2 rfl) ?_
              refine lv_lconst (v := lN 1) hx hb d_Dv_guess_116 rfl ?_
              refine lv_lsub hx hb d_Dv_guess_117 ?_
              refine hw_tl (lN_sub (by omega)) ?_
              refine lv_lstore (lv' := [(6, .long (lN (t - 1))), (10, .int (nI ci)), (8, .long (lN ov)), (4, .long (lN hi)), (3, .int (nI (p9 + n))), (0, .ref (ad)), (1, .int (nI p9)), (2, .int (nI n))]) hx hb d_Dv_guess_118 hl (by decide) rfl (fun ls hl => ?_)
              refine lv_lload hx hb d_Dv_guess_120 (lv_at hl 2 rfl) ?_
              refine lv_aload_n hx hb d_Dv_guess_122 rfl (lv_at hl 5 rfl) ?_
              refine dv_by S hI hA d_Dv_guess_123 ?_
              refine lv_iload_n hx hb d_Dv_guess_126 rfl (lv_at hl 7 rfl) ?_
              refine lv_iconst (v := nI 1) hx hb d_Dv_guess_127 (by decide) ?_
              refine lv_isub hx hb d_Dv_guess_128 ?_
              refine hw_ti (pk_sub (by omega)) ?_
              refine ar_ld S hI hWb (by decide) (by omega) d_Dv_guess_129 ?_
              refine hw_tl (show _ = lN wt from by rw [hwt]) ?_
              refine lv_ladd hx hb d_Dv_guess_130 ?_
              refine hw_tl (lN_add _ _) ?_
              refine lv_lstore (lv' := [(8, .long (lN (ov + wt))), (6, .long (lN (t - 1))), (10, .int (nI ci)), (4, .long (lN hi)), (3, .int (nI (p9 + n))), (0, .ref (ad)), (1, .int (nI p9)), (2, .int (nI n))]) hx hb d_Dv_guess_131 hl (by decide) rfl (fun ls hl => ?_)
              refine lv_iinc (v := nI (ci + 1)) (lv' := [(10, .int (nI (ci + 1))), (8, .long (lN (ov + wt))), (6, .long (lN (t - 1))), (4, .long (lN hi)), (3, .int (nI (p9 + n))), (0, .ref (ad)), (1, .int (nI p9)), (2, .int (nI n))]) hx hb d_Dv_guess_133 hl (k := 2) rfl (nI_1 _) (by decide) rfl (fun ls hl => ?_)
              refine lv_goto (tgt := 57) hx hb d_Dv_guess_136 (by decide) ?_
              exact ih (ci + 1) (t - 1) (ov + wt) _ _ _ _ (by omega) hov2 hd.2 (by omega) rfl hI hl
            · have hc9 := (pk_lLE (by omega) (by omega)).mp c9
              refine lv_goto (tgt := 139) hx hb d_Dv_guess_111 (by decide) ?_
              refine lv_lload hx hb d_Dv_guess_139 (lv_at hl 2 rfl) ?_
              exact hw_lret hx hb hr hlocks hI d_Dv_guess_141 ⟨⟨t, rfl, hqt, hK.good hov hb9 hc9, hb9⟩, rfl, rfl⟩
  refine lv_iload_n hx hb d_Dv_guess_0 rfl (lv_at hl 1 rfl) ?_
  refine lv_iload_n hx hb d_Dv_guess_1 rfl (lv_at hl 2 rfl) ?_
  refine lv_iadd hx hb d_Dv_guess_2 ?_
  refine hw_ti (nI_add _ _) ?_
  refine lv_istore_n (lv' := [(3, .int (nI (p9 + n))), (0, .ref (ad)), (1, .int (nI p9)), (2, .int (nI n))]) hx hb d_Dv_guess_3 rfl hl (by decide) rfl (fun ls hl => ?_)
  refine lv_aload_n hx hb d_Dv_guess_4 rfl (lv_at hl 1 rfl) ?_
  refine dv_left S hI hA d_Dv_guess_5 ?_
  refine lv_iload_n hx hb d_Dv_guess_8 rfl (lv_at hl 0 rfl) ?_
  refine ar_ld S hI hU (by decide) (by omega) d_Dv_guess_9 ?_
  refine hw_ldc2 (v := lN nB) hx hb hown (hT _ w_476) d_Dv_guess_10 ?_
  refine lv_lmul hx hb d_Dv_guess_13 ?_
  refine hw_tl (lN_mul _ _) ?_
  refine lv_aload_n hx hb d_Dv_guess_14 rfl (lv_at hl 1 rfl) ?_
  refine dv_left S hI hA d_Dv_guess_15 ?_
  refine lv_iload_n hx hb d_Dv_guess_18 rfl (lv_at hl 0 rfl) ?_
  refine lv_iconst (v := nI 1) hx hb d_Dv_guess_19 (by decide) ?_
  refine lv_isub hx hb d_Dv_guess_20 ?_
  refine hw_ti (pk_sub (by omega)) ?_
  refine ar_ld S hI hU (by decide) (by omega) d_Dv_guess_21 ?_
  refine lv_ladd hx hb d_Dv_guess_22 ?_
  refine hw_tl (lN_add _ _) ?_
  refine hw_tl (show _ = lN hi from by rw [hhi]) ?_
  refine lv_lstore (lv' := [(4, .long (lN hi)), (3, .int (nI (p9 + n))), (0, .ref (ad)), (1, .int (nI p9)), (2, .int (nI n))]) hx hb d_Dv_guess_23 hl (by decide) rfl (fun ls hl => ?_)
  refine lv_lload hx hb d_Dv_guess_25 (lv_at hl 0 rfl) ?_
  refine lv_aload_n hx hb d_Dv_guess_27 rfl (lv_at hl 2 rfl) ?_
  refine dv_by S hI hA d_Dv_guess_28 ?_
  refine lv_iload_n hx hb d_Dv_guess_31 rfl (lv_at hl 4 rfl) ?_
  refine lv_iconst (v := nI 1) hx hb d_Dv_guess_32 (by decide) ?_
  refine lv_isub hx hb d_Dv_guess_33 ?_
  refine hw_ti (pk_sub (by omega)) ?_
  refine ar_ld S hI hWb (by decide) (by omega) d_Dv_guess_34 ?_
  refine hw_tl (show _ = lN wt from by rw [hwt]) ?_
  refine lv_ldiv hx hb d_Dv_guess_35 (by intro h9; have h8 := (pk_lEQ (b := 0) (by omega) (by decide)).mp h9; omega) ?_
  refine hw_tl (pk_lDiv (by omega) (by omega) (by omega)) ?_
  refine lv_lstore (lv' := [(6, .long (lN (hi / wt))), (4, .long (lN hi)), (3, .int (nI (p9 + n))), (0, .ref (ad)), (1, .int (nI p9)), (2, .int (nI n))]) hx hb d_Dv_guess_36 hl (by decide) rfl (fun ls hl => ?_)
  refine lv_lload hx hb d_Dv_guess_38 (lv_at hl 1 rfl) ?_
  refine lv_lload hx hb d_Dv_guess_40 (lv_at hl 0 rfl) ?_
  refine lv_aload_n hx hb d_Dv_guess_42 rfl (lv_at hl 3 rfl) ?_
  refine dv_by S hI hA d_Dv_guess_43 ?_
  refine lv_iload_n hx hb d_Dv_guess_46 rfl (lv_at hl 5 rfl) ?_
  refine lv_iconst (v := nI 1) hx hb d_Dv_guess_47 (by decide) ?_
  refine lv_isub hx hb d_Dv_guess_48 ?_
  refine hw_ti (pk_sub (by omega)) ?_
  refine ar_ld S hI hWb (by decide) (by omega) d_Dv_guess_49 ?_
  refine hw_tl (show _ = lN wt from by rw [hwt]) ?_
  refine lv_lmul hx hb d_Dv_guess_50 ?_
  refine hw_tl (lN_mul _ _) ?_
  refine lv_lsub hx hb d_Dv_guess_51 ?_
  refine hw_tl (lN_sub (by omega)) ?_
  refine lv_lstore (lv' := [(8, .long (lN (hi - ((hi / wt) * wt)))), (6, .long (lN (hi / wt))), (4, .long (lN hi)), (3, .int (nI (p9 + n))), (0, .ref (ad)), (1, .int (nI p9)), (2, .int (nI n))]) hx hb d_Dv_guess_52 hl (by decide) rfl (fun ls hl => ?_)
  refine lv_iconst (v := nI 0) hx hb d_Dv_guess_54 (by decide) ?_
  refine lv_istore (lv' := [(10, .int (nI 0)), (8, .long (lN (hi - ((hi / wt) * wt)))), (6, .long (lN (hi / wt))), (4, .long (lN hi)), (3, .int (nI (p9 + n))), (0, .ref (ad)), (1, .int (nI p9)), (2, .int (nI n))]) hx hb d_Dv_guess_55 hl (by decide) rfl (fun ls hl => ?_)
  exact loop 2 0 (hi / wt) (hi - hi / wt * wt) _ _ _ _ rfl (by omega) htop rfl rfl hI hl
set_option maxHeartbeats 4000000 in
set_option maxRecDepth 100000 in
theorem c_Dv_putBack (l : Launch) (D : va_G) (t0 : Nat) (L : List Nat) (f : Nat → va_E) (sz : Nat) (ad al ab : Nat) (u w : Nat → Nat) (p9 n : Nat) (hA : hw_c L f ad (.inr (0, [.ref al, .ref ab]))) (hU : arrN D L f al 42 u) (hWb : arrN D L f ab 42 w) (hab : al ≠ ab) (hpn : p9 + n ≤ 41) (hu : ∀ q, q < n → u (p9 + q) < nB) (hw : ∀ q, q < n → w q < nB) : Met l y_Dv_putBack (Cond.code y_Dv_putBack b_Dv_putBack 8 none :: TT) ({ frames := 0, cells := 0, slots := 0, locals := 0 } : Room) (hw_Pc t0 [.ref (ad), .int (nI p9), .int (nI n)] D L f sz) (hw_Q D L sz (fun oc L' f' => oc = .returned none ∧ L = L' ∧ ∃ u' cr, arrN D L f' al 42 u' ∧ cr ≤ 1 ∧ (∀ q, q < n → u' (p9 + q) < nB) ∧ nvb nB (nsh u' p9) n + cr * nB ^ n = nvb nB (nsh u p9) n + nvb nB w n ∧ u' (p9 + n) = u (p9 + n) + cr ∧ (∀ q, q < p9 ∨ p9 + n < q → u' q = u q) ∧ ∀ q, q ≠ al → f' q = f q)) 0 0 (hw_A L sz) := by
  refine Met.ofW (cc := b_Dv_putBack) (maxL := 8) (ret := none) (by decide) rfl ?_
  intro p e s m args below meth c s₁ B hml hv
  obtain ⟨rfl, rfl, hI⟩ := hw_start hv
  clear hv
  have hx := B.exec
  have hb := B.bytes
  have hr := B.returns
  have hlocks := B.notSynchronized
  have hown : s.vm.findClass "WallFractions$Divider" = some m.cls := findClass_of_methodNamed B.named
  have hT : ∀ w ∈ TT, w.before ([.ref (ad), .int (nI p9), .int (nI n)]).toArray s = true := fun w h => atoms_spec (ws := (Cond.code y_Dv_putBack b_Dv_putBack 8 none :: TT)) B.pre w (List.mem_cons_of_mem _ h)
  have S : CallFix p m c b_Dv_putBack 8 s ([.ref (ad), .int (nI p9), .int (nI n)]).toArray TT "WallFractions$Divider" := ⟨hx, hb, hml, hown, hT⟩
  have hl := lv_entry ([.ref (ad), .int (nI p9), .int (nI n)]) (n := 8) (Nat.le_of_ble_eq_true rfl)
  rw [lg_entry_eq]
  generalize (lg_sl ([.ref (ad), .int (nI p9), .int (nI n)]) ++ List.replicate (8 - (lg_sl ([.ref (ad), .int (nI p9), .int (nI n)])).length) Slot.unset).toArray = ls at hl ⊢
  have hl : lv_has ls 8 [(0, .ref (ad)), (1, .int (nI p9)), (2, .int (nI n))] := hl
  skip
  have hnB : nB = 1000000000 := rfl
  have hadl : ad ≠ al := fun e9 => hw_ne hU hA e9.symm
  have loop : ∀ (g t cr : Nat) (u1 : Nat → Nat) (f1 : Nat → va_E) (H : Heap) (locs : List Loc) (ls : Array Slot), t + g = n → cr ≤ 1 → (∀ q, q < t → u1 (p9 + q) < nB) → (∀ q, q < p9 ∨ p9 + t ≤ q → u1 q = u q) → nvb nB (nsh u1 p9) t + cr * nB ^ t = nvb nB (nsh u p9) t + nvb nB w t → hw_c L f1 ad (.inr (0, [.ref al, .ref ab])) → arrN D L f1 al 42 u1 → arrN D L f1 ab 42 w → (∀ q, q ≠ al → f1 q = f q) → hw_I D t0 (hw_A L s.heap.size) s L f1 H locs → lv_has ls 8 [(5, .int (nI t)), (3, .long (lN cr)), (0, .ref (ad)), (1, .int (nI p9)), (2, .int (nI n))] → W p l e (headSpec (Cond.code y_Dv_putBack b_Dv_putBack 8 none :: TT) ({ frames := 0, cells := 0, slots := 0, locals := 0 } : Room)).room s m ([.ref (ad), .int (nI p9), .int (nI n)]).toArray below meth c H locs 0 0 (MQ below (hw_Q D L s.heap.size (fun oc L' f' => oc = .returned none ∧ L = L' ∧ ∃ u' cr, arrN D L f' al 42 u' ∧ cr ≤ 1 ∧ (∀ q, q < n → u' (p9 + q) < nB) ∧ nvb nB (nsh u' p9) n + cr * nB ^ n = nvb nB (nsh u p9) n + nvb nB w n ∧ u' (p9 + n) = u (p9 + n) + cr ∧ (∀ q, q < p9 ∨ p9 + n < q → u' q = u q) ∧ ∀ q, q ≠ al → f' q = f q)) ([.ref (ad), .int (nI p9), .int (nI n)]).toArray s 0 0 (hw_A L s.heap.size)) (F0 m 5 ls []) := by
    intro g
    induction g with
    | zero =>
      intro t cr u1 f1 H locs ls htg hcr hB1 hO1 hS hA hU hWb hF hI hl
      refine lv_iload hx hb d_Dv_putBack_5 (lv_at hl 0 rfl) ?_
      refine lv_iload_n hx hb d_Dv_putBack_7 rfl (lv_at hl 4 rfl) ?_
      refine hw_icmp_ge (tgt := 70) hx hb d_Dv_putBack_8 (by decide) (by omega) (by omega) (fun c10 => ?_) (fun c10 => ?_)
      · have htn : t = n := by omega
        rw [htn] at hS hB1 hO1
        refine lv_aload_n hx hb d_Dv_putBack_70 rfl (lv_at hl 2 rfl) ?_
        refine dv_left S hI hA d_Dv_putBack_71 ?_
        refine lv_iload_n hx hb d_Dv_putBack_74 rfl (lv_at hl 3 rfl) ?_
        refine lv_iload_n hx hb d_Dv_putBack_75 rfl (lv_at hl 4 rfl) ?_
        refine lv_iadd hx hb d_Dv_putBack_76 ?_
        refine hw_ti (nI_add _ _) ?_
        refine lv_dup2_11 hx hb d_Dv_putBack_77 rfl rfl ?_
        refine ar_ld S hI hU (by decide) (by omega) d_Dv_putBack_78 ?_
        refine lv_lload_n hx hb d_Dv_putBack_79 rfl (lv_at hl 1 rfl) ?_
        refine lv_ladd hx hb d_Dv_putBack_80 ?_
        refine hw_tl (lN_add _ _) ?_
        refine ar_st S hI hU (by decide) (by omega) d_Dv_putBack_81 (fun f11 H locs hI hU hf11 => ?_)
        have hF := fun q (h1 : q ≠ al) => (hf11 q h1).trans (hF q h1)
        have hA := hA.fr (hf11 _ hadl)
        have hWb : arrN D L f11 ab 42 w := hWb.fr (hf11 _ (fun e9 => hab e9.symm))
        exact hw_vret hx hb hr hlocks hI d_Dv_putBack_82 ⟨rfl, rfl, _, cr, hU, hcr, (fun q hq => by rw [hw_up_ne (by omega)]; exact hB1 q hq), by rw [nsh_up, nvb_up (Nat.le_refl _)]; exact hS, by rw [hw_up_eq, hO1 _ (by omega)], (fun q hq => by rw [hw_up_ne (by omega)]; exact hO1 q (by omega)), hF⟩
      · exact absurd c10 (by omega)
    | succ g ih =>
      intro t cr u1 f1 H locs ls htg hcr hB1 hO1 hS hA hU hWb hF hI hl
      refine lv_iload hx hb d_Dv_putBack_5 (lv_at hl 0 rfl) ?_
      refine lv_iload_n hx hb d_Dv_putBack_7 rfl (lv_at hl 4 rfl) ?_
      refine hw_icmp_ge (tgt := 70) hx hb d_Dv_putBack_8 (by decide) (by omega) (by omega) (fun c12 => ?_) (fun c12 => ?_)
      · exact absurd c12 (by omega)
      · have hut := hu t (by omega)
        have hwt := hw t (by omega)
        have he := hO1 (p9 + t) (by omega)
        refine lv_aload_n hx hb d_Dv_putBack_11 rfl (lv_at hl 2 rfl) ?_
        refine dv_left S hI hA d_Dv_putBack_12 ?_
        refine lv_iload_n hx hb d_Dv_putBack_15 rfl (lv_at hl 3 rfl) ?_
        refine lv_iload hx hb d_Dv_putBack_16 (lv_at hl 0 rfl) ?_
        refine lv_iadd hx hb d_Dv_putBack_18 ?_
        refine hw_ti (nI_add _ _) ?_
        refine ar_ld S hI hU (by decide) (by omega) d_Dv_putBack_19 ?_
        refine hw_tl (show _ = lN (u (p9 + t)) from by rw [he]) ?_
        refine lv_aload_n hx hb d_Dv_putBack_20 rfl (lv_at hl 2 rfl) ?_
        refine dv_by S hI hA d_Dv_putBack_21 ?_
        refine lv_iload hx hb d_Dv_putBack_24 (lv_at hl 0 rfl) ?_
        refine ar_ld S hI hWb (by decide) (by omega) d_Dv_putBack_26 ?_
        refine lv_ladd hx hb d_Dv_putBack_27 ?_
        refine hw_tl (lN_add _ _) ?_
        refine lv_lload_n hx hb d_Dv_putBack_28 rfl (lv_at hl 1 rfl) ?_
        refine lv_ladd hx hb d_Dv_putBack_29 ?_
        refine hw_tl (lN_add _ _) ?_
        refine lv_lstore (lv' := [(6, .long (lN (((u (p9 + t)) + (w t)) + cr))), (5, .int (nI t)), (3, .long (lN cr)), (0, .ref (ad)), (1, .int (nI p9)), (2, .int (nI n))]) hx hb d_Dv_putBack_30 hl (by decide) rfl (fun ls hl => ?_)
        refine lv_lload hx hb d_Dv_putBack_32 (lv_at hl 0 rfl) ?_
        refine hw_ldc2 (v := lN nB) hx hb hown (hT _ w_476) d_Dv_putBack_34 ?_
        refine hw_l_lt (tgt := 45) hx hb d_Dv_putBack_37 d_Dv_putBack_38 (by decide) (fun c13 => ?_) (fun c13 => ?_)
        · have hc : u (p9 + t) + w t + cr < nB := (pk_lLT (by omega) (by omega)).mp c13
          refine lv_lconst (v := lN 0) hx hb d_Dv_putBack_45 rfl ?_
          refine lv_lstore_n (lv' := [(3, .long (lN 0)), (6, .long (lN (((u (p9 + t)) + (w t)) + cr))), (5, .int (nI t)), (0, .ref (ad)), (1, .int (nI p9)), (2, .int (nI n))]) hx hb d_Dv_putBack_46 rfl hl (by decide) rfl (fun ls hl => ?_)
          refine lv_aload_n hx hb d_Dv_putBack_47 rfl (lv_at hl 3 rfl) ?_
          refine dv_left S hI hA d_Dv_putBack_48 ?_
          refine lv_iload_n hx hb d_Dv_putBack_51 rfl (lv_at hl 4 rfl) ?_
          refine lv_iload hx hb d_Dv_putBack_52 (lv_at hl 2 rfl) ?_
          refine lv_iadd hx hb d_Dv_putBack_54 ?_
          refine hw_ti (nI_add _ _) ?_
          refine lv_lload hx hb d_Dv_putBack_55 (lv_at hl 1 rfl) ?_
          refine lv_lload_n hx hb d_Dv_putBack_57 rfl (lv_at hl 0 rfl) ?_
          refine hw_ldc2 (v := lN nB) hx hb hown (hT _ w_476) d_Dv_putBack_58 ?_
          refine lv_lmul hx hb d_Dv_putBack_61 ?_
          refine hw_tl (lN_mul _ _) ?_
          refine lv_lsub hx hb d_Dv_putBack_62 ?_
          refine hw_tl (lN_sub (by omega)) ?_
          refine ar_st S hI hU (by decide) (by omega) d_Dv_putBack_63 (fun f14 H locs hI hU hf14 => ?_)
          have hF := fun q (h1 : q ≠ al) => (hf14 q h1).trans (hF q h1)
          have hA := hA.fr (hf14 _ hadl)
          have hWb : arrN D L f14 ab 42 w := hWb.fr (hf14 _ (fun e9 => hab e9.symm))
          refine lv_iinc (v := nI (t + 1)) (lv' := [(5, .int (nI (t + 1))), (3, .long (lN 0)), (6, .long (lN (((u (p9 + t)) + (w t)) + cr))), (0, .ref (ad)), (1, .int (nI p9)), (2, .int (nI n))]) hx hb d_Dv_putBack_64 hl (k := 2) rfl (nI_1 _) (by decide) rfl (fun ls hl => ?_)
          refine lv_goto (tgt := 5) hx hb d_Dv_putBack_67 (by decide) ?_
          exact ih (t + 1) 0 _ _ _ _ _ (by omega) (by omega) (fun q hq => by by_cases e9 : q = t; (subst e9; rw [hw_up_eq]; omega); (rw [hw_up_ne (by omega)]; exact hB1 q (by omega))) (fun q hq => by rw [hw_up_ne (by omega)]; exact hO1 q (by omega)) (by rw [nsh_up, nvb_digit (w := u (p9 + t) + w t) hS (by omega), nvb_succ, nvb_succ, Nat.add_mul]; unfold nsh; omega) hA hU hWb hF hI (lv_sub hl [0, 1, 3, 4, 5] rfl)
        · have hc : nB ≤ u (p9 + t) + w t + cr := (pk_lLE (by omega) (by omega)).mp c13
          refine lv_lconst (v := lN 1) hx hb d_Dv_putBack_41 rfl ?_
          refine lv_goto (tgt := 46) hx hb d_Dv_putBack_42 (by decide) ?_
          refine lv_lstore_n (lv' := [(3, .long (lN 1)), (6, .long (lN (((u (p9 + t)) + (w t)) + cr))), (5, .int (nI t)), (0, .ref (ad)), (1, .int (nI p9)), (2, .int (nI n))]) hx hb d_Dv_putBack_46 rfl hl (by decide) rfl (fun ls hl => ?_)
          refine lv_aload_n hx hb d_Dv_putBack_47 rfl (lv_at hl 3 rfl) ?_
          refine dv_left S hI hA d_Dv_putBack_48 ?_
          refine lv_iload_n hx hb d_Dv_putBack_51 rfl (lv_at hl 4 rfl) ?_
          refine lv_iload hx hb d_Dv_putBack_52 (lv_at hl 2 rfl) ?_
          refine lv_iadd hx hb d_Dv_putBack_54 ?_
          refine hw_ti (nI_add _ _) ?_
          refine lv_lload hx hb d_Dv_putBack_55 (lv_at hl 1 rfl) ?_
          refine lv_lload_n hx hb d_Dv_putBack_57 rfl (lv_at hl 0 rfl) ?_
          refine hw_ldc2 (v := lN nB) hx hb hown (hT _ w_476) d_Dv_putBack_58 ?_
          refine lv_lmul hx hb d_Dv_putBack_61 ?_
          refine hw_tl (lN_mul _ _) ?_
          refine lv_lsub hx hb d_Dv_putBack_62 ?_
          refine hw_tl (lN_sub (by omega)) ?_
          refine ar_st S hI hU (by decide) (by omega) d_Dv_putBack_63 (fun f15 H locs hI hU hf15 => ?_)
          have hF := fun q (h1 : q ≠ al) => (hf15 q h1).trans (hF q h1)
          have hA := hA.fr (hf15 _ hadl)
          have hWb : arrN D L f15 ab 42 w := hWb.fr (hf15 _ (fun e9 => hab e9.symm))
          refine lv_iinc (v := nI (t + 1)) (lv' := [(5, .int (nI (t + 1))), (3, .long (lN 1)), (6, .long (lN (((u (p9 + t)) + (w t)) + cr))), (0, .ref (ad)), (1, .int (nI p9)), (2, .int (nI n))]) hx hb d_Dv_putBack_64 hl (k := 2) rfl (nI_1 _) (by decide) rfl (fun ls hl => ?_)
          refine lv_goto (tgt := 5) hx hb d_Dv_putBack_67 (by decide) ?_
          exact ih (t + 1) 1 _ _ _ _ _ (by omega) (by omega) (fun q hq => by by_cases e9 : q = t; (subst e9; rw [hw_up_eq]; omega); (rw [hw_up_ne (by omega)]; exact hB1 q (by omega))) (fun q hq => by rw [hw_up_ne (by omega)]; exact hO1 q (by omega)) (by rw [nsh_up, nvb_digit (w := u (p9 + t) + w t) hS (by omega), nvb_succ, nvb_succ, Nat.add_mul]; unfold nsh; omega) hA hU hWb hF hI (lv_sub hl [0, 1, 3, 4, 5] rfl)
  refine lv_lconst (v := lN 0) hx hb d_Dv_putBack_0 rfl ?_
  refine lv_lstore_n (lv' := [(3, .long (lN 0)), (0, .ref (ad)), (1, .int (nI p9)), (2, .int (nI n))]) hx hb d_Dv_putBack_1 rfl hl (by decide) rfl (fun ls hl => ?_)
  refine lv_iconst (v := nI 0) hx hb d_Dv_putBack_2 (by decide) ?_
  refine lv_istore (lv' := [(5, .int (nI 0)), (3, .long (lN 0)), (0, .ref (ad)), (1, .int (nI p9)), (2, .int (nI n))]) hx hb d_Dv_putBack_3 hl (by decide) rfl (fun ls hl => ?_)
  exact loop n 0 0 u _ _ _ _ (by omega) (by omega) (fun q hq => absurd hq (by omega)) (fun _ _ => rfl) (by simp [nvb_zero]) hA hU hWb (fun _ _ => rfl) hI hl
end
section
/-- the scaled divisor's top limb is at least half the base -/
theorem sc_norm {t sc : Nat} (ht : 1 ≤ t) (htB : t < nB) (hsc : sc = nB / (t + 1)) : 1 ≤ sc ∧ sc ≤ nB ∧ (t + 1) * sc ≤ nB ∧ nB ≤ 2 * (t * sc) := by
  have hnB : nB = 1000000000 := rfl
  have h1 : 1 ≤ sc := by rw [hsc]; exact (Nat.le_div_iff_mul_le (by omega)).mpr (by omega)
  have h2 : sc ≤ nB := by rw [hsc]; exact Nat.div_le_self _ _
  have h3 : (t + 1) * sc ≤ nB := by rw [hsc, Nat.mul_comm]; exact Nat.div_mul_le_self _ _
  refine ⟨h1, h2, h3, ?_⟩
  have h4 : nB < (t + 1) * (sc + 1) := by
    have e1 := Nat.div_add_mod nB (t + 1)
    have e2 := Nat.mod_lt nB (show 0 < t + 1 by omega)
    rw [← hsc] at e1
    rw [Nat.mul_add, Nat.mul_one]
    omega
  rcases Nat.eq_or_lt_of_le ht with e | e
  · subst e
    omega
  · rcases Nat.eq_or_lt_of_le h1 with e2 | e2
    · subst e2
      omega
    · have h5 : 1 * 1 ≤ (t - 1) * (sc - 1) := Nat.mul_le_mul (by omega) (by omega)
      obtain ⟨a, rfl⟩ : ∃ a, t = a + 1 := ⟨t - 1, by omega⟩
      obtain ⟨b, rfl⟩ : ∃ b, sc = b + 1 := ⟨sc - 1, by omega⟩
      have e3 : (a + 1) * (b + 1) = a * b + a + b + 1 := by grind
      have e4 : (a + 1 + 1) * (b + 1 + 1) = a * b + 2 * a + 2 * b + 4 := by grind
      simp only [Nat.add_sub_cancel] at h5
      omega
/-- a row whose top limb is known, times the scale -/
theorem sc_row {n y sc : Nat} {h w : Nat → Nat} (hk : nOk nB n h y) (hn : 1 ≤ n) (hsc : sc = nB / (h (n - 1) + 1)) (hw : ∀ q, q ≤ n → w q < nB) (he : nvb nB w (n + 1) = nvb nB h n * sc) : w n = 0 ∧ nvb nB w n = y * sc ∧ nB ≤ 2 * w (n - 1) ∧ 1 ≤ sc ∧ sc ≤ nB := by
  obtain ⟨k, rfl⟩ : ∃ k, n = k + 1 := ⟨n - 1, by omega⟩
  have ht := hk.2.1 (by omega)
  rw [Nat.add_sub_cancel] at *
  obtain ⟨h1, h2, h3, h4⟩ := sc_norm ht (hk.1 k) hsc
  rw [hk.2.2] at he
  have hy := hk.2.2
  rw [nvb_succ] at hy
  have hlo := nvb_lt (b := nB) (f := h) (n := k) (fun j _ => hk.1 j)
  have hP : 0 < nB ^ k := Nat.pow_pos nB_pos
  have e1 : y < (h k + 1) * nB ^ k := by rw [Nat.add_mul, Nat.one_mul]; omega
  have e2 : y * sc < nB ^ (k + 1) := by
    have e3 : y * sc < (h k + 1) * nB ^ k * sc := Nat.mul_lt_mul_of_pos_right e1 (by omega)
    have e4 : (h k + 1) * nB ^ k * sc = (h k + 1) * sc * nB ^ k := by grind
    have e5 : (h k + 1) * sc * nB ^ k ≤ nB * nB ^ k := Nat.mul_le_mul_right _ h3
    rw [Nat.pow_succ, Nat.mul_comm (nB ^ k) nB]
    omega
  have e6 : w (k + 1) = 0 := by
    rcases Nat.eq_zero_or_pos (w (k + 1)) with q | q
    · exact q
    · have := nvb_top (b := nB) q
      omega
  have e7 : nvb nB w (k + 1) = y * sc := by
    rw [nvb_succ, e6, Nat.zero_mul, Nat.add_zero] at he
    exact he
  refine ⟨e6, e7, ?_, h1, h2⟩
  have e8 : h k * sc ≤ w k := by
    rw [nvb_succ] at e7
    have e9 := nvb_lt (b := nB) (f := w) (n := k) (fun j hj => hw j (by omega))
    have e10 : h k * sc * nB ^ k ≤ y * sc := by
      have : h k * nB ^ k * sc ≤ y * sc := Nat.mul_le_mul_right _ (by omega)
      have e11 : h k * sc * nB ^ k = h k * nB ^ k * sc := by grind
      omega
    have e12 : h k * sc * nB ^ k < (w k + 1) * nB ^ k := by rw [Nat.add_mul, Nat.one_mul]; omega
    have := Nat.lt_of_mul_lt_mul_right e12
    omega
  have e13 : 2 * (h k * sc) ≤ 2 * w k := Nat.mul_le_mul_left _ e8
  omega
/-- a step of the long division -/
theorem ld_lt {u : Nat → Nat} {p n V : Nat} (h : nvb nB u (p + 1 + n) < V * nB ^ (p + 1)) : nvb nB (nsh u p) (n + 1) < V * nB := by
  rw [show p + 1 + n = p + (n + 1) by omega, nvb_split, Nat.pow_succ] at h
  have e : nB ^ p * nvb nB (nsh u p) (n + 1) < nB ^ p * (V * nB) := by
    have : V * (nB ^ p * nB) = nB ^ p * (V * nB) := by grind
    omega
  exact Nat.lt_of_mul_lt_mul_left e
theorem ld_step {u u' h : Nat → Nat} {p n V m X : Nat} (hp : p < m) (hB : ∀ q, q < p → u q < nB) (hlo : ∀ q, q < p → u' q = u q) (hV : 0 < V) (hr : nvb nB (nsh u' p) n = nvb nB (nsh u p) (n + 1) % V) (hX : X = nvb nB (nsh h (p + 1)) (m - (p + 1)) * V * nB ^ (p + 1) + nvb nB u (p + 1 + n)) :
    nvb nB u' (p + n) < V * nB ^ p ∧ X = nvb nB (nsh (va_up h p (nvb nB (nsh u p) (n + 1) / V)) p) (m - p) * V * nB ^ p + nvb nB u' (p + n) := by
  have e1 : nvb nB u' (p + n) = nvb nB u p + nB ^ p * (nvb nB (nsh u p) (n + 1) % V) := by rw [nvb_split, hr, nvb_congr hlo]
  have e2 := nvb_lt (b := nB) (f := u) (n := p) hB
  have e3 := Nat.mod_lt (nvb nB (nsh u p) (n + 1)) hV
  have e4 := Nat.div_add_mod (nvb nB (nsh u p) (n + 1)) V
  have e5 : nvb nB u (p + 1 + n) = nvb nB u p + nB ^ p * nvb nB (nsh u p) (n + 1) := by rw [show p + 1 + n = p + (n + 1) by omega, nvb_split]
  rw [nvb_down hp, hw_up_eq, nvb_nsh_up (by omega), e1]
  rw [e5, Nat.pow_succ] at hX
  generalize nvb nB (nsh u p) (n + 1) = U at *
  generalize nvb nB (nsh h (p + 1)) (m - (p + 1)) = Z at *
  generalize nvb nB u p = lo at *
  generalize nB ^ p = P at *
  generalize U / V = q at *
  generalize U % V = t at *
  constructor
  · have : P * (t + 1) ≤ P * V := Nat.mul_le_mul_left _ e3
    rw [Nat.mul_add, Nat.mul_one] at this
    rw [Nat.mul_comm V P]
    omega
  · rw [hX, ← e4]
    grind
theorem upO {N : Nat} {x : Nat → Nat} {v : Nat → Nat × (Nat → Nat)} {i n y : Nat} {h : Nat → Nat} (ho : ∀ i, i < N → (v i).1 ≤ 41 ∧ nOk nB (v i).1 (v i).2 (x i)) (hn : n ≤ 41) (hk : nOk nB n h y) : ∀ j, j < N → (va_up v i (n, h) j).1 ≤ 41 ∧ nOk nB (va_up v i (n, h) j).1 (va_up v i (n, h) j).2 (va_up x i y j) := by
  intro j hj
  by_cases e : j = i
  · subst e; rw [hw_up_eq, hw_up_eq]; exact ⟨hn, hk⟩
  · rw [hw_up_ne e, hw_up_ne e]; exact ho j hj
theorem up_comm {α : Type} {f : Nat → α} {a b : Nat} {x y : α} (h : a ≠ b) : va_up (va_up f a x) b y = va_up (va_up f b y) a x := by
  funext q
  unfold va_up
  by_cases e : q = b
  · subst e; rw [if_pos rfl, if_neg (fun e => h e.symm), if_pos rfl]
  · rw [if_neg e]
    by_cases e2 : q = a
    · rw [if_pos e2, if_pos e2]
    · rw [if_neg e2, if_neg e2, if_neg e]
theorem sl_fin {X xj xk sc V Q R : Nat} (hX : X = Q * V + R) (hR : R < V) (hV : V = xk * sc) (hXe : X = xj * sc) (hs : 0 < sc) : Q = xj / xk ∧ R / sc = xj % xk := by
  have h1 : X / V = Q := by rw [hX, Nat.mul_comm, Nat.mul_add_div (by omega), Nat.div_eq_of_lt hR, Nat.add_zero]
  have h2 : X % V = R := by rw [hX, Nat.mul_comm, Nat.mul_add_mod, Nat.mod_eq_of_lt hR]
  rw [hXe, hV, Nat.mul_div_mul_right _ _ hs] at h1
  rw [hXe, hV, Nat.mul_mod_mul_right] at h2
  exact ⟨h1.symm, by rw [← h2, Nat.mul_div_cancel _ hs]⟩
theorem nsh0 (g : Nat → Nat) : nsh g 0 = g := funext (fun q => by unfold nsh; rw [Nat.zero_add])
end
section
set_option maxHeartbeats 4000000 in
set_option maxRecDepth 100000 in
theorem c_Dv_takeOff (l : Launch) (D : va_G) (t0 : Nat) (L : List Nat) (f : Nat → va_E) (sz : Nat) (ad al ab : Nat) (u w : Nat → Nat) (p9 n : Nat) (hA : hw_c L f ad (.inr (0, [.ref al, .ref ab]))) (hU : arrN D L f al 42 u) (hWb : arrN D L f ab 42 w) (hab : al ≠ ab) (hn : 2 ≤ n) (hpn : p9 + n ≤ 41) (hu : ∀ q, q ≤ n → u (p9 + q) < nB) (hw : ∀ q, q < n → w q < nB) (ht : nB ≤ 2 * w (n - 1)) (hlt : nvb nB (nsh u p9) (n + 1) < nvb nB w n * nB) : Met l y_Dv_takeOff (Cond.code y_Dv_takeOff b_Dv_takeOff 10 (some .long) :: TT) ({ frames := 6, cells := 0, slots := 0, locals := 110 } : Room) (hw_Pc t0 [.ref (ad), .int (nI p9), .int (nI n)] D L f sz) (hw_Q D L sz (fun oc L' f' => oc = .returned (some (.long (lN (nvb nB (nsh u p9) (n + 1) / nvb nB w n)))) ∧ L = L' ∧ ∃ u', arrN D L f' al 42 u' ∧ (∀ q, q < n → u' (p9 + q) < nB) ∧ u' (p9 + n) = 0 ∧ nvb nB (nsh u' p9) n = nvb nB (nsh u p9) (n + 1) % nvb nB w n ∧ (∀ q, q < p9 ∨ p9 + n < q → u' q = u q) ∧ ∀ q, q ≠ al → f' q = f q)) 0 0 (hw_A L sz) := by
  refine Met.ofW (cc := b_Dv_takeOff) (maxL := 10) (ret := (some .long)) (by decide) rfl ?_
  intro p e s m args below meth c s₁ B hml hv
  obtain ⟨rfl, rfl, hI⟩ := hw_start hv
  clear hv
  have hx := B.exec
  have hb := B.bytes
  have hr := B.returns
  have hlocks := B.notSynchronized
  have hown : s.vm.findClass "WallFractions$Divider" = some m.cls := findClass_of_methodNamed B.named
  have hT : ∀ w ∈ TT, w.before ([.ref (ad), .int (nI p9), .int (nI n)]).toArray s = true := fun w h => atoms_spec (ws := (Cond.code y_Dv_takeOff b_Dv_takeOff 10 (some .long) :: TT)) B.pre w (List.mem_cons_of_mem _ h)
  have S : CallFix p m c b_Dv_takeOff 10 s ([.ref (ad), .int (nI p9), .int (nI n)]).toArray TT "WallFractions$Divider" := ⟨hx, hb, hml, hown, hT⟩
  have hl := lv_entry ([.ref (ad), .int (nI p9), .int (nI n)]) (n := 10) (Nat.le_of_ble_eq_true rfl)
  rw [lg_entry_eq]
  generalize (lg_sl ([.ref (ad), .int (nI p9), .int (nI n)]) ++ List.replicate (10 - (lg_sl ([.ref (ad), .int (nI p9), .int (nI n)])).length) Slot.unset).toArray = ls at hl ⊢
  have hl : lv_has ls 10 [(0, .ref (ad)), (1, .int (nI p9)), (2, .int (nI n))] := hl
  skip
  have hnB : nB = 1000000000 := rfl
  have hadl : ad ≠ al := fun e9 => hw_ne hU hA e9.symm
  obtain ⟨W9, U0, V0, hK⟩ := kd_of hn hu hw ht hlt
  have hV0 : 0 < nvb nB w n := hK.Vpos
  have hVP : nvb nB w n < nB ^ n := nvb_lt (fun q hq => hw q hq)
  refine lv_aload_n hx hb d_Dv_takeOff_0 rfl (lv_at hl 0 rfl) ?_
  refine lv_iload_n hx hb d_Dv_takeOff_1 rfl (lv_at hl 1 rfl) ?_
  refine lv_iload_n hx hb d_Dv_takeOff_2 rfl (lv_at hl 2 rfl) ?_
  refine hw_cV (As := [.int (nI p9), .int (nI n)]) (rest := []) S hI m_Dv_guess w_484 (c_Dv_guess l D t0 L _ _ ad al ab u w p9 n W9 U0 V0 _ _ hA hU hWb hab hn hpn hu hw hK) hA rfl hl.1 rfl rfl (Nat.le_of_ble_eq_true rfl) d_Dv_takeOff_3 ⟨Nat.le_of_ble_eq_true rfl, Nat.le_of_ble_eq_true rfl⟩ ⟨Nat.le_of_ble_eq_true rfl, Nat.le_of_ble_eq_true rfl⟩ (fun v9 L9 f1 H locs hp hI => ?_)
  refine W.cs (cells' := 0) (slots' := 0) rfl rfl ?_
  obtain ⟨⟨t9, hv9, hq1, hq2, htB⟩, rfl, rfl⟩ := hp
  cases hv9
  refine hw_stk (st' := [.long (lN t9)]) rfl ?_
  have loop : ∀ (g t bw : Nat) (u1 : Nat → Nat) (f1 : Nat → va_E) (H : Heap) (locs : List Loc) (ls : Array Slot), t + g = n → bw ≤ nB → (∀ q, q < t → u1 (p9 + q) < nB) → (∀ q, q < p9 ∨ p9 + t ≤ q → u1 q = u q) → nvb nB (nsh u1 p9) t + t9 * nvb nB w t = nvb nB (nsh u p9) t + bw * nB ^ t → hw_c L f1 ad (.inr (0, [.ref al, .ref ab])) → arrN D L f1 al 42 u1 → arrN D L f1 ab 42 w → (∀ q, q ≠ al → f1 q = f q) → hw_I D t0 (hw_A L s.heap.size) s L f1 H locs → lv_has ls 10 [(7, .int (nI t)), (5, .long (lN bw)), (3, .long (lN t9)), (0, .ref (ad)), (1, .int (nI p9)), (2, .int (nI n))] → W p l e (headSpec (Cond.code y_Dv_takeOff b_Dv_takeOff 10 (some .long) :: TT) ({ frames := 6, cells := 0, slots := 0, locals := 110 } : Room)).room s m ([.ref (ad), .int (nI p9), .int (nI n)]).toArray below meth c H locs 0 0 (MQ below (hw_Q D L s.heap.size (fun oc L' f' => oc = .returned (some (.long (lN (nvb nB (nsh u p9) (n + 1) / nvb nB w n)))) ∧ L = L' ∧ ∃ u', arrN D L f' al 42 u' ∧ (∀ q, q < n → u' (p9 + q) < nB) ∧ u' (p9 + n) = 0 ∧ nvb nB (nsh u' p9) n = nvb nB (nsh u p9) (n + 1) % nvb nB w n ∧ (∀ q, q < p9 ∨ p9 + n < q → u' q = u q) ∧ ∀ q, q ≠ al → f' q = f q)) ([.ref (ad), .int (nI p9), .int (nI n)]).toArray s 0 0 (hw_A L s.heap.size)) (F0 m 13 ls []) := by
    intro g
    induction g with
    | zero =>
      intro t bw u1 f1 H locs ls htg hbw hB1 hO1 hS hA hU hWb hF hI hl
      refine lv_iload hx hb d_Dv_takeOff_13 (lv_at hl 0 rfl) ?_
      refine lv_iload_n hx hb d_Dv_takeOff_15 rfl (lv_at hl 5 rfl) ?_
      refine hw_icmp_ge (tgt := 78) hx hb d_Dv_takeOff_16 (by decide) (by omega) (by omega) (fun c2 => ?_) (fun c2 => ?_)
      · have htn : t = n := by omega
        rw [htn] at hS hB1 hO1
        have hut := hO1 (p9 + n) (by omega)
        have hutB := hu n (Nat.le_refl _)
        have hUe : nvb nB (nsh u p9) (n + 1) = nvb nB (nsh u p9) n + u (p9 + n) * nB ^ n := nvb_succ _ _ _
        rcases Nat.lt_or_ge (u (p9 + n)) bw with hcase | hcase
        · refine lv_aload_n hx hb d_Dv_takeOff_78 rfl (lv_at hl 3 rfl) ?_
          refine dv_left S hI hA d_Dv_takeOff_79 ?_
          refine lv_iload_n hx hb d_Dv_takeOff_82 rfl (lv_at hl 4 rfl) ?_
          refine lv_iload_n hx hb d_Dv_takeOff_83 rfl (lv_at hl 5 rfl) ?_
          refine lv_iadd hx hb d_Dv_takeOff_84 ?_
          refine hw_ti (nI_add _ _) ?_
          refine lv_dup2_11 hx hb d_Dv_takeOff_85 rfl rfl ?_
          refine ar_ld S hI hU (by decide) (by omega) d_Dv_takeOff_86 ?_
          refine hw_tl (show _ = lN (u (p9 + n)) from by rw [hut]) ?_
          refine lv_lload hx hb d_Dv_takeOff_87 (lv_at hl 1 rfl) ?_
          refine lv_lsub hx hb d_Dv_takeOff_89 ?_
          refine hw_tl (show _ = lN (u (p9 + n) + 2 ^ 64 - bw) from lN_wrap (by omega)) ?_
          refine ar_st S hI hU (by decide) (by omega) d_Dv_takeOff_90 (fun f3 H locs hI hU hf3 => ?_)
          have hF := fun q (h1 : q ≠ al) => (hf3 q h1).trans (hF q h1)
          have hA := hA.fr (hf3 _ hadl)
          have hWb : arrN D L f3 ab 42 w := hWb.fr (hf3 _ (fun e9 => hab e9.symm))
          refine lv_aload_n hx hb d_Dv_takeOff_91 rfl (lv_at hl 3 rfl) ?_
          refine dv_left S hI hA d_Dv_takeOff_92 ?_
          refine lv_iload_n hx hb d_Dv_takeOff_95 rfl (lv_at hl 4 rfl) ?_
          refine lv_iload_n hx hb d_Dv_takeOff_96 rfl (lv_at hl 5 rfl) ?_
          refine lv_iadd hx hb d_Dv_takeOff_97 ?_
          refine hw_ti (nI_add _ _) ?_
          refine ar_ld S hI hU (by decide) (by omega) d_Dv_takeOff_98 ?_
          refine hw_tl (show _ = lN (u (p9 + n) + 2 ^ 64 - bw) from by rw [hw_up_eq]) ?_
          refine lv_lconst (v := lN 0) hx hb d_Dv_takeOff_99 rfl ?_
          refine hw_l_ge (tgt := 114) hx hb d_Dv_takeOff_100 d_Dv_takeOff_101 (by decide) (fun c4 => ?_) (fun c4 => ?_)
          · exact absurd c4 (Int64.not_le.mpr (by rw [show u (p9 + n) + 2 ^ 64 - bw = 2 ^ 64 - (bw - u (p9 + n)) by omega]; exact lN_neg (by omega) (by omega)))
          · refine lv_aload_n hx hb d_Dv_takeOff_104 rfl (lv_at hl 3 rfl) ?_
            refine lv_iload_n hx hb d_Dv_takeOff_105 rfl (lv_at hl 4 rfl) ?_
            refine lv_iload_n hx hb d_Dv_takeOff_106 rfl (lv_at hl 5 rfl) ?_
            refine hw_cV (As := [.int (nI p9), .int (nI n)]) (rest := []) S hI m_Dv_putBack w_491 (c_Dv_putBack l D t0 L _ _ ad al ab _ w p9 n hA hU hWb hab hpn (fun q hq => by rw [hw_up_ne (by omega)]; exact hB1 q hq) hw) hA rfl hl.1 rfl rfl (Nat.le_of_ble_eq_true rfl) d_Dv_takeOff_107 ⟨Nat.le_of_ble_eq_true rfl, Nat.le_of_ble_eq_true rfl⟩ ⟨Nat.le_of_ble_eq_true rfl, Nat.le_of_ble_eq_true rfl⟩ (fun v9 L9 f5 H locs hp hI => ?_)
            refine W.cs (cells' := 0) (slots' := 0) rfl rfl ?_
            obtain ⟨hv9, rfl, u2, cr, hU, hcr, hB2, hS2, ht2, hO2, hF2⟩ := hp
            cases hv9
            refine hw_stk (st' := []) rfl ?_
            rw [nsh_up, nvb_up (Nat.le_refl _)] at hS2
            rw [hw_up_eq] at ht2
            have hg := tk_over hUe hS hVP hV0 (nvb_lt (fun q hq => hB1 q hq)) (nvb_lt (fun q hq => hB2 q hq)) hq2 hcase hcr hS2
            refine lv_lload_n hx hb d_Dv_takeOff_110 rfl (lv_at hl 2 rfl) ?_
            refine lv_lconst (v := lN 1) hx hb d_Dv_takeOff_111 rfl ?_
            refine lv_lsub hx hb d_Dv_takeOff_112 ?_
            refine hw_tl (lN_sub (by omega)) ?_
            refine lv_lstore_n (lv' := [(3, .long (lN (t9 - 1))), (7, .int (nI t)), (5, .long (lN bw)), (0, .ref (ad)), (1, .int (nI p9)), (2, .int (nI n))]) hx hb d_Dv_takeOff_113 rfl hl (by decide) rfl (fun ls hl => ?_)
            refine lv_lload_n hx hb d_Dv_takeOff_114 rfl (lv_at hl 0 rfl) ?_
            have hU3 : arrN D L f5 al 42 (va_up u2 (p9 + n) 0) := hU.at0 (fun q => by by_cases e9 : q = p9 + n; (rw [e9, hw_up_eq, ht2, show u (p9 + n) + 2 ^ 64 - bw + cr = 2 ^ 64 by have := hg.2.2.1; have := hg.2.2.2.1; omega]; decide); (rw [hw_up_ne e9]))
            exact hw_lret hx hb hr hlocks hI d_Dv_takeOff_115 ⟨by rw [← hg.1], rfl, _, hU3, (fun q hq => by rw [hw_up_ne (by omega)]; exact hB2 q hq), hw_up_eq, by rw [nsh_up, nvb_up (Nat.le_refl _)]; exact hg.2.2.2.2, (fun q hq => by rw [hw_up_ne (by omega), hO2 q hq, hw_up_ne (by omega)]; exact hO1 q (by omega)), fun q hq => (hF2 q hq).trans (hF q hq)⟩
        · refine lv_aload_n hx hb d_Dv_takeOff_78 rfl (lv_at hl 3 rfl) ?_
          refine dv_left S hI hA d_Dv_takeOff_79 ?_
          refine lv_iload_n hx hb d_Dv_takeOff_82 rfl (lv_at hl 4 rfl) ?_
          refine lv_iload_n hx hb d_Dv_takeOff_83 rfl (lv_at hl 5 rfl) ?_
          refine lv_iadd hx hb d_Dv_takeOff_84 ?_
          refine hw_ti (nI_add _ _) ?_
          refine lv_dup2_11 hx hb d_Dv_takeOff_85 rfl rfl ?_
          refine ar_ld S hI hU (by decide) (by omega) d_Dv_takeOff_86 ?_
          refine hw_tl (show _ = lN (u (p9 + n)) from by rw [hut]) ?_
          refine lv_lload hx hb d_Dv_takeOff_87 (lv_at hl 1 rfl) ?_
          refine lv_lsub hx hb d_Dv_takeOff_89 ?_
          refine hw_tl (lN_sub (by omega)) ?_
          refine ar_st S hI hU (by decide) (by omega) d_Dv_takeOff_90 (fun f6 H locs hI hU hf6 => ?_)
          have hF := fun q (h1 : q ≠ al) => (hf6 q h1).trans (hF q h1)
          have hA := hA.fr (hf6 _ hadl)
          have hWb : arrN D L f6 ab 42 w := hWb.fr (hf6 _ (fun e9 => hab e9.symm))
          refine lv_aload_n hx hb d_Dv_takeOff_91 rfl (lv_at hl 3 rfl) ?_
          refine dv_left S hI hA d_Dv_takeOff_92 ?_
          refine lv_iload_n hx hb d_Dv_takeOff_95 rfl (lv_at hl 4 rfl) ?_
          refine lv_iload_n hx hb d_Dv_takeOff_96 rfl (lv_at hl 5 rfl) ?_
          refine lv_iadd hx hb d_Dv_takeOff_97 ?_
          refine hw_ti (nI_add _ _) ?_
          refine ar_ld S hI hU (by decide) (by omega) d_Dv_takeOff_98 ?_
          refine hw_tl (show _ = lN (u (p9 + n) - bw) from by rw [hw_up_eq]) ?_
          refine lv_lconst (v := lN 0) hx hb d_Dv_takeOff_99 rfl ?_
          refine hw_l_ge (tgt := 114) hx hb d_Dv_takeOff_100 d_Dv_takeOff_101 (by decide) (fun c7 => ?_) (fun c7 => ?_)
          · have hg := tk_good (B := nB) hUe hS (Nat.le_of_lt hVP) hV0 hq1 hcase
            refine lv_lload_n hx hb d_Dv_takeOff_114 rfl (lv_at hl 2 rfl) ?_
            exact hw_lret hx hb hr hlocks hI d_Dv_takeOff_115 ⟨by rw [← hg.1], rfl, _, hU, (fun q hq => by rw [hw_up_ne (by omega)]; exact hB1 q hq), by rw [hw_up_eq, hg.2.1, Nat.sub_self], by rw [nsh_up, nvb_up (Nat.le_refl _)]; exact hg.2.2, (fun q hq => by rw [hw_up_ne (by omega)]; exact hO1 q (by omega)), hF⟩
          · exact absurd ((pk_lLT (by omega) (by decide)).mp c7) (by omega)
      · exact absurd c2 (by omega)
    | succ g ih =>
      intro t bw u1 f1 H locs ls htg hbw hB1 hO1 hS hA hU hWb hF hI hl
      refine lv_iload hx hb d_Dv_takeOff_13 (lv_at hl 0 rfl) ?_
      refine lv_iload_n hx hb d_Dv_takeOff_15 rfl (lv_at hl 5 rfl) ?_
      refine hw_icmp_ge (tgt := 78) hx hb d_Dv_takeOff_16 (by decide) (by omega) (by omega) (fun c8 => ?_) (fun c8 => ?_)
      · exact absurd c8 (by omega)
      · have hut := hu t (by omega)
        have hwt := hw t (by omega)
        have he := hO1 (p9 + t) (by omega)
        have hyb : t9 * w t ≤ (nB - 1) * nB := Nat.mul_le_mul (by omega) (by omega)
        have hn2 : (nB - 1) * nB = 999999999000000000 := rfl
        rw [hn2] at hyb
        obtain ⟨bw2, dg, hdg, hbw2, hst, hfl⟩ := fl_step hut hyb hbw
        obtain ⟨dd, hdd⟩ : ∃ dd : Int, dd = ((u (p9 + t) : Nat) : Int) - ((t9 * w t : Nat) : Int) - ((bw : Nat) : Int) := ⟨_, rfl⟩
        rw [← hdd] at hfl
        refine lv_aload_n hx hb d_Dv_takeOff_19 rfl (lv_at hl 3 rfl) ?_
        refine dv_left S hI hA d_Dv_takeOff_20 ?_
        refine lv_iload_n hx hb d_Dv_takeOff_23 rfl (lv_at hl 4 rfl) ?_
        refine lv_iload hx hb d_Dv_takeOff_24 (lv_at hl 0 rfl) ?_
        refine lv_iadd hx hb d_Dv_takeOff_26 ?_
        refine hw_ti (nI_add _ _) ?_
        refine ar_ld S hI hU (by decide) (by omega) d_Dv_takeOff_27 ?_
        refine hw_tl (show _ = lN (u (p9 + t)) from by rw [he]) ?_
        refine lv_lload_n hx hb d_Dv_takeOff_28 rfl (lv_at hl 2 rfl) ?_
        refine lv_aload_n hx hb d_Dv_takeOff_29 rfl (lv_at hl 3 rfl) ?_
        refine dv_by S hI hA d_Dv_takeOff_30 ?_
        refine lv_iload hx hb d_Dv_takeOff_33 (lv_at hl 0 rfl) ?_
        refine ar_ld S hI hWb (by decide) (by omega) d_Dv_takeOff_35 ?_
        refine lv_lmul hx hb d_Dv_takeOff_36 ?_
        refine hw_tl (lN_mul _ _) ?_
        refine lv_lsub hx hb d_Dv_takeOff_37 ?_
        refine lv_lload hx hb d_Dv_takeOff_38 (lv_at hl 1 rfl) ?_
        refine lv_lsub hx hb d_Dv_takeOff_40 ?_
        refine hw_tl (show _ = zL dd from by rw [hdd]; exact lN_z3 _ _ _) ?_
        refine lv_lstore (lv' := [(8, .long (zL dd)), (7, .int (nI t)), (5, .long (lN bw)), (3, .long (lN t9)), (0, .ref (ad)), (1, .int (nI p9)), (2, .int (nI n))]) hx hb d_Dv_takeOff_41 hl (by decide) rfl (fun ls hl => ?_)
        refine lv_lload hx hb d_Dv_takeOff_43 (lv_at hl 0 rfl) ?_
        refine hw_ldc2 (v := lN nB) hx hb hown (hT _ w_476) d_Dv_takeOff_45 ?_
        refine hw_tl (show _ = zL (nB : Int) from zL_lN nB) ?_
        have hdb : -2 ^ 62 < dd ∧ dd < 2 ^ 62 := by constructor <;> omega
        refine hw_cS (As := [.long (zL dd), .long (zL (nB : Int))]) (rest := []) S hI m_Mt_floorDiv w_488 (c_Mt_floorDiv l D t0 L _ _ dd (nB : Int) hdb.1 hdb.2 (by decide) (by decide)) hl.1 rfl rfl (Nat.le_of_ble_eq_true rfl) d_Dv_takeOff_48 ⟨Nat.le_of_ble_eq_true rfl, Nat.le_of_ble_eq_true rfl⟩ ⟨Nat.le_of_ble_eq_true rfl, Nat.le_of_ble_eq_true rfl⟩ (fun v9 L9 f9 H locs hp hI => ?_)
        refine W.cs (cells' := 0) (slots' := 0) rfl rfl ?_
        obtain ⟨hv9, rfl, rfl⟩ := hp
        cases hv9
        refine hw_stk (st' := [.long (zL (dd / (nB : Int)))]) rfl ?_
        refine lv_lneg hx hb d_Dv_takeOff_51 ?_
        refine hw_tl (show _ = lN bw2 from by rw [zL_neg, hfl]; exact (zL_lN _).symm) ?_
        refine lv_lstore (lv' := [(5, .long (lN bw2)), (8, .long (zL dd)), (7, .int (nI t)), (3, .long (lN t9)), (0, .ref (ad)), (1, .int (nI p9)), (2, .int (nI n))]) hx hb d_Dv_takeOff_52 hl (by decide) rfl (fun ls hl => ?_)
        refine lv_aload_n hx hb d_Dv_takeOff_54 rfl (lv_at hl 4 rfl) ?_
        refine dv_left S hI hA d_Dv_takeOff_55 ?_
        refine lv_iload_n hx hb d_Dv_takeOff_58 rfl (lv_at hl 5 rfl) ?_
        refine lv_iload hx hb d_Dv_takeOff_59 (lv_at hl 2 rfl) ?_
        refine lv_iadd hx hb d_Dv_takeOff_61 ?_
        refine hw_ti (nI_add _ _) ?_
        refine lv_lload hx hb d_Dv_takeOff_62 (lv_at hl 1 rfl) ?_
        refine lv_lload hx hb d_Dv_takeOff_64 (lv_at hl 0 rfl) ?_
        refine hw_ldc2 (v := lN nB) hx hb hown (hT _ w_476) d_Dv_takeOff_66 ?_
        refine lv_lmul hx hb d_Dv_takeOff_69 ?_
        refine hw_tl (lN_mul _ _) ?_
        refine lv_ladd hx hb d_Dv_takeOff_70 ?_
        refine hw_tl (show _ = lN dg from zL_dig (by omega)) ?_
        refine ar_st S hI hU (by decide) (by omega) d_Dv_takeOff_71 (fun f10 H locs hI hU hf10 => ?_)
        have hF := fun q (h1 : q ≠ al) => (hf10 q h1).trans (hF q h1)
        have hA := hA.fr (hf10 _ hadl)
        have hWb : arrN D L f10 ab 42 w := hWb.fr (hf10 _ (fun e9 => hab e9.symm))
        refine lv_iinc (v := nI (t + 1)) (lv' := [(7, .int (nI (t + 1))), (5, .long (lN bw2)), (8, .long (zL dd)), (3, .long (lN t9)), (0, .ref (ad)), (1, .int (nI p9)), (2, .int (nI n))]) hx hb d_Dv_takeOff_72 hl (k := 2) rfl (nI_1 _) (by decide) rfl (fun ls hl => ?_)
        refine lv_goto (tgt := 13) hx hb d_Dv_takeOff_75 (by decide) ?_
        have hS2 := nvb_borrow (x := u (p9 + t)) (y := t9 * w t) hS hst
        exact ih (t + 1) bw2 _ _ _ _ _ (by omega) hbw2 (fun q hq => by by_cases e9 : q = t; (subst e9; rw [hw_up_eq]; omega); (rw [hw_up_ne (by omega)]; exact hB1 q (by omega))) (fun q hq => by rw [hw_up_ne (by omega)]; exact hO1 q (by omega)) (by rw [nsh_up, nvb_succ nB w t, nvb_succ nB (nsh u p9) t, show t9 * (nvb nB w t + w t * nB ^ t) = t9 * nvb nB w t + t9 * w t * nB ^ t by grind]; exact hS2) hA hU hWb hF hI (lv_sub hl [0, 1, 3, 4, 5, 6] rfl)
  refine lv_lstore_n (lv' := [(3, .long (lN t9)), (0, .ref (ad)), (1, .int (nI p9)), (2, .int (nI n))]) hx hb d_Dv_takeOff_6 rfl hl (by decide) rfl (fun ls hl => ?_)
  refine lv_lconst (v := lN 0) hx hb d_Dv_takeOff_7 rfl ?_
  refine lv_lstore (lv' := [(5, .long (lN 0)), (3, .long (lN t9)), (0, .ref (ad)), (1, .int (nI p9)), (2, .int (nI n))]) hx hb d_Dv_takeOff_8 hl (by decide) rfl (fun ls hl => ?_)
  refine lv_iconst (v := nI 0) hx hb d_Dv_takeOff_10 (by decide) ?_
  refine lv_istore (lv' := [(7, .int (nI 0)), (5, .long (lN 0)), (3, .long (lN t9)), (0, .ref (ad)), (1, .int (nI p9)), (2, .int (nI n))]) hx hb d_Dv_takeOff_11 hl (by decide) rfl (fun ls hl => ?_)
  exact loop n 0 0 u _ _ _ _ (by omega) (by omega) (fun q hq => absurd hq (by omega)) (fun _ _ => rfl) (by simp [nvb_zero]) hA hU hWb (fun _ _ => rfl) hI hl
end
section
set_option maxHeartbeats 4000000 in
set_option maxRecDepth 100000 in
theorem c_Dv_splitLong (l : Launch) (D : va_G) (t0 : Nat) (L : List Nat) (f : Nat → va_E) (sz : Nat) (o r : Nat → Nat) (N : Nat) (x : Nat → Nat) (ad al ab : Nat) (u w : Nat → Nat) (j k qa qb : Nat) (hY : Lay o r N) (hN : AllN D L f o r N x) (hA : hw_c L f ad (.inr (0, [.ref al, .ref ab]))) (hU : arrN D L f al 42 u) (hWb : arrN D L f ab 42 w) (hab : al ≠ ab) (hral : ∀ z, z < N → al ≠ r z) (hrab : ∀ z, z < N → ab ≠ r z) (hj : j < N) (hk : k < N) (hqa : qa < N) (hqb : qb < N) (hq2 : qa ≠ qb) (hk2 : nB ≤ x k) (hjk : ∀ z, x j < nB ^ z → x k < nB ^ z) : Met l y_Dv_splitLong (Cond.code y_Dv_splitLong b_Dv_splitLong 10 none :: TT) ({ frames := 7, cells := 0, slots := 0, locals := 139 } : Room) (hw_Pc t0 [.ref (ad), .ref (o j), .ref (o k), .ref (o qa), .ref (o qb)] D L f sz) (hw_Q D L sz (fun oc L' f' => oc = .returned none ∧ L = L' ∧ AllN D L f' o r N (va_up (va_up x qa (x j / x k)) qb (x j % x k)) ∧ (∃ u' w', arrN D L f' al 42 u' ∧ arrN D L f' ab 42 w') ∧ ∀ q, q ≠ o qa → q ≠ r qa → q ≠ o qb → q ≠ r qb → q ≠ al → q ≠ ab → f' q = f q)) 0 0 (hw_A L sz) := by
  refine Met.ofW (cc := b_Dv_splitLong) (maxL := 10) (ret := none) (by decide) rfl ?_
  intro p e s m args below meth c s₁ B hml hv
  obtain ⟨rfl, rfl, hI⟩ := hw_start hv
  clear hv
  have hx := B.exec
  have hb := B.bytes
  have hr := B.returns
  have hlocks := B.notSynchronized
  have hown : s.vm.findClass "WallFractions$Divider" = some m.cls := findClass_of_methodNamed B.named
  have hT : ∀ w ∈ TT, w.before ([.ref (ad), .ref (o j), .ref (o k), .ref (o qa), .ref (o qb)]).toArray s = true := fun w h => atoms_spec (ws := (Cond.code y_Dv_splitLong b_Dv_splitLong 10 none :: TT)) B.pre w (List.mem_cons_of_mem _ h)
  have S : CallFix p m c b_Dv_splitLong 10 s ([.ref (ad), .ref (o j), .ref (o k), .ref (o qa), .ref (o qb)]).toArray TT "WallFractions$Divider" := ⟨hx, hb, hml, hown, hT⟩
  have hl := lv_entry ([.ref (ad), .ref (o j), .ref (o k), .ref (o qa), .ref (o qb)]) (n := 10) (Nat.le_of_ble_eq_true rfl)
  rw [lg_entry_eq]
  generalize (lg_sl ([.ref (ad), .ref (o j), .ref (o k), .ref (o qa), .ref (o qb)]) ++ List.replicate (10 - (lg_sl ([.ref (ad), .ref (o j), .ref (o k), .ref (o qa), .ref (o qb)])).length) Slot.unset).toArray = ls at hl ⊢
  have hl : lv_has ls 10 [(0, .ref (ad)), (1, .ref (o j)), (2, .ref (o k)), (3, .ref (o qa)), (4, .ref (o qb))] := hl
  skip
  obtain ⟨v, hV, hO⟩ := hN
  have hnB : nB = 1000000000 := rfl
  have h41j := (hO j hj).1
  have h41k := (hO k hk).1
  have hnm0 : (v k).1 ≤ (v j).1 := ((hO k hk).2.size_le nB1).mpr (hjk _ (hO j hj).2.lt)
  have hn20 : 2 ≤ (v k).1 := by rcases Nat.lt_or_ge 1 (v k).1 with q | q; exact q; have q1 := ((hO k hk).2.size_le nB1).mp q; rw [Nat.pow_one] at q1; omega
  obtain ⟨n, hn⟩ : ∃ n, n = (v k).1 := ⟨_, rfl⟩
  obtain ⟨m9, hm⟩ : ∃ m9, m9 = (v j).1 := ⟨_, rfl⟩
  obtain ⟨tp, htp⟩ : ∃ tp, tp = (v k).2 (n - 1) := ⟨_, rfl⟩
  obtain ⟨sc, hsc⟩ : ∃ sc, sc = nB / (tp + 1) := ⟨_, rfl⟩
  have htpB : tp < nB := by rw [htp]; exact (hO k hk).2.1 _
  have hscB : sc ≤ nB := by rw [hsc]; exact Nat.div_le_self _ _
  have hVo : ∀ z, z < N → o z ≠ al := fun z hz => hV.ne hU hz
  have hVp : ∀ z, z < N → o z ≠ ab := fun z hz => hV.ne hWb hz
  have hadl : ad ≠ al := fun e9 => hw_ne hU hA e9.symm
  have hadb : ad ≠ ab := fun e9 => hw_ne hWb hA e9.symm
  have hado : ∀ z, z < N → ad ≠ o z := fun z hz e9 => by have h9 := (hV z hz).1.2; rw [← e9, hA.2] at h9; cases h9
  have hadr : ∀ z, z < N → ad ≠ r z := fun z hz e9 => hw_ne (hV z hz).2 hA e9.symm
  refine lv_aload_n hx hb d_Dv_splitLong_0 rfl (lv_at hl 2 rfl) ?_
  refine wh_sizeN S hI hV hk (by decide) d_Dv_splitLong_1 ?_
  refine hw_ti (show _ = nI n from by rw [hn]) ?_
  refine lv_istore (lv' := [(5, .int (nI n)), (0, .ref (ad)), (1, .ref (o j)), (2, .ref (o k)), (3, .ref (o qa)), (4, .ref (o qb))]) hx hb d_Dv_splitLong_4 hl (by decide) rfl (fun ls hl => ?_)
  refine lv_aload_n hx hb d_Dv_splitLong_6 rfl (lv_at hl 2 rfl) ?_
  refine wh_sizeN S hI hV hj (by decide) d_Dv_splitLong_7 ?_
  refine hw_ti (show _ = nI m9 from by rw [hm]) ?_
  refine lv_iload hx hb d_Dv_splitLong_10 (lv_at hl 0 rfl) ?_
  refine lv_isub hx hb d_Dv_splitLong_12 ?_
  refine hw_ti (pk_sub (by omega)) ?_
  refine lv_istore (lv' := [(6, .int (nI (m9 - n))), (5, .int (nI n)), (0, .ref (ad)), (1, .ref (o j)), (2, .ref (o k)), (3, .ref (o qa)), (4, .ref (o qb))]) hx hb d_Dv_splitLong_13 hl (by decide) rfl (fun ls hl => ?_)
  refine hw_ldc2 (v := lN nB) hx hb hown (hT _ w_476) d_Dv_splitLong_15 ?_
  refine lv_aload_n hx hb d_Dv_splitLong_18 rfl (lv_at hl 4 rfl) ?_
  refine wh_limbsN S hI hV hk (by decide) d_Dv_splitLong_19 ?_
  refine lv_iload hx hb d_Dv_splitLong_22 (lv_at hl 1 rfl) ?_
  refine lv_iconst (v := nI 1) hx hb d_Dv_splitLong_24 (by decide) ?_
  refine lv_isub hx hb d_Dv_splitLong_25 ?_
  refine hw_ti (pk_sub (by omega)) ?_
  refine wh_ld S hI hV hk (by omega) d_Dv_splitLong_26 ?_
  refine hw_tl (show _ = lN tp from by rw [htp]) ?_
  refine lv_lconst (v := lN 1) hx hb d_Dv_splitLong_27 rfl ?_
  refine lv_ladd hx hb d_Dv_splitLong_28 ?_
  refine hw_tl (lN_add _ _) ?_
  refine lv_ldiv hx hb d_Dv_splitLong_29 (by intro h9; have h8 := (pk_lEQ (b := 0) (by omega) (by decide)).mp h9; omega) ?_
  refine hw_tl (pk_lDiv (by omega) (by omega) (by omega)) ?_
  refine hw_tl (show _ = lN sc from by rw [hsc]) ?_
  refine lv_lstore (lv' := [(7, .long (lN sc)), (6, .int (nI (m9 - n))), (5, .int (nI n)), (0, .ref (ad)), (1, .ref (o j)), (2, .ref (o k)), (3, .ref (o qa)), (4, .ref (o qb))]) hx hb d_Dv_splitLong_30 hl (by decide) rfl (fun ls hl => ?_)
  refine lv_aload_n hx hb d_Dv_splitLong_32 rfl (lv_at hl 4 rfl) ?_
  refine lv_lload hx hb d_Dv_splitLong_33 (lv_at hl 0 rfl) ?_
  refine lv_aload_n hx hb d_Dv_splitLong_35 rfl (lv_at hl 3 rfl) ?_
  refine dv_left S hI hA d_Dv_splitLong_36 ?_
  refine hw_cS (As := [.ref (o j), .long (lN sc), .ref (al)]) (rest := []) S hI m_Dv_lay w_477 (c_Dv_lay l D t0 L _ _ o r N v j al u sc hj hV hU hral h41j (hO j hj).2.1 hscB) hl.1 rfl rfl (Nat.le_of_ble_eq_true rfl) d_Dv_splitLong_39 ⟨Nat.le_of_ble_eq_true rfl, Nat.le_of_ble_eq_true rfl⟩ ⟨Nat.le_of_ble_eq_true rfl, Nat.le_of_ble_eq_true rfl⟩ (fun v9 L9 f1 H locs hp hI => ?_)
  refine W.cs (cells' := 0) (slots' := 0) rfl rfl ?_
  obtain ⟨hv9, rfl, u1, hU, hu1, hu2, hf1⟩ := hp
  cases hv9
  refine hw_stk (st' := []) rfl ?_
  have hV := hV.fr (fun z hz => ⟨hf1 _ (hVo z hz), hf1 _ (fun e9 => hral z hz e9.symm)⟩)
  have hA := hA.fr (hf1 _ hadl)
  have hWb : arrN D L f1 ab 42 w := hWb.fr (hf1 _ (fun e9 => hab e9.symm))
  refine lv_aload_n hx hb d_Dv_splitLong_42 rfl (lv_at hl 5 rfl) ?_
  refine lv_lload hx hb d_Dv_splitLong_43 (lv_at hl 0 rfl) ?_
  refine lv_aload_n hx hb d_Dv_splitLong_45 rfl (lv_at hl 3 rfl) ?_
  refine dv_by S hI hA d_Dv_splitLong_46 ?_
  refine hw_cS (As := [.ref (o k), .long (lN sc), .ref (ab)]) (rest := []) S hI m_Dv_lay w_477 (c_Dv_lay l D t0 L _ _ o r N v k ab w sc hk hV hWb hrab h41k (hO k hk).2.1 hscB) hl.1 rfl rfl (Nat.le_of_ble_eq_true rfl) d_Dv_splitLong_49 ⟨Nat.le_of_ble_eq_true rfl, Nat.le_of_ble_eq_true rfl⟩ ⟨Nat.le_of_ble_eq_true rfl, Nat.le_of_ble_eq_true rfl⟩ (fun v9 L9 f2 H locs hp hI => ?_)
  refine W.cs (cells' := 0) (slots' := 0) rfl rfl ?_
  obtain ⟨hv9, rfl, w1, hWb, hw1, hw2, hf2⟩ := hp
  cases hv9
  refine hw_stk (st' := []) rfl ?_
  have hV := hV.fr (fun z hz => ⟨hf2 _ (hVp z hz), hf2 _ (fun e9 => hrab z hz e9.symm)⟩)
  have hA := hA.fr (hf2 _ hadb)
  have hU : arrN D L f2 al 42 u1 := hU.fr (hf2 _ hab)
  have hF0 := fun q (h1 : q ≠ al) (h2 : q ≠ ab) => (hf2 q h2).trans (hf1 q h1)
  obtain ⟨hw1n, hVe, hnorm, hs1, hs2⟩ := sc_row (hO k hk).2 (by omega) (by rw [← hn, ← htp]; exact hsc) hw1 hw2
  rw [(hO j hj).2.2.2, ← hm] at hu2
  rw [← hn] at hVe hnorm hw1 hnm0 hn20
  rw [← hm] at hu1 hnm0
  have hV0 : 0 < nvb nB w1 n := by rw [hVe]; exact Nat.mul_pos (by omega) (by omega)
  have loop : ∀ (pl : Nat) (h u2 : Nat → Nat) (f1 : Nat → va_E) (H : Heap) (locs : List Loc) (ls : Array Slot), pl ≤ m9 - n + 1 → (∀ q, h q < nB) → (∀ q, q ≤ m9 → u2 q < nB) → nvb nB u2 (pl + n) < nvb nB w1 n * nB ^ pl → x j * sc = nvb nB (nsh h pl) (m9 - n + 1 - pl) * nvb nB w1 n * nB ^ pl + nvb nB u2 (pl + n) → AllW D L f1 o r N (va_up v qa ((v qa).1, h)) → hw_c L f1 ad (.inr (0, [.ref al, .ref ab])) → arrN D L f1 al 42 u2 → arrN D L f1 ab 42 w1 → (∀ q, q ≠ r qa → q ≠ al → q ≠ ab → f1 q = f q) → hw_I D t0 (hw_A L s.heap.size) s L f1 H locs → lv_has ls 10 [(9, .int (mI pl)), (7, .long (lN sc)), (6, .int (nI (m9 - n))), (5, .int (nI n)), (0, .ref (ad)), (1, .ref (o j)), (2, .ref (o k)), (3, .ref (o qa)), (4, .ref (o qb))] → W p l e (headSpec (Cond.code y_Dv_splitLong b_Dv_splitLong 10 none :: TT) ({ frames := 7, cells := 0, slots := 0, locals := 139 } : Room)).room s m ([.ref (ad), .ref (o j), .ref (o k), .ref (o qa), .ref (o qb)]).toArray below meth c H locs 0 0 (MQ below (hw_Q D L s.heap.size (fun oc L' f' => oc = .returned none ∧ L = L' ∧ AllN D L f' o r N (va_up (va_up x qa (x j / x k)) qb (x j % x k)) ∧ (∃ u' w', arrN D L f' al 42 u' ∧ arrN D L f' ab 42 w') ∧ ∀ q, q ≠ o qa → q ≠ r qa → q ≠ o qb → q ≠ r qb → q ≠ al → q ≠ ab → f' q = f q)) ([.ref (ad), .ref (o j), .ref (o k), .ref (o qa), .ref (o qb)]).toArray s 0 0 (hw_A L s.heap.size)) (F0 m 56 ls []) := by
    intro pl
    induction pl with
    | zero =>
      intro h u2 f1 H locs ls hpl hB hu2B hR hX hV hA hU hWb hF hI hl
      rw [nsh0, Nat.sub_zero, Nat.pow_zero, Nat.mul_one, Nat.zero_add] at hX
      rw [Nat.pow_zero, Nat.mul_one, Nat.zero_add] at hR
      obtain ⟨hQ, hRs⟩ := sl_fin hX hR hVe rfl (by omega)
      refine lv_iload hx hb d_Dv_splitLong_56 (lv_at hl 0 rfl) ?_
      refine hw_m0 (tgt := 82) hx hb d_Dv_splitLong_58 (by decide) ?_
      refine lv_aload_n hx hb d_Dv_splitLong_82 rfl (lv_at hl 7 rfl) ?_
      refine lv_iload hx hb d_Dv_splitLong_83 (lv_at hl 2 rfl) ?_
      refine lv_iconst (v := nI 1) hx hb d_Dv_splitLong_85 (by decide) ?_
      refine lv_iadd hx hb d_Dv_splitLong_86 ?_
      refine hw_ti (nI_add _ _) ?_
      refine hw_cVN (As := [.int (nI ((m9 - n) + 1))]) (rest := []) S hI m_Wh_settle (by decide +kernel) (c_Wh_settle l D t0 L _ _ o r N (va_up v qa ((v qa).1, h)) qa (m9 - n + 1) hqa hY hV (by omega) (by rw [hw_up_eq]; exact hB)) (hV _ hqa).1 rfl hl.1 rfl rfl (Nat.le_of_ble_eq_true rfl) d_Dv_splitLong_87 ⟨Nat.le_of_ble_eq_true rfl, Nat.le_of_ble_eq_true rfl⟩ ⟨Nat.le_of_ble_eq_true rfl, Nat.le_of_ble_eq_true rfl⟩ (fun v9 L9 f3 H locs hp hI => ?_)
      refine W.cs (cells' := 0) (slots' := 0) rfl rfl ?_
      obtain ⟨hv9, rfl, n9, hn9, hk9, hV, hf9⟩ := hp
      cases hv9
      refine hw_stk (st' := []) rfl ?_
      rw [hw_up_eq] at hk9
      have hV : AllW D L f3 o r N (va_up v qa (n9, h)) := by simpa only [hw_up_eq, bx_uu] using hV
      have hA := hA.fr (hf9 _ (hado qa hqa))
      have hU : arrN D L f3 al 42 u2 := hU.fr (hf9 _ (fun e9 => hVo qa hqa e9.symm))
      have hWb : arrN D L f3 ab 42 w1 := hWb.fr (hf9 _ (fun e9 => hVp qa hqa e9.symm))
      have eb : va_up v qa (n9, h) qb = v qb := hw_up_ne (fun e9 => hq2 e9.symm)
      refine lv_aload_n hx hb d_Dv_splitLong_90 rfl (lv_at hl 4 rfl) ?_
      refine dv_left S hI hA d_Dv_splitLong_91 ?_
      refine lv_iconst (v := nI 0) hx hb d_Dv_splitLong_94 (by decide) ?_
      refine lv_aload hx hb d_Dv_splitLong_95 (lv_at hl 8 rfl) ?_
      refine wh_limbsN S hI hV hqb (by decide) d_Dv_splitLong_97 ?_
      refine lv_iconst (v := nI 0) hx hb d_Dv_splitLong_100 (by decide) ?_
      refine lv_iload hx hb d_Dv_splitLong_101 (lv_at hl 3 rfl) ?_
      refine wh_copy S hI hV hY hqb hU hl.1 w_496 (by omega) (by omega) (Nat.le_of_ble_eq_true rfl) (Nat.le_of_ble_eq_true rfl) d_Dv_splitLong_103 (fun f2 H locs hI hV hF2 => ?_)
      rw [eb] at hV
      obtain ⟨g9, hg9⟩ : ∃ g9 : Nat → Nat, g9 = fun q => if q < n then u2 q else (v qb).2 q := ⟨_, rfl⟩
      rw [← hg9] at hV
      have hg9B : ∀ q, g9 q < nB := fun q => by rw [hg9]; dsimp only; split; exact hu2B q (by omega); exact (hO qb hqb).2.1 q
      have hg9v : nvb nB g9 n = nvb nB u2 n := nvb_congr (fun q hq => by rw [hg9]; dsimp only; rw [if_pos hq])
      have hU : arrN D L f2 al 42 u2 := hU.fr (hF2 _ (hral qb hqb))
      have hWb : arrN D L f2 ab 42 w1 := hWb.fr (hF2 _ (hrab qb hqb))
      refine lv_aload hx hb d_Dv_splitLong_106 (lv_at hl 8 rfl) ?_
      refine lv_iload hx hb d_Dv_splitLong_108 (lv_at hl 3 rfl) ?_
      refine hw_cVN (As := [.int (nI n)]) (rest := []) S hI m_Wh_settle (by decide +kernel) (c_Wh_settle l D t0 L _ _ o r N (va_up (va_up v qa (n9, h)) qb ((v qb).1, g9)) qb n hqb hY hV (by omega) (by rw [hw_up_eq]; exact hg9B)) (hV _ hqb).1 rfl hl.1 rfl rfl (Nat.le_of_ble_eq_true rfl) d_Dv_splitLong_110 ⟨Nat.le_of_ble_eq_true rfl, Nat.le_of_ble_eq_true rfl⟩ ⟨Nat.le_of_ble_eq_true rfl, Nat.le_of_ble_eq_true rfl⟩ (fun v9 L9 f4 H locs hp hI => ?_)
      refine W.cs (cells' := 0) (slots' := 0) rfl rfl ?_
      obtain ⟨hv9, rfl, n10, hn10, hk10, hV, hf10⟩ := hp
      cases hv9
      refine hw_stk (st' := []) rfl ?_
      rw [hw_up_eq] at hk10
      have hV : AllW D L f4 o r N (va_up (va_up v qa (n9, h)) qb (n10, g9)) := by simpa only [hw_up_eq, bx_uu] using hV
      have hU : arrN D L f4 al 42 u2 := hU.fr (hf10 _ (fun e9 => hVo qb hqb e9.symm))
      have hWb : arrN D L f4 ab 42 w1 := hWb.fr (hf10 _ (fun e9 => hVp qb hqb e9.symm))
      have hN1 := AllN.mk (upO hO (by omega) hk9) hV (by omega) hk10
      rw [hg9v] at hN1
      refine lv_aload hx hb d_Dv_splitLong_113 (lv_at hl 8 rfl) ?_
      refine lv_aload hx hb d_Dv_splitLong_115 (lv_at hl 8 rfl) ?_
      refine lv_lload hx hb d_Dv_splitLong_117 (lv_at hl 1 rfl) ?_
      refine hw_cV (As := [.ref (o qb), .long (lN sc)]) (rest := []) S hI m_Wh_becomeQuotient w_468 (c_Wh_becomeQuotient l D t0 L _ _ o r N _ qb qb sc hqb hY hN1 hqb (by omega) hscB) (hV _ hqb).1 rfl hl.1 rfl rfl (Nat.le_of_ble_eq_true rfl) d_Dv_splitLong_119 ⟨Nat.le_of_ble_eq_true rfl, Nat.le_of_ble_eq_true rfl⟩ ⟨Nat.le_of_ble_eq_true rfl, Nat.le_of_ble_eq_true rfl⟩ (fun v9 L9 f5 H locs hp hI => ?_)
      refine W.cs (cells' := 0) (slots' := 0) rfl rfl ?_
      obtain ⟨hv9, rfl, hN2, hf12⟩ := hp
      cases hv9
      refine hw_stk (st' := [.long (lN ((va_up (va_up x qa (nvb nB h (m9 - n + 1))) qb (nvb nB u2 n)) qb % sc))]) rfl ?_
      have hU : arrN D L f5 al 42 u2 := hU.fr (hf12 _ (fun e9 => hVo qb hqb e9.symm) (hral qb hqb))
      have hWb : arrN D L f5 ab 42 w1 := hWb.fr (hf12 _ (fun e9 => hVp qb hqb e9.symm) (hrab qb hqb))
      rw [hw_up_eq, bx_uu, hQ, hRs] at hN2
      refine lv_pop2_2 hx hb d_Dv_splitLong_122 rfl ?_
      exact hw_vret hx hb hr hlocks hI d_Dv_splitLong_123 ⟨rfl, rfl, hN2, ⟨u2, w1, hU, hWb⟩, fun q h1 h2 h3 h4 h5 h6 => (hf12 q h3 h4).trans ((hf10 q h3).trans ((hF2 q h4).trans ((hf9 q h1).trans (hF q h2 h5 h6))))⟩
    | succ pl ih =>
      intro h u2 f1 H locs ls hpl hB hu2B hR hX hV hA hU hWb hF hI hl
      rw [mI_s] at hl
      refine lv_iload hx hb d_Dv_splitLong_56 (lv_at hl 0 rfl) ?_
      refine hw_if_lt (tgt := 82) hx hb d_Dv_splitLong_58 (by decide) (by omega) ?_
      refine lv_aload_n hx hb d_Dv_splitLong_61 rfl (lv_at hl 7 rfl) ?_
      refine wh_limbsN S hI hV hqa (by decide) d_Dv_splitLong_62 ?_
      refine lv_iload hx hb d_Dv_splitLong_65 (lv_at hl 0 rfl) ?_
      refine lv_aload_n hx hb d_Dv_splitLong_67 rfl (lv_at hl 4 rfl) ?_
      refine lv_iload hx hb d_Dv_splitLong_68 (lv_at hl 0 rfl) ?_
      refine lv_iload hx hb d_Dv_splitLong_70 (lv_at hl 3 rfl) ?_
      have hltU : nvb nB (nsh u2 pl) (n + 1) < nvb nB w1 n * nB := ld_lt hR
      refine hw_cV (As := [.int (nI pl), .int (nI n)]) (rest := [.int (nI pl), .ref (r qa)]) S hI m_Dv_takeOff w_480 (c_Dv_takeOff l D t0 L _ _ ad al ab u2 w1 pl n hA hU hWb hab hn20 (by omega) (fun q hq => hu2B _ (by omega)) (fun q hq => hw1 q (by omega)) hnorm hltU) hA rfl hl.1 rfl rfl (Nat.le_of_ble_eq_true rfl) d_Dv_splitLong_72 ⟨Nat.le_of_ble_eq_true rfl, Nat.le_of_ble_eq_true rfl⟩ ⟨Nat.le_of_ble_eq_true rfl, Nat.le_of_ble_eq_true rfl⟩ (fun v9 L9 f6 H locs hp hI => ?_)
      refine W.cs (cells' := 0) (slots' := 0) rfl rfl ?_
      obtain ⟨hv9, rfl, u3, hU, hB3, h03, hr3, hO3, hf3⟩ := hp
      cases hv9
      refine hw_stk (st' := [.long (lN (nvb nB (nsh u2 pl) (n + 1) / nvb nB w1 n)), .int (nI pl), .ref (r qa)]) rfl ?_
      have hV := hV.fr (fun z hz => ⟨hf3 _ (hVo z hz), hf3 _ (fun e9 => hral z hz e9.symm)⟩)
      have hA := hA.fr (hf3 _ hadl)
      have hWb : arrN D L f6 ab 42 w1 := hWb.fr (hf3 _ (fun e9 => hab e9.symm))
      have hqB : nvb nB (nsh u2 pl) (n + 1) / nvb nB w1 n < nB := (Nat.div_lt_iff_lt_mul hV0).mpr (by rw [Nat.mul_comm]; exact hltU)
      refine wh_st S hI hV hY hqa (by omega) d_Dv_splitLong_75 (fun f7 H locs hI hV hf7 => ?_)
      have hV : AllW D L f7 o r N (va_up v qa ((v qa).1, va_up h pl (nvb nB (nsh u2 pl) (n + 1) / nvb nB w1 n))) := by simpa only [hw_up_eq, bx_uu] using hV
      have hA := hA.fr (hf7 _ (hadr qa hqa))
      have hU : arrN D L f7 al 42 u3 := hU.fr (hf7 _ (hral qa hqa))
      have hWb : arrN D L f7 ab 42 w1 := hWb.fr (hf7 _ (hrab qa hqa))
      refine lv_iinc (v := mI pl) (lv' := [(9, .int (mI pl)), (7, .long (lN sc)), (6, .int (nI (m9 - n))), (5, .int (nI n)), (0, .ref (ad)), (1, .ref (o j)), (2, .ref (o k)), (3, .ref (o qa)), (4, .ref (o qb))]) hx hb d_Dv_splitLong_76 hl (k := 0) rfl (mI_d pl) (by decide) rfl (fun ls hl => ?_)
      refine lv_goto (tgt := 56) hx hb d_Dv_splitLong_79 (by decide) ?_
      have hst := ld_step (m := m9 - n + 1) (by omega) (fun q hq => hu2B q (by omega)) (fun q hq => hO3 q (Or.inl hq)) hV0 hr3 hX
      exact ih (va_up h pl (nvb nB (nsh u2 pl) (n + 1) / nvb nB w1 n)) u3 _ _ _ _ (by omega) (fun q => by by_cases e9 : q = pl; (rw [e9, hw_up_eq]; exact hqB); (rw [hw_up_ne e9]; exact hB q)) (fun q hq => by rcases Nat.lt_or_ge q pl with h9 | h9; (rw [hO3 q (Or.inl h9)]; exact hu2B q hq); rcases Nat.lt_or_ge q (pl + n) with h8 | h8; (rw [show q = pl + (q - pl) by omega]; exact hB3 _ (by omega)); rcases Nat.eq_or_lt_of_le h8 with h7 | h7; (rw [← h7, h03]; exact nB_pos); (rw [hO3 q (Or.inr h7)]; exact hu2B q hq)) hst.1 hst.2 hV hA hU hWb (fun q h1 h2 h3 => (hf7 q h1).trans ((hf3 q h2).trans (hF q h1 h2 h3))) hI hl
  refine lv_iload hx hb d_Dv_splitLong_52 (lv_at hl 1 rfl) ?_
  refine lv_istore (lv' := [(9, .int (nI (m9 - n))), (7, .long (lN sc)), (6, .int (nI (m9 - n))), (5, .int (nI n)), (0, .ref (ad)), (1, .ref (o j)), (2, .ref (o k)), (3, .ref (o qa)), (4, .ref (o qb))]) hx hb d_Dv_splitLong_54 hl (by decide) rfl (fun ls hl => ?_)
  have hl : lv_has ls 10 [(9, .int (mI (m9 - n + 1))), (7, .long (lN sc)), (6, .int (nI (m9 - n))), (5, .int (nI n)), (0, .ref (ad)), (1, .ref (o j)), (2, .ref (o k)), (3, .ref (o qa)), (4, .ref (o qb))] := by rw [mI_s]; exact hl
  have hR0 : nvb nB u1 (m9 - n + 1 + n) < nvb nB w1 n * nB ^ (m9 - n + 1) := by
    rw [show m9 - n + 1 + n = m9 + 1 by omega, hu2, hVe]
    have e1 : x j < nB ^ m9 := by rw [hm]; exact (hO j hj).2.lt
    have e2 : nB ^ (n - 1) ≤ x k := by rw [hn]; exact (hO k hk).2.ge (by omega)
    have e3 : x j * sc < nB ^ m9 * sc := Nat.mul_lt_mul_of_pos_right e1 (by omega)
    have e4 : nB ^ m9 = nB ^ (n - 1) * nB ^ (m9 - n + 1) := by rw [← Nat.pow_add]; congr 1; omega
    have e5 := Nat.mul_le_mul_right (nB ^ (m9 - n + 1) * sc) e2
    have e6 : nB ^ m9 * sc = nB ^ (n - 1) * (nB ^ (m9 - n + 1) * sc) := by rw [e4]; grind
    have e7 : x k * sc * nB ^ (m9 - n + 1) = x k * (nB ^ (m9 - n + 1) * sc) := by grind
    omega
  exact loop (m9 - n + 1) (v qa).2 u1 _ _ _ _ (Nat.le_refl _) (hO qa hqa).2.1 hu1 hR0 (by rw [Nat.sub_self, nvb_zero, show m9 - n + 1 + n = m9 + 1 by omega, hu2]; omega) (fun z hz => by by_cases e9 : z = qa; (subst e9; rw [hw_up_eq]; exact hV z hz); (rw [hw_up_ne e9]; exact hV z hz)) hA hU hWb (fun q h1 h2 h3 => hF0 q h2 h3) hI hl
end
section
set_option maxHeartbeats 4000000 in
set_option maxRecDepth 100000 in
theorem c_Dv_split (l : Launch) (D : va_G) (t0 : Nat) (L : List Nat) (f : Nat → va_E) (sz : Nat) (o r : Nat → Nat) (N : Nat) (x : Nat → Nat) (ad al ab : Nat) (u w : Nat → Nat) (j k qa qb : Nat) (hY : Lay o r N) (hN : AllN D L f o r N x) (hA : hw_c L f ad (.inr (0, [.ref al, .ref ab]))) (hU : arrN D L f al 42 u) (hWb : arrN D L f ab 42 w) (hab : al ≠ ab) (hral : ∀ z, z < N → al ≠ r z) (hrab : ∀ z, z < N → ab ≠ r z) (hj : j < N) (hk : k < N) (hqa : qa < N) (hqb : qb < N) (hq2 : qa ≠ qb) (hk0 : 0 < x k) : Met l y_Dv_split (Cond.code y_Dv_split b_Dv_split 5 none :: TT) ({ frames := 8, cells := 0, slots := 0, locals := 168 } : Room) (hw_Pc t0 [.ref (ad), .ref (o j), .ref (o k), .ref (o qa), .ref (o qb)] D L f sz) (hw_Q D L sz (fun oc L' f' => oc = .returned none ∧ L = L' ∧ AllN D L f' o r N (va_up (va_up x qa (x j / x k)) qb (x j % x k)) ∧ (∃ u' w', arrN D L f' al 42 u' ∧ arrN D L f' ab 42 w') ∧ ∀ q, q ≠ o qa → q ≠ r qa → q ≠ o qb → q ≠ r qb → q ≠ al → q ≠ ab → f' q = f q)) 0 0 (hw_A L sz) := by
  refine Met.ofW (cc := b_Dv_split) (maxL := 5) (ret := none) (by decide) rfl ?_
  intro p e s m args below meth c s₁ B hml hv
  obtain ⟨rfl, rfl, hI⟩ := hw_start hv
  clear hv
  have hx := B.exec
  have hb := B.bytes
  have hr := B.returns
  have hlocks := B.notSynchronized
  have hown : s.vm.findClass "WallFractions$Divider" = some m.cls := findClass_of_methodNamed B.named
  have hT : ∀ w ∈ TT, w.before ([.ref (ad), .ref (o j), .ref (o k), .ref (o qa), .ref (o qb)]).toArray s = true := fun w h => atoms_spec (ws := (Cond.code y_Dv_split b_Dv_split 5 none :: TT)) B.pre w (List.mem_cons_of_mem _ h)
  have S : CallFix p m c b_Dv_split 5 s ([.ref (ad), .ref (o j), .ref (o k), .ref (o qa), .ref (o qb)]).toArray TT "WallFractions$Divider" := ⟨hx, hb, hml, hown, hT⟩
  have hl := lv_entry ([.ref (ad), .ref (o j), .ref (o k), .ref (o qa), .ref (o qb)]) (n := 5) (Nat.le_of_ble_eq_true rfl)
  rw [lg_entry_eq]
  generalize (lg_sl ([.ref (ad), .ref (o j), .ref (o k), .ref (o qa), .ref (o qb)]) ++ List.replicate (5 - (lg_sl ([.ref (ad), .ref (o j), .ref (o k), .ref (o qa), .ref (o qb)])).length) Slot.unset).toArray = ls at hl ⊢
  have hl : lv_has ls 5 [(0, .ref (ad)), (1, .ref (o j)), (2, .ref (o k)), (3, .ref (o qa)), (4, .ref (o qb))] := hl
  skip
  have hN0 := hN
  obtain ⟨v, hV, hO⟩ := hN
  have hnB : nB = 1000000000 := rfl
  have h41j := (hO j hj).1
  have h41k := (hO k hk).1
  have hVo : ∀ z, z < N → o z ≠ al := fun z hz => hV.ne hU hz
  have hVp : ∀ z, z < N → o z ≠ ab := fun z hz => hV.ne hWb hz
  refine lv_aload_n hx hb d_Dv_split_0 rfl (lv_at hl 2 rfl) ?_
  refine hw_cV (As := []) (rest := []) S hI m_Wh_isZero w_462 (c_Wh_isZero l D t0 L _ _ o r N x k hk hY hN0) (hV _ hk).1 rfl hl.1 rfl rfl (Nat.le_of_ble_eq_true rfl) d_Dv_split_1 ⟨Nat.le_of_ble_eq_true rfl, Nat.le_of_ble_eq_true rfl⟩ ⟨Nat.le_of_ble_eq_true rfl, Nat.le_of_ble_eq_true rfl⟩ (fun v9 L9 f8 H locs hp hI => ?_)
  refine W.cs (cells' := 0) (slots' := 0) rfl rfl ?_
  obtain ⟨hv9, rfl, rfl⟩ := hp
  cases hv9
  refine hw_stk (st' := [.int (if x k = 0 then nI 1 else nI 0)]) rfl ?_
  refine hw_ti (show _ = nI 0 from if_neg (by omega)) ?_
  refine hw_if_eq (tgt := 17) hx hb d_Dv_split_4 (by decide) (by omega) (fun c9 => ?_) (fun c9 => ?_)
  · refine lv_aload_n hx hb d_Dv_split_17 rfl (lv_at hl 1 rfl) ?_
    refine wh_sizeN S hI hV hj (by decide) d_Dv_split_18 ?_
    refine lv_aload_n hx hb d_Dv_split_21 rfl (lv_at hl 2 rfl) ?_
    refine wh_sizeN S hI hV hk (by decide) d_Dv_split_22 ?_
    refine hw_icmp_ge (tgt := 42) hx hb d_Dv_split_25 (by decide) (by omega) (by omega) (fun c10 => ?_) (fun c10 => ?_)
    · refine lv_aload_n hx hb d_Dv_split_42 rfl (lv_at hl 2 rfl) ?_
      refine wh_sizeN S hI hV hk (by decide) d_Dv_split_43 ?_
      refine lv_iconst (v := nI 1) hx hb d_Dv_split_46 (by decide) ?_
      refine hw_icmp_ne (tgt := 69) hx hb d_Dv_split_47 (by decide) (by omega) (by omega) (fun c13 => ?_) (fun c13 => ?_)
      · have hz := (hO k hk).2.zero nB_pos
        have hk2 : nB ≤ x k := by have h9 := (hO k hk).2.ge (by omega); have h8 : nB ^ 1 ≤ nB ^ ((v k).1 - 1) := Nat.pow_le_pow_right nB_pos (by omega); rw [Nat.pow_one] at h8; omega
        have hjk : ∀ z, x j < nB ^ z → x k < nB ^ z := fun z h9 => ((hO k hk).2.size_le nB1).mp (Nat.le_trans c10 (((hO j hj).2.size_le nB1).mpr h9))
        refine lv_aload_n hx hb d_Dv_split_69 rfl (lv_at hl 0 rfl) ?_
        refine lv_aload_n hx hb d_Dv_split_70 rfl (lv_at hl 1 rfl) ?_
        refine lv_aload_n hx hb d_Dv_split_71 rfl (lv_at hl 2 rfl) ?_
        refine lv_aload_n hx hb d_Dv_split_72 rfl (lv_at hl 3 rfl) ?_
        refine lv_aload hx hb d_Dv_split_73 (lv_at hl 4 rfl) ?_
        refine hw_cV (As := [.ref (o j), .ref (o k), .ref (o qa), .ref (o qb)]) (rest := []) S hI m_Dv_splitLong w_472 (c_Dv_splitLong l D t0 L _ _ o r N x ad al ab u w j k qa qb hY hN0 hA hU hWb hab hral hrab hj hk hqa hqb hq2 hk2 hjk) hA rfl hl.1 rfl rfl (Nat.le_of_ble_eq_true rfl) d_Dv_split_75 ⟨Nat.le_of_ble_eq_true rfl, Nat.le_of_ble_eq_true rfl⟩ ⟨Nat.le_of_ble_eq_true rfl, Nat.le_of_ble_eq_true rfl⟩ (fun v9 L9 f16 H locs hp hI => ?_)
        refine W.cs (cells' := 0) (slots' := 0) rfl rfl ?_
        obtain ⟨hv9, rfl, hN2, hUW, hf2⟩ := hp
        cases hv9
        refine hw_stk (st' := []) rfl ?_
        exact hw_vret hx hb hr hlocks hI d_Dv_split_78 ⟨rfl, rfl, hN2, hUW, hf2⟩
      · have hx1 : x k = (v k).2 0 := by have h9 := (hO k hk).2.2.2; rw [c13, nvb_succ, nvb_zero, Nat.pow_zero, Nat.mul_one, Nat.zero_add] at h9; exact h9.symm
        have hxB : x k < nB := by rw [hx1]; exact (hO k hk).2.1 0
        refine lv_aload hx hb d_Dv_split_50 (lv_at hl 4 rfl) ?_
        refine lv_aload_n hx hb d_Dv_split_52 rfl (lv_at hl 3 rfl) ?_
        refine lv_aload_n hx hb d_Dv_split_53 rfl (lv_at hl 1 rfl) ?_
        refine lv_aload_n hx hb d_Dv_split_54 rfl (lv_at hl 2 rfl) ?_
        refine wh_limbsN S hI hV hk (by decide) d_Dv_split_55 ?_
        refine lv_iconst (v := nI 0) hx hb d_Dv_split_58 (by decide) ?_
        refine wh_ld S hI hV hk (by omega) d_Dv_split_59 ?_
        refine hw_tl (show _ = lN (x k) from by rw [hx1]) ?_
        refine hw_cV (As := [.ref (o j), .long (lN (x k))]) (rest := [.ref (o qb)]) S hI m_Wh_becomeQuotient w_468 (c_Wh_becomeQuotient l D t0 L _ _ o r N x qa j (x k) hqa hY hN0 hj hk0 (by omega)) (hV _ hqa).1 rfl hl.1 rfl rfl (Nat.le_of_ble_eq_true rfl) d_Dv_split_60 ⟨Nat.le_of_ble_eq_true rfl, Nat.le_of_ble_eq_true rfl⟩ ⟨Nat.le_of_ble_eq_true rfl, Nat.le_of_ble_eq_true rfl⟩ (fun v9 L9 f14 H locs hp hI => ?_)
        refine W.cs (cells' := 0) (slots' := 0) rfl rfl ?_
        obtain ⟨hv9, rfl, hN1, hf1⟩ := hp
        cases hv9
        refine hw_stk (st' := [.long (lN (x j % x k)), .ref (o qb)]) rfl ?_
        have hU : arrN D L f14 al 42 u := hU.fr (hf1 _ (fun e9 => hVo qa hqa e9.symm) (hral qa hqa))
        have hWb : arrN D L f14 ab 42 w := hWb.fr (hf1 _ (fun e9 => hVp qa hqa e9.symm) (hrab qa hqa))
        obtain ⟨v1, hV, hO1⟩ := id hN1
        have hml9 := Nat.mod_lt (x j) hk0
        refine hw_cV (As := [.long (lN (x j % x k))]) (rest := []) S hI m_Wh_become w_467 (c_Wh_become l D t0 L _ _ o r N _ qb (x j % x k) hqb hY hN1 (by omega)) (hV _ hqb).1 rfl hl.1 rfl rfl (Nat.le_of_ble_eq_true rfl) d_Dv_split_63 ⟨Nat.le_of_ble_eq_true rfl, Nat.le_of_ble_eq_true rfl⟩ ⟨Nat.le_of_ble_eq_true rfl, Nat.le_of_ble_eq_true rfl⟩ (fun v9 L9 f15 H locs hp hI => ?_)
        refine W.cs (cells' := 0) (slots' := 0) rfl rfl ?_
        obtain ⟨hv9, rfl, hN2, hf2⟩ := hp
        cases hv9
        refine hw_stk (st' := []) rfl ?_
        have hU : arrN D L f15 al 42 u := hU.fr (hf2 _ (fun e9 => hVo qb hqb e9.symm) (hral qb hqb))
        have hWb : arrN D L f15 ab 42 w := hWb.fr (hf2 _ (fun e9 => hVp qb hqb e9.symm) (hrab qb hqb))
        refine lv_goto (tgt := 78) hx hb d_Dv_split_66 (by decide) ?_
        exact hw_vret hx hb hr hlocks hI d_Dv_split_78 ⟨rfl, rfl, hN2, ⟨u, w, hU, hWb⟩, fun q h1 h2 h3 h4 h5 h6 => (hf2 q h3 h4).trans (hf1 q h1 h2)⟩
    · refine lv_aload hx hb d_Dv_split_28 (lv_at hl 4 rfl) ?_
      refine lv_aload_n hx hb d_Dv_split_30 rfl (lv_at hl 1 rfl) ?_
      refine hw_cV (As := [.ref (o j)]) (rest := []) S hI m_Wh_copyFrom w_466 (c_Wh_copyFrom l D t0 L _ _ o r N x qb j hqb hY hN0 hj) (hV _ hqb).1 rfl hl.1 rfl rfl (Nat.le_of_ble_eq_true rfl) d_Dv_split_31 ⟨Nat.le_of_ble_eq_true rfl, Nat.le_of_ble_eq_true rfl⟩ ⟨Nat.le_of_ble_eq_true rfl, Nat.le_of_ble_eq_true rfl⟩ (fun v9 L9 f11 H locs hp hI => ?_)
      refine W.cs (cells' := 0) (slots' := 0) rfl rfl ?_
      obtain ⟨hv9, rfl, hN1, hf1⟩ := hp
      cases hv9
      refine hw_stk (st' := []) rfl ?_
      have hU : arrN D L f11 al 42 u := hU.fr (hf1 _ (fun e9 => hVo qb hqb e9.symm) (hral qb hqb))
      have hWb : arrN D L f11 ab 42 w := hWb.fr (hf1 _ (fun e9 => hVp qb hqb e9.symm) (hrab qb hqb))
      obtain ⟨v1, hV, hO1⟩ := id hN1
      refine lv_aload_n hx hb d_Dv_split_34 rfl (lv_at hl 3 rfl) ?_
      refine lv_lconst (v := lN 0) hx hb d_Dv_split_35 rfl ?_
      refine hw_cV (As := [.long (lN 0)]) (rest := []) S hI m_Wh_become w_467 (c_Wh_become l D t0 L _ _ o r N _ qa 0 hqa hY hN1 (by decide)) (hV _ hqa).1 rfl hl.1 rfl rfl (Nat.le_of_ble_eq_true rfl) d_Dv_split_36 ⟨Nat.le_of_ble_eq_true rfl, Nat.le_of_ble_eq_true rfl⟩ ⟨Nat.le_of_ble_eq_true rfl, Nat.le_of_ble_eq_true rfl⟩ (fun v9 L9 f12 H locs hp hI => ?_)
      refine W.cs (cells' := 0) (slots' := 0) rfl rfl ?_
      obtain ⟨hv9, rfl, hN2, hf2⟩ := hp
      cases hv9
      refine hw_stk (st' := []) rfl ?_
      have hU : arrN D L f12 al 42 u := hU.fr (hf2 _ (fun e9 => hVo qa hqa e9.symm) (hral qa hqa))
      have hWb : arrN D L f12 ab 42 w := hWb.fr (hf2 _ (fun e9 => hVp qa hqa e9.symm) (hrab qa hqa))
      have hlt : x j < x k := nOk_size_lt (hO j hj).2 (hO k hk).2 c10
      rw [up_comm (fun e9 => hq2 e9.symm)] at hN2
      refine lv_goto (tgt := 78) hx hb d_Dv_split_39 (by decide) ?_
      exact hw_vret hx hb hr hlocks hI d_Dv_split_78 ⟨rfl, rfl, by rw [Nat.div_eq_of_lt hlt, Nat.mod_eq_of_lt hlt]; exact hN2, ⟨u, w, hU, hWb⟩, fun q h1 h2 h3 h4 h5 h6 => (hf2 q h1 h2).trans (hf1 q h3 h4)⟩
  · exact absurd rfl c9
end
section
/-! the greatest common measure: facts -/
theorem gcd_step {P Q t : Nat} (h1 : t * Q ≤ P) (h2 : P < (t + 1) * Q) : Nat.gcd Q (P - t * Q) = Nat.gcd P Q := by
  have hQ : 0 < Q := by
    rcases Nat.eq_zero_or_pos Q with h | h
    · rw [h, Nat.mul_zero] at h2; omega
    · exact h
  have e1 : P % Q = P - t * Q := by
    rw [Nat.add_mul, Nat.one_mul] at h2
    have e2 : P = Q * t + (P - t * Q) := by rw [Nat.mul_comm]; omega
    conv => lhs; rw [e2]
    rw [Nat.mul_add_mod, Nat.mod_eq_of_lt (by omega)]
  rw [← e1, Nat.gcd_comm P Q, Nat.gcd_rec Q P, Nat.gcd_comm]
theorem half_step {P Q t : Nat} (h1 : t * Q ≤ P) (h2 : P < (t + 1) * Q) (hQP : Q ≤ P) : 2 * (Q * (P - t * Q)) ≤ P * Q := by
  have hQ : 0 < Q := by
    rcases Nat.eq_zero_or_pos Q with h | h
    · rw [h, Nat.mul_zero] at h2; omega
    · exact h
  have ht : 1 ≤ t := by
    rcases Nat.eq_zero_or_pos t with h | h
    · rw [h, Nat.zero_add, Nat.one_mul] at h2; omega
    · exact h
  have e1 : 1 * Q ≤ t * Q := Nat.mul_le_mul_right _ ht
  rw [Nat.add_mul, Nat.one_mul] at h2
  have e2 : 2 * (P - t * Q) ≤ P := by omega
  have e3 : Q * (2 * (P - t * Q)) ≤ Q * P := Nat.mul_le_mul_left _ e2
  have e4 : 2 * (Q * (P - t * Q)) = Q * (2 * (P - t * Q)) := by grind
  rw [Nat.mul_comm P Q]
  omega
theorem pow_lt_of {i C k : Nat} (h : 2 ^ i ≤ C) (hC : C < 2 ^ k) : i < k := by
  rcases Nat.lt_or_ge i k with q | q
  · exact q
  · have : 2 ^ k ≤ 2 ^ i := Nat.pow_le_pow_right (by decide) q
    omega
/-! leading digits -/
theorem lead_num {x s T l2 l1 l0 : Nat} (hs : 3 ≤ s) (hT : T ≤ 9) (hx : x < nB ^ s) (h2 : l2 = x / nB ^ (s - 1) % nB) (h1 : l1 = x / nB ^ (s - 2) % nB) (h0 : l0 = x / nB ^ (s - 3) % nB) : (l2 * nB + l1) * (nB / 10 ^ T) + l0 / 10 ^ T = x / (10 ^ T * nB ^ (s - 3)) := by
  obtain ⟨k, rfl⟩ : ∃ k, s = k + 3 := ⟨s - 3, by omega⟩
  simp only [show k + 3 - 1 = k + 2 by omega, show k + 3 - 2 = k + 1 by omega, show k + 3 - 3 = k by omega] at *
  have e1 : nB = 10 ^ T * 10 ^ (9 - T) := by rw [nB10, ← Nat.pow_add]; congr 1; omega
  have e2 : nB / 10 ^ T = 10 ^ (9 - T) := by
    conv => lhs; rw [e1]
    rw [Nat.mul_div_cancel_left _ (Nat.pow_pos (by decide))]
  obtain ⟨z, hz⟩ : ∃ z, z = x / nB ^ k := ⟨_, rfl⟩
  have e3 : x / nB ^ (k + 1) = z / nB := by rw [hz, Nat.div_div_eq_div_mul, Nat.pow_succ]
  have e4 : x / nB ^ (k + 2) = z / nB / nB := by rw [hz, Nat.div_div_eq_div_mul, Nat.div_div_eq_div_mul, Nat.pow_succ, Nat.pow_succ, Nat.mul_assoc]
  have e5 : z / nB / nB < nB := by
    rw [← e4]
    refine (Nat.div_lt_iff_lt_mul (Nat.pow_pos nB_pos)).mpr ?_
    rw [show nB * nB ^ (k + 2) = nB ^ (k + 3) by rw [Nat.pow_succ nB (k + 2), Nat.mul_comm]]
    exact hx
  rw [e4, Nat.mod_eq_of_lt e5] at h2
  rw [e3] at h1
  rw [← hz] at h0
  have e6 : l2 * nB + l1 = z / nB := by
    rw [h2, h1, Nat.mul_comm]
    exact Nat.div_add_mod _ _
  have e7 : z = (l2 * nB + l1) * nB + l0 := by rw [e6, h0, Nat.mul_comm]; exact (Nat.div_add_mod _ _).symm
  have e8 : x / (10 ^ T * nB ^ k) = z / 10 ^ T := by rw [hz, Nat.div_div_eq_div_mul, Nat.mul_comm]
  rw [e8, e2, e7]
  have e9 : (l2 * nB + l1) * nB = 10 ^ T * ((l2 * nB + l1) * 10 ^ (9 - T)) := by
    conv => lhs; rw [show (l2 * nB + l1) * nB = (l2 * nB + l1) * (10 ^ T * 10 ^ (9 - T)) by rw [← e1]]
    generalize l2 * nB + l1 = y
    grind
  rw [e9, Nat.mul_add_div (Nat.pow_pos (by decide))]
/-! Lehmer's steps -/
def Lm (X Y : Nat) (a b c d : Int) : Prop := ∃ P Q : Nat, (P : Int) = a * X + b * Y ∧ (Q : Int) = c * X + d * Y ∧ Q < P ∧ Nat.gcd P Q = Nat.gcd X Y ∧ 2 * (P * Q) ≤ X * Y ∧ P ≤ X
def le_b (a b c d : Int) : Prop := -(nB : Int) ≤ a ∧ a ≤ nB ∧ -(nB : Int) ≤ b ∧ b ≤ nB ∧ -(nB : Int) ≤ c ∧ c ≤ nB ∧ -(nB : Int) ≤ d ∧ d ≤ nB
/-- where the steps stand -/
def le_at (X Y U : Nat) (a b c d x y : Int) : Prop := le_sg a b c d ∧ le_b a b c d ∧ x = a * ((X / U : Nat) : Int) + b * ((Y / U : Nat) : Int) ∧ y = c * ((X / U : Nat) : Int) + d * ((Y / U : Nat) : Int) ∧ 0 ≤ x + a ∧ 0 ≤ x + b ∧ ∃ P Q : Nat, (P : Int) = a * X + b * Y ∧ (Q : Int) = c * X + d * Y ∧ Q ≤ P ∧ P ≤ X ∧ Nat.gcd P Q = Nat.gcd X Y ∧ (b = 0 ∧ P * Q ≤ X * Y ∨ Q < P ∧ 2 * (P * Q) ≤ X * Y)
theorem le_start {X Y U : Nat} (hYX : Y ≤ X) : le_at X Y U 1 0 0 1 ((X / U : Nat) : Int) ((Y / U : Nat) : Int) := by
  have hnB : nB = 1000000000 := rfl
  have e1 : (0 : Int) ≤ ((X / U : Nat) : Int) := Int.natCast_nonneg _
  refine ⟨Or.inl ⟨by omega, by omega, by omega, by omega⟩, ⟨by omega, by omega, by omega, by omega, by omega, by omega, by omega, by omega⟩, ?_, ?_, ?_, ?_, X, Y, by omega, by omega, hYX, Nat.le_refl _, rfl, Or.inl ⟨rfl, Nat.le_refl _⟩⟩
  all_goals generalize ((X / U : Nat) : Int) = p at *
  all_goals generalize ((Y / U : Nat) : Int) = q at *
  all_goals omega
theorem le_at.enc {X Y U : Nat} {a b c d x y : Int} (hU : 0 < U) (h : le_at X Y U a b c d x y) : ∃ P Q : Nat, (P : Int) = a * X + b * Y ∧ (Q : Int) = c * X + d * Y ∧
    (((0 ≤ a ∧ b ≤ 0 ∧ c ≤ 0 ∧ 0 ≤ d) ∧ (U : Int) * (x + b) ≤ P ∧ (P : Int) ≤ U * (x + a) ∧ (U : Int) * (y + c) ≤ Q ∧ (Q : Int) ≤ U * (y + d)) ∨ ((a ≤ 0 ∧ 0 ≤ b ∧ 0 ≤ c ∧ d ≤ 0) ∧ (U : Int) * (x + a) ≤ P ∧ (P : Int) ≤ U * (x + b) ∧ (U : Int) * (y + d) ≤ Q ∧ (Q : Int) ≤ U * (y + c))) := by
  obtain ⟨hs, -, hx, hy, -, -, P, Q, hP, hQ, -⟩ := h
  have key : ∀ Z : Nat, (U : Int) * ((Z / U : Nat) : Int) ≤ (Z : Int) ∧ (Z : Int) ≤ (U : Int) * ((Z / U : Nat) : Int) + U := by
    intro Z
    have h1 := Nat.div_add_mod Z U
    have h2 := Nat.mod_lt Z hU
    have h3 : (U : Int) * ((Z / U : Nat) : Int) = ((U * (Z / U) : Nat) : Int) := by push_cast; rfl
    rw [h3]
    omega
  refine ⟨P, Q, hP, hQ, ?_⟩
  rw [hP, hQ, hx, hy]
  rcases hs with h | h
  · have e1 := (le_enc (U := (U : Int)) (by omega) (key X) (key Y) (a := a) (b := b) (Or.inl ⟨h.1, h.2.1⟩)).1 ⟨h.1, h.2.1⟩
    have e2 := (le_enc (U := (U : Int)) (by omega) (key X) (key Y) (a := c) (b := d) (Or.inr ⟨h.2.2.1, h.2.2.2⟩)).2 ⟨h.2.2.1, h.2.2.2⟩
    exact Or.inl ⟨h, e1.1, e1.2, e2.1, e2.2⟩
  · have e1 := (le_enc (U := (U : Int)) (by omega) (key X) (key Y) (a := a) (b := b) (Or.inr ⟨h.1, h.2.1⟩)).2 ⟨h.1, h.2.1⟩
    have e2 := (le_enc (U := (U : Int)) (by omega) (key X) (key Y) (a := c) (b := d) (Or.inl ⟨h.2.2.1, h.2.2.2⟩)).1 ⟨h.2.2.1, h.2.2.2⟩
    exact Or.inr ⟨h, e1.1, e1.2, e2.1, e2.2⟩
theorem le_at.rng {X Y U : Nat} {a b c d x y : Int} (hU : 0 < U) (hX : X / U < 1000000000000000000) (h : le_at X Y U a b c d x y) : -1000000000 ≤ x ∧ x ≤ 1000000001000000000 ∧ -1000000000 ≤ y ∧ y ≤ 1000000001000000000 := by
  obtain ⟨P, Q, hP, hQ, he⟩ := h.enc hU
  obtain ⟨-, hb, -, -, h1, h2, P2, Q2, hP2, hQ2, hQP, hPX, -⟩ := h
  have hnB : nB = 1000000000 := rfl
  obtain ⟨b1, b2, b3, b4, b5, b6, b7, b8⟩ := hb
  rw [hnB] at b1 b2 b3 b4 b5 b6 b7 b8
  have eP : P = P2 := by omega
  have eQ : Q = Q2 := by omega
  subst eP; subst eQ
  have key : ∀ z : Int, (U : Int) * z ≤ (X : Int) → z ≤ 999999999999999999 := by
    intro z hz
    rcases Int.lt_or_le z 0 with q | q
    · omega
    · obtain ⟨n, rfl⟩ := Int.eq_ofNat_of_zero_le q
      have e1 : U * n ≤ X := by
        have : ((U * n : Nat) : Int) ≤ (X : Int) := by push_cast; exact hz
        omega
      have e2 : n ≤ X / U := (Nat.le_div_iff_mul_le hU).mpr (by rw [Nat.mul_comm]; exact e1)
      omega
  have key2 : ∀ (z : Int) (K : Nat), (K : Int) ≤ (U : Int) * z → 0 ≤ z := by
    intro z K hz
    rcases Int.lt_or_le z 0 with q | q
    · have e1 : (U : Int) * z ≤ (U : Int) * (-1) := Int.mul_le_mul_of_nonneg_left (by omega) (by omega)
      omega
    · exact q
  rcases he with ⟨hs, e1, e2, e3, e4⟩ | ⟨hs, e1, e2, e3, e4⟩
  · have k1 := key _ (Int.le_trans e1 (by omega))
    have k2 := key _ (Int.le_trans e3 (by omega))
    have k3 := key2 _ _ e4
    omega
  · have k1 := key _ (Int.le_trans e1 (by omega))
    have k2 := key _ (Int.le_trans e3 (by omega))
    have k3 := key2 _ _ e4
    omega
theorem le_at.fin {X Y U : Nat} {a b c d x y : Int} (h : le_at X Y U a b c d x y) : le_b a b c d ∧ (b = 0 ∨ Lm X Y a b c d) := by
  obtain ⟨-, hb, -, -, -, -, P, Q, hP, hQ, hQP, hPX, hg, hd⟩ := h
  refine ⟨hb, ?_⟩
  rcases hd with ⟨e, -⟩ | ⟨e1, e2⟩
  · exact Or.inl e
  · exact Or.inr ⟨P, Q, hP, hQ, e1, hg, e2, hPX⟩
theorem ediv_fact {p q t : Int} (hp : 0 ≤ p) (hq : 0 < q) (ht : t = p / q) : 0 ≤ t ∧ t ≤ p ∧ t * q ≤ p ∧ p < (t + 1) * q := by
  have e1 := Int.mul_ediv_add_emod p q
  have e2 := Int.emod_nonneg p (show q ≠ 0 by omega)
  have e3 := Int.emod_lt_of_pos p hq
  have e0 : 0 ≤ t := by rw [ht]; exact Int.ediv_nonneg hp (by omega)
  have e5 : t ≤ p := by rw [ht]; exact Int.ediv_le_self _ hp
  rw [← ht, Int.mul_comm] at e1
  refine ⟨e0, e5, by omega, ?_⟩
  rw [Int.add_mul, Int.one_mul]
  omega
theorem le_at.step {X Y U : Nat} {a b c d x y t : Int} (hU : 0 < U) (h : le_at X Y U a b c d x y) (h1 : 0 < y + c) (h2 : 0 < y + d) (ht1 : t = (x + a) / (y + c)) (ht2 : t = (x + b) / (y + d)) (hb1 : -(nB : Int) ≤ a - t * c) (hb2 : a - t * c ≤ nB) (hb3 : -(nB : Int) ≤ b - t * d) (hb4 : b - t * d ≤ nB) : le_at X Y U c d (a - t * c) (b - t * d) y (x - t * y) := by
  obtain ⟨P, Q, hP, hQ, he⟩ := h.enc hU
  obtain ⟨hs, hb, hx, hy, g1, g2, P2, Q2, hP2, hQ2, hQP, hPX, hg, hd⟩ := h
  have eP : P = P2 := by omega
  have eQ : Q = Q2 := by omega
  subst eP; subst eQ
  obtain ⟨f1, f2, f3, f4⟩ := ediv_fact g1 h1 ht1
  obtain ⟨-, f6, f7, f8⟩ := ediv_fact g2 h2 ht2
  have hq : t * (Q : Int) ≤ P ∧ (P : Int) < (t + 1) * Q := by
    rcases he with ⟨-, e1, e2, e3, e4⟩ | ⟨-, e1, e2, e3, e4⟩
    · exact le_quo (by omega) e1 e2 e3 e4 h1 f1 f7 f4
    · exact le_quo (by omega) e1 e2 e3 e4 h2 f1 f3 f8
  obtain ⟨n, rfl⟩ := Int.eq_ofNat_of_zero_le f1
  have q1 : n * Q ≤ P := by
    have : ((n * Q : Nat) : Int) ≤ (P : Int) := by push_cast; exact hq.1
    omega
  have q2 : P < (n + 1) * Q := by
    have : (P : Int) < (((n + 1) * Q : Nat) : Int) := by push_cast; exact hq.2
    omega
  have q3 : ((P - n * Q : Nat) : Int) = (P : Int) - n * Q := by rw [Int.ofNat_sub q1]; push_cast; rfl
  have hPQ : P * Q ≤ X * Y := by
    rcases hd with ⟨-, e⟩ | ⟨-, e⟩
    · exact e
    · omega
  have hlt : P - n * Q < Q := by rw [Nat.add_mul, Nat.one_mul] at q2; omega
  obtain ⟨b1, b2, b3, b4, b5, b6, b7, b8⟩ := hb
  refine ⟨?_, ⟨b5, b6, b7, b8, hb1, hb2, hb3, hb4⟩, hy, ?_, by omega, by omega, Q, P - n * Q, hQ, ?_, by omega, by omega, ?_, Or.inr ⟨hlt, Nat.le_trans (half_step q1 q2 hQP) hPQ⟩⟩
  · rcases hs with ⟨s1, s2, s3, s4⟩ | ⟨s1, s2, s3, s4⟩
    · have m1 : (n : Int) * c ≤ 0 := Int.mul_nonpos_of_nonneg_of_nonpos f1 s3
      have m2 : 0 ≤ (n : Int) * d := Int.mul_nonneg f1 s4
      exact Or.inr ⟨s3, s4, by omega, by omega⟩
    · have m1 : 0 ≤ (n : Int) * c := Int.mul_nonneg f1 s3
      have m2 : (n : Int) * d ≤ 0 := Int.mul_nonpos_of_nonneg_of_nonpos f1 s4
      exact Or.inl ⟨s3, s4, by omega, by omega⟩
  · rw [hx, hy]
    grind
  · rw [q3, hP, hQ]
    grind
  · rw [gcd_step q1 q2, hg]
/-! the long numbers catch up -/
theorem cu_step {b : Nat} {h xa ya : Nat → Nat} {t dg : Nat} {p q cr cr' : Int} (hS : (nvb b h t : Int) + cr * (b : Int) ^ t = p * (nvb b xa t : Int) + q * (nvb b ya t : Int)) (e : (dg : Int) + cr' * b = p * xa t + q * ya t + cr) : (nvb b (va_up h t dg) (t + 1) : Int) + cr' * (b : Int) ^ (t + 1) = p * (nvb b xa (t + 1) : Int) + q * (nvb b ya (t + 1) : Int) := by
  rw [nvb_upS, nvb_succ, nvb_succ]
  push_cast
  have e2 : ((dg : Int) + cr' * b) * (b : Int) ^ t = (p * xa t + q * ya t + cr) * (b : Int) ^ t := by rw [e]
  rw [Int.pow_succ]
  grind
theorem cu_rng {p q cr : Int} {x y : Nat} (hp : -(1000000000 : Int) ≤ p ∧ p ≤ 1000000000) (hq : -(1000000000 : Int) ≤ q ∧ q ≤ 1000000000) (hx : x < 1000000000) (hy : y < 1000000000) (hc : -(2000000000 : Int) ≤ cr ∧ cr ≤ 2000000000) :
    -(2000000000000000000 : Int) ≤ p * x + q * y + cr ∧ p * x + q * y + cr ≤ 2000000000000000000 ∧ -(2000000000 : Int) ≤ (p * x + q * y + cr) / 1000000000 ∧ (p * x + q * y + cr) / 1000000000 ≤ 2000000000 := by
  have key : ∀ (p : Int) (x : Nat), -(1000000000 : Int) ≤ p ∧ p ≤ 1000000000 → x < 1000000000 → -(999999999000000000 : Int) ≤ p * x ∧ p * x ≤ 999999999000000000 := by
    intro p x hp hx
    have e1 : p * (x : Int) ≤ 1000000000 * (x : Int) := Int.mul_le_mul_of_nonneg_right hp.2 (by omega)
    have e2 : -1000000000 * (x : Int) ≤ p * (x : Int) := Int.mul_le_mul_of_nonneg_right hp.1 (by omega)
    omega
  have k1 := key p x hp hx
  have k2 := key q y hq hy
  generalize p * (x : Int) = u at *
  generalize q * (y : Int) = w at *
  omega
theorem cu_end {n s P : Nat} {h : Nat → Nat} {cr : Int} (hh : ∀ q, h q < nB) (hS : (nvb nB h s : Int) + cr * (nB : Int) ^ s = (P : Int)) (hP : P < nB ^ s) : nvb nB h s = P := by
  have e1 : nvb nB h s < nB ^ s := nvb_lt (fun q _ => hh q)
  have e2 : ((nB ^ s : Nat) : Int) = (nB : Int) ^ s := by push_cast; rfl
  rw [← e2] at hS
  have e3 : cr = 0 := by
    rcases Int.lt_trichotomy cr 0 with q | q | q
    · have : cr * ((nB ^ s : Nat) : Int) ≤ (-1) * ((nB ^ s : Nat) : Int) := Int.mul_le_mul_of_nonneg_right (by omega) (by omega)
      omega
    · exact q
    · have : 1 * ((nB ^ s : Nat) : Int) ≤ cr * ((nB ^ s : Nat) : Int) := Int.mul_le_mul_of_nonneg_right (by omega) (by omega)
      omega
  rw [e3] at hS
  omega
theorem lead_rng {s T x : Nat} (hs : 3 ≤ s) (h : x < 10 ^ ((s - 1) * 9 + T)) : x / (10 ^ T * nB ^ (s - 3)) < 1000000000000000000 := by
  have e1 : 10 ^ ((s - 1) * 9 + T) = 1000000000000000000 * (10 ^ T * nB ^ (s - 3)) := by
    rw [nB10, ← Nat.pow_mul, show (s - 1) * 9 + T = 18 + (T + 9 * (s - 3)) by omega, Nat.pow_add, Nat.pow_add]
  exact (Nat.div_lt_iff_lt_mul (Nat.mul_pos (Nat.pow_pos (by decide)) (Nat.pow_pos nB_pos))).mpr (by rw [← e1]; exact h)
/-! Euclid's way on longs -/
def sh_at (C t p q : Nat) : Prop := t = 0 ∨ (q < p ∧ 2 ^ (t - 1) * (p * q) < C)
theorem sh_step {C t p q : Nat} (hq : 0 < q) (hC : p * q < C ∨ 0 < t) (h : sh_at C t p q) : sh_at C (t + 1) q (p % q) := by
  have h1 := Nat.mod_lt p hq
  have hd := Nat.div_add_mod p q
  refine Or.inr ⟨h1, ?_⟩
  rw [Nat.add_sub_cancel]
  rcases h with h | ⟨h2, h3⟩
  · subst h
    rw [Nat.pow_zero, Nat.one_mul]
    have e1 : q * (p % q) ≤ q * p := Nat.mul_le_mul_left _ (Nat.mod_le _ _)
    rw [Nat.mul_comm q p] at e1
    rcases hC with e | e <;> omega
  · rcases Nat.eq_zero_or_pos t with e0 | e0
    · subst e0
      rw [Nat.pow_zero, Nat.one_mul]
      have e1 : q * (p % q) ≤ q * p := Nat.mul_le_mul_left _ (Nat.mod_le _ _)
      rw [Nat.mul_comm q p] at e1
      simp only [Nat.zero_sub, Nat.pow_zero, Nat.one_mul] at h3
      omega
    · have e2 := half_step (P := p) (Q := q) (t := p / q) (by rw [Nat.mul_comm]; omega) (by rw [Nat.add_mul, Nat.one_mul, Nat.mul_comm]; omega) (by omega)
      have e3 : p - p / q * q = p % q := by rw [Nat.mul_comm]; omega
      rw [e3] at e2
      have e4 : 2 ^ t = 2 ^ (t - 1) * 2 := by rw [← Nat.pow_succ]; congr 1; omega
      rw [e4, Nat.mul_assoc]
      exact Nat.lt_of_le_of_lt (Nat.mul_le_mul_left _ e2) h3
theorem sh_end {k t p q : Nat} (hk : k < t) (h : sh_at (2 ^ k) t p q) : q = 0 := by
  rcases h with h | ⟨h1, h2⟩
  · omega
  · rcases Nat.eq_zero_or_pos q with e | e
    · exact e
    · exfalso
      have e1 : 2 ^ k ≤ 2 ^ (t - 1) := Nat.pow_le_pow_right (by decide) (by omega)
      have e2 : 2 ^ (t - 1) * 1 ≤ 2 ^ (t - 1) * (p * q) := Nat.mul_le_mul_left _ (Nat.mul_pos (by omega) e)
      omega
theorem cu_dig (S : Int) : ∃ d : Nat, d < nB ∧ (d : Int) = S - S / (nB : Int) * (nB : Int) := by
  have hnB : nB = 1000000000 := rfl
  have e1 := Int.mul_ediv_add_emod S (nB : Int)
  have e2 := Int.emod_nonneg S (show (nB : Int) ≠ 0 by omega)
  have e3 := Int.emod_lt_of_pos S (show (0 : Int) < nB by omega)
  rw [Int.mul_comm] at e1
  exact ⟨(S % (nB : Int)).toNat, by omega, by omega⟩
end
section
section HOb
variable {p : Program} {l : Launch} {e : Env} {R : Room} {s : State} {m : MethodId} {args : Array Value} {below : List Frame} {meth : Method} {c : Code} {H : Heap} {locs : List Loc} {cells slots : Nat} {Q : State → Prop}
variable {cc : ByteArray} {pc nL : Nat} {ls : Array Slot} {rest : List Value} {D : va_G} {t0 : Nat} {A : Nat → Prop} {L : List Nat} {f : Nat → va_E} {a : Nat} {own : String} {index : Nat}
/-- a field of an object is read (its own class) -/
theorem ob_get (S : CallFix p m c cc nL s args TT own) (hI : hw_I D t0 A s L f H locs) {ci : Nat} {fs : List Value} (he : hw_c L f a (.inr (ci, fs))) {ref C : String} {T : u_T} {N : Nat} (hc : classes[ci]? = some (C, T, N)) (hin : ∀ w ∈ u_ws C T N, w ∈ TT) (k : Nat) (hk : k < N) (hr : (T k).1 = ref) (hl : Cond.fieldLink own index ref (T k).2.1 (T k).2.2.1 ∈ TT) {v : Value} (hv : fs[k]? = some v) (hdg : decode cc pc = .ok (.getfield index, 3))
    (kk : W p l e R s m args below meth c H locs cells slots Q (F0 m (pc + 3) ls (v :: rest))) : W p l e R s m args below meth c H locs cells slots Q (F0 m pc ls (.ref a :: rest)) :=
  hw_get S.1 S.2.1 S.2.2.2.2 hin S.2.2.2.1 hI he hc k hk (S.2.2.2.2 _ hl) (fun _ h => hr ▸ h) hv hdg kk
theorem ob_getN (S : CallFix p m c cc nL s args TT own) (hI : hw_I D t0 A s L f H locs) {ci : Nat} {fs : List Value} (he : hw_c L f a (.inr (ci, fs))) {ref C : String} {T : u_T} {N : Nat} (hc : classes[ci]? = some (C, T, N)) (hin : ∀ w ∈ u_ws C T N, w ∈ TT) (k : Nat) (hk : k < N) (hr : (T k).1 = ref) (hl : (own, index, ref, (T k).2.1, (T k).2.2.1) ∈ NF) {v : Value} (hv : fs[k]? = some v) (hdg : decode cc pc = .ok (.getfield index, 3))
    (kk : W p l e R s m args below meth c H locs cells slots Q (F0 m (pc + 3) ls (v :: rest))) : W p l e R s m args below meth c H locs cells slots Q (F0 m pc ls (.ref a :: rest)) :=
  hw_getN (host := "WallFractions") S.1 S.2.1 S.2.2.2.2 hin S.2.2.2.1 hI he hc k hk (va_Nw.use rfl (hI.2.2.2.2.2.1 _ hl)) (fun _ h => hr ▸ h) hv hdg kk
/-- a field of an object is written -/
theorem ob_put (S : CallFix p m c cc nL s args TT own) (hI : hw_I D t0 A s L f H locs) {ci : Nat} {fs fs' : List Value} (he : hw_c L f a (.inr (ci, fs))) {ref C : String} {T : u_T} {N : Nat} (hc : classes[ci]? = some (C, T, N)) (hin : ∀ w ∈ u_ws C T N, w ∈ TT) (ty0 : Nat → FieldType) (hty : ∀ k, k < N → parseFieldDescriptor (T k).2.2.1 = some (ty0 k)) (hnm : ∀ a, a < N → ∀ b, b < N → a ≠ b → (T a).2.1 ≠ (T b).2.1) (k : Nat) (hk : k < N) (hr : (T k).1 = ref) (hl : Cond.fieldLink own index ref (T k).2.1 (T k).2.2.1 ∈ TT) (hfin : (T k).2.2.2 = false) {v : Value} (hn : narrow (ty0 k) v = v) (hfit : fits (ty0 k) v = true) (hlen : k < fs.length) (hset : fs.set k v = fs') (hdg : decode cc pc = .ok (.putfield index, 3))
    (kk : ∀ (f' : Nat → va_E) (H' : Heap) (locs' : List Loc), hw_I D t0 A s L f' H' locs' → hw_c L f' a (.inr (ci, fs')) → (∀ q, q ≠ a → f' q = f q) → W p l e R s m args below meth c H' locs' cells slots Q (F0 m (pc + 3) ls rest)) : W p l e R s m args below meth c H locs cells slots Q (F0 m pc ls (v :: .ref a :: rest)) :=
  hw_put S.1 S.2.1 S.2.2.2.2 hin ty0 hty hnm S.2.2.2.1 hI he hc k hk (S.2.2.2.2 _ hl) (fun _ h => hr ▸ h) hfin (hty k hk) hn hfit hlen hdg (fun H1 locs1 h => kk _ H1 locs1 h (by rw [← hset]; exact he.self) (fun q hq => hw_up_ne hq))
theorem ob_putN (S : CallFix p m c cc nL s args TT own) (hI : hw_I D t0 A s L f H locs) {ci : Nat} {fs fs' : List Value} (he : hw_c L f a (.inr (ci, fs))) {ref C : String} {T : u_T} {N : Nat} (hc : classes[ci]? = some (C, T, N)) (hin : ∀ w ∈ u_ws C T N, w ∈ TT) (ty0 : Nat → FieldType) (hty : ∀ k, k < N → parseFieldDescriptor (T k).2.2.1 = some (ty0 k)) (hnm : ∀ a, a < N → ∀ b, b < N → a ≠ b → (T a).2.1 ≠ (T b).2.1) (k : Nat) (hk : k < N) (hr : (T k).1 = ref) (hl : (own, index, ref, (T k).2.1, (T k).2.2.1) ∈ NF) (hfin : (T k).2.2.2 = false) {v : Value} (hn : narrow (ty0 k) v = v) (hfit : fits (ty0 k) v = true) (hlen : k < fs.length) (hset : fs.set k v = fs') (hdg : decode cc pc = .ok (.putfield index, 3))
    (kk : ∀ (f' : Nat → va_E) (H' : Heap) (locs' : List Loc), hw_I D t0 A s L f' H' locs' → hw_c L f' a (.inr (ci, fs')) → (∀ q, q ≠ a → f' q = f q) → W p l e R s m args below meth c H' locs' cells slots Q (F0 m (pc + 3) ls rest)) : W p l e R s m args below meth c H locs cells slots Q (F0 m pc ls (v :: .ref a :: rest)) :=
  hw_putN (host := "WallFractions") S.1 S.2.1 S.2.2.2.2 hin ty0 hty hnm S.2.2.2.1 hI he hc k hk (va_Nw.use rfl (hI.2.2.2.2.2.1 _ hl)) (fun _ h => hr ▸ h) hfin (hty k hk) hn hfit hlen hdg (fun H1 locs1 h => kk _ H1 locs1 h (by rw [← hset]; exact he.self) (fun q hq => hw_up_ne hq))
variable {L0 : List Nat} {sz : Nat} {post : Outcome → List Nat → (Nat → va_E) → Prop}
theorem hw_aret {a : Nat} {n9 : String} (hx : p.tables.exec = Jvm.exec) (hb : c.code = cc) (hr : meth.sig.returnType = some (.object n9)) (hlocks : meth.locks = false) (hI : hw_I D t0 (hw_A L0 sz) s L f H locs) (hdg : decode cc pc = .ok (.areturn, 1)) (hp : post (.returned (some (.ref a))) L f) : W p l e R s m args below meth c H locs cells slots (MQ below (hw_Q D L0 sz post) args s cells slots (hw_A L0 sz)) (F0 m pc ls [.ref a]) := W.aret hx hb hr (Or.inl ⟨_, rfl⟩) (Or.inr ⟨_, rfl⟩) (hw_q hI hp) hI.2.2.1.2.2 hdg hlocks
end HOb
/-- two places that hold two things are two -/
theorem hw_c.ne {L : List Nat} {f : Nat → va_E} {a b : Nat} {e e' : va_E} (h : hw_c L f a e) (k : hw_c L f b e') (hn : e ≠ e') : a ≠ b := fun q => by
  subst q
  exact hn (h.2.symm.trans k.2)
end
section
set_option maxHeartbeats 4000000 in
set_option maxRecDepth 100000 in
theorem c_Ms_ofShort (l : Launch) (D : va_G) (t0 : Nat) (L : List Nat) (f : Nat → va_E) (sz : Nat) (a b : Nat) (ha : a < 2 ^ 63) (hb0 : b < 2 ^ 63) : Met l y_Ms_ofShort (Cond.code y_Ms_ofShort b_Ms_ofShort 11 (some .long) :: TT) ({ frames := 0, cells := 0, slots := 0, locals := 0 } : Room) (hw_Pc t0 [.long (lN a), .long (lN b)] D L f sz) (hw_Q D L sz (fun oc L' f' => oc = .returned (some (.long (lN (Nat.gcd a b)))) ∧ L = L' ∧ f = f')) 0 0 (hw_A L sz) := by
  refine Met.ofW (cc := b_Ms_ofShort) (maxL := 11) (ret := (some .long)) (by decide) rfl ?_
  intro p e s m args below meth c s₁ B hml hv
  obtain ⟨rfl, rfl, hI⟩ := hw_start hv
  clear hv
  have hx := B.exec
  have hb := B.bytes
  have hr := B.returns
  have hlocks := B.notSynchronized
  have hown : s.vm.findClass "WallFractions$Measure" = some m.cls := findClass_of_methodNamed B.named
  have hT : ∀ w ∈ TT, w.before ([.long (lN a), .long (lN b)]).toArray s = true := fun w h => atoms_spec (ws := (Cond.code y_Ms_ofShort b_Ms_ofShort 11 (some .long) :: TT)) B.pre w (List.mem_cons_of_mem _ h)
  have S : CallFix p m c b_Ms_ofShort 11 s ([.long (lN a), .long (lN b)]).toArray TT "WallFractions$Measure" := ⟨hx, hb, hml, hown, hT⟩
  have hl := lv_entry ([.long (lN a), .long (lN b)]) (n := 11) (Nat.le_of_ble_eq_true rfl)
  rw [lg_entry_eq]
  generalize (lg_sl ([.long (lN a), .long (lN b)]) ++ List.replicate (11 - (lg_sl ([.long (lN a), .long (lN b)])).length) Slot.unset).toArray = ls at hl ⊢
  have hl : lv_has ls 11 [(0, .long (lN a)), (2, .long (lN b))] := hl
  skip
  have hC : a * b < 2 ^ 127 := Nat.lt_of_le_of_lt (Nat.mul_le_mul (Nat.le_of_lt ha) (Nat.le_of_lt hb0)) (by decide)
  have loop : ∀ (g t u q : Nat) (f1 : Nat → va_E) (H : Heap) (locs : List Loc) (ls : Array Slot), t + g = 100000 → u < 2 ^ 63 → q < 2 ^ 63 → Nat.gcd u q = Nat.gcd a b → (u * q < 2 ^ 127 ∨ 0 < t) → sh_at (2 ^ 127) t u q → f = f1 → hw_I D t0 (hw_A L s.heap.size) s L f1 H locs → lv_has ls 11 [(8, .int (nI t)), (6, .long (lN q)), (4, .long (lN u))] → W p l e (headSpec (Cond.code y_Ms_ofShort b_Ms_ofShort 11 (some .long) :: TT) ({ frames := 0, cells := 0, slots := 0, locals := 0 } : Room)).room s m ([.long (lN a), .long (lN b)]).toArray below meth c H locs 0 0 (MQ below (hw_Q D L s.heap.size (fun oc L' f' => oc = .returned (some (.long (lN (Nat.gcd a b)))) ∧ L = L' ∧ f = f')) ([.long (lN a), .long (lN b)]).toArray s 0 0 (hw_A L s.heap.size)) (F0 m 9 ls []) := by
    intro g
    induction g with
    | zero =>
      intro t u q f1 H locs ls htg hu hq hg hC0 hs hf hI hl
      subst hf
      refine lv_iload hx hb d_Ms_ofShort_9 (lv_at hl 0 rfl) ?_
      refine hw_ldc (v := nI 100000) hx hb hown (hT _ w_309) d_Ms_ofShort_11 ?_
      refine hw_icmp_ge (tgt := 44) hx hb d_Ms_ofShort_13 (by decide) (by omega) (by omega) (fun c1 => ?_) (fun c1 => ?_)
      · have hq0 : q = 0 := sh_end (by omega) hs
        subst hq0
        rw [Nat.gcd_zero_right] at hg
        refine lv_lload hx hb d_Ms_ofShort_44 (lv_at hl 2 rfl) ?_
        exact hw_lret hx hb hr hlocks hI d_Ms_ofShort_46 ⟨by rw [hg], rfl, rfl⟩
      · refine lv_lload hx hb d_Ms_ofShort_16 (lv_at hl 1 rfl) ?_
        refine lv_lconst (v := lN 0) hx hb d_Ms_ofShort_18 rfl ?_
        refine hw_l_eq (tgt := 44) hx hb d_Ms_ofShort_19 d_Ms_ofShort_20 (by decide) (fun c2 => ?_) (fun c2 => ?_)
        · have hq0 : q = 0 := (lN0 hq).mp c2
          subst hq0
          rw [Nat.gcd_zero_right] at hg
          refine lv_lload hx hb d_Ms_ofShort_44 (lv_at hl 2 rfl) ?_
          exact hw_lret hx hb hr hlocks hI d_Ms_ofShort_46 ⟨by rw [hg], rfl, rfl⟩
        · have hq0 : q ≠ 0 := fun h => c2 ((lN0 hq).mpr h)
          exact absurd c1 (by omega)
    | succ g ih =>
      intro t u q f1 H locs ls htg hu hq hg hC0 hs hf hI hl
      subst hf
      refine lv_iload hx hb d_Ms_ofShort_9 (lv_at hl 0 rfl) ?_
      refine hw_ldc (v := nI 100000) hx hb hown (hT _ w_309) d_Ms_ofShort_11 ?_
      refine hw_icmp_ge (tgt := 44) hx hb d_Ms_ofShort_13 (by decide) (by omega) (by omega) (fun c3 => ?_) (fun c3 => ?_)
      · have hq0 : q = 0 := sh_end (by omega) hs
        subst hq0
        rw [Nat.gcd_zero_right] at hg
        refine lv_lload hx hb d_Ms_ofShort_44 (lv_at hl 2 rfl) ?_
        exact hw_lret hx hb hr hlocks hI d_Ms_ofShort_46 ⟨by rw [hg], rfl, rfl⟩
      · refine lv_lload hx hb d_Ms_ofShort_16 (lv_at hl 1 rfl) ?_
        refine lv_lconst (v := lN 0) hx hb d_Ms_ofShort_18 rfl ?_
        refine hw_l_eq (tgt := 44) hx hb d_Ms_ofShort_19 d_Ms_ofShort_20 (by decide) (fun c4 => ?_) (fun c4 => ?_)
        · have hq0 : q = 0 := (lN0 hq).mp c4
          subst hq0
          rw [Nat.gcd_zero_right] at hg
          refine lv_lload hx hb d_Ms_ofShort_44 (lv_at hl 2 rfl) ?_
          exact hw_lret hx hb hr hlocks hI d_Ms_ofShort_46 ⟨by rw [hg], rfl, rfl⟩
        · have hq0 : q ≠ 0 := fun h => c4 ((lN0 hq).mpr h)
          have hml9 := Nat.mod_lt u (show 0 < q by omega)
          refine lv_lload hx hb d_Ms_ofShort_23 (lv_at hl 2 rfl) ?_
          refine lv_lload hx hb d_Ms_ofShort_25 (lv_at hl 1 rfl) ?_
          refine lv_lrem hx hb d_Ms_ofShort_27 (by intro h9; have h8 := (pk_lEQ (b := 0) (by omega) (by decide)).mp h9; omega) ?_
          refine hw_tl (pk_lRem (by omega) (by omega) (by omega)) ?_
          refine lv_lstore (lv' := [(9, .long (lN (u % q))), (8, .int (nI t)), (6, .long (lN q)), (4, .long (lN u))]) hx hb d_Ms_ofShort_28 hl (by decide) rfl (fun ls hl => ?_)
          refine lv_lload hx hb d_Ms_ofShort_30 (lv_at hl 2 rfl) ?_
          refine lv_lstore (lv' := [(4, .long (lN q)), (9, .long (lN (u % q))), (8, .int (nI t)), (6, .long (lN q))]) hx hb d_Ms_ofShort_32 hl (by decide) rfl (fun ls hl => ?_)
          refine lv_lload hx hb d_Ms_ofShort_34 (lv_at hl 1 rfl) ?_
          refine lv_lstore (lv' := [(6, .long (lN (u % q))), (4, .long (lN q)), (9, .long (lN (u % q))), (8, .int (nI t))]) hx hb d_Ms_ofShort_36 hl (by decide) rfl (fun ls hl => ?_)
          refine lv_iinc (v := nI (t + 1)) (lv' := [(8, .int (nI (t + 1))), (6, .long (lN (u % q))), (4, .long (lN q)), (9, .long (lN (u % q)))]) hx hb d_Ms_ofShort_38 hl (k := 3) rfl (nI_1 _) (by decide) rfl (fun ls hl => ?_)
          refine lv_goto (tgt := 9) hx hb d_Ms_ofShort_41 (by decide) ?_
          exact ih (t + 1) q (u % q) _ _ _ _ (by omega) hq (by omega) (by rw [← hg, Nat.gcd_comm u q, Nat.gcd_rec q u, Nat.gcd_comm]) (Or.inr (by omega)) (sh_step (by omega) hC0 hs) rfl hI (lv_sub hl [0, 1, 2] rfl)
  refine lv_lload_n hx hb d_Ms_ofShort_0 rfl (lv_at hl 0 rfl) ?_
  refine lv_lstore (lv' := [(4, .long (lN a)), (0, .long (lN a)), (2, .long (lN b))]) hx hb d_Ms_ofShort_1 hl (by decide) rfl (fun ls hl => ?_)
  refine lv_lload_n hx hb d_Ms_ofShort_3 rfl (lv_at hl 2 rfl) ?_
  refine lv_lstore (lv' := [(6, .long (lN b)), (4, .long (lN a)), (0, .long (lN a)), (2, .long (lN b))]) hx hb d_Ms_ofShort_4 hl (by decide) rfl (fun ls hl => ?_)
  refine lv_iconst (v := nI 0) hx hb d_Ms_ofShort_6 (by decide) ?_
  refine lv_istore (lv' := [(8, .int (nI 0)), (6, .long (lN b)), (4, .long (lN a)), (0, .long (lN a)), (2, .long (lN b))]) hx hb d_Ms_ofShort_7 hl (by decide) rfl (fun ls hl => ?_)
  exact loop 100000 0 a b _ _ _ _ (by omega) ha hb0 rfl (Or.inl hC) (Or.inl rfl) rfl hI (lv_sub hl [0, 1, 2] rfl)
set_option maxHeartbeats 4000000 in
set_option maxRecDepth 100000 in
theorem c_Ms_shift (l : Launch) (D : va_G) (t0 : Nat) (L : List Nat) (f : Nat → va_E) (sz : Nat) (o r : Nat → Nat) (N : Nat) (am ad mq G Ls Rs : Nat) (ea eb ec ed : Int) (hY : Lay o r N) (hM : hw_c L f am (.inr (2, [.ref ad, .ref (o mq), .ref (o G), .ref (o Ls), .ref (o Rs), .long (zL ea), .long (zL eb), .long (zL ec), .long (zL ed)]))) : Met l y_Ms_shift (Cond.code y_Ms_shift b_Ms_shift 2 none :: TT) ({ frames := 0, cells := 0, slots := 0, locals := 0 } : Room) (hw_Pc t0 [.ref (am)] D L f sz) (hw_Q D L sz (fun oc L' f' => oc = .returned none ∧ L = L' ∧ hw_c L f' am (.inr (2, [.ref ad, .ref (o mq), .ref (o Ls), .ref (o Rs), .ref (o G), .long (zL ea), .long (zL eb), .long (zL ec), .long (zL ed)])) ∧ ∀ q, q ≠ am → f' q = f q)) 0 0 (hw_A L sz) := by
  refine Met.ofW (cc := b_Ms_shift) (maxL := 2) (ret := none) (by decide) rfl ?_
  intro p e s m args below meth c s₁ B hml hv
  obtain ⟨rfl, rfl, hI⟩ := hw_start hv
  clear hv
  have hx := B.exec
  have hb := B.bytes
  have hr := B.returns
  have hlocks := B.notSynchronized
  have hown : s.vm.findClass "WallFractions$Measure" = some m.cls := findClass_of_methodNamed B.named
  have hT : ∀ w ∈ TT, w.before ([.ref (am)]).toArray s = true := fun w h => atoms_spec (ws := (Cond.code y_Ms_shift b_Ms_shift 2 none :: TT)) B.pre w (List.mem_cons_of_mem _ h)
  have S : CallFix p m c b_Ms_shift 2 s ([.ref (am)]).toArray TT "WallFractions$Measure" := ⟨hx, hb, hml, hown, hT⟩
  have hl := lv_entry ([.ref (am)]) (n := 2) (Nat.le_of_ble_eq_true rfl)
  rw [lg_entry_eq]
  generalize (lg_sl ([.ref (am)]) ++ List.replicate (2 - (lg_sl ([.ref (am)])).length) Slot.unset).toArray = ls at hl ⊢
  have hl : lv_has ls 2 [(0, .ref (am))] := hl
  skip
  have hF : ∀ q, q ≠ am → f q = f q := fun _ _ => rfl
  refine lv_aload_n hx hb d_Ms_shift_0 rfl (lv_at hl 0 rfl) ?_
  refine ob_get S hI hM (C := R_Ms) (T := F_Ms) (N := 9) (ref := "WallFractions$Measure") rfl i_Ms 2 (by decide) rfl w_102 rfl d_Ms_shift_1 ?_
  refine lv_astore_n (lv' := [(1, .ref (o G)), (0, .ref (am))]) hx hb d_Ms_shift_4 rfl hl (by decide) rfl (fun ls hl => ?_)
  refine lv_aload_n hx hb d_Ms_shift_5 rfl (lv_at hl 1 rfl) ?_
  refine lv_aload_n hx hb d_Ms_shift_6 rfl (lv_at hl 1 rfl) ?_
  refine ob_get S hI hM (C := R_Ms) (T := F_Ms) (N := 9) (ref := "WallFractions$Measure") rfl i_Ms 3 (by decide) rfl w_103 rfl d_Ms_shift_7 ?_
  refine ob_put S hI hM (fs' := [.ref (ad), .ref (o mq), .ref (o Ls), .ref (o Ls), .ref (o Rs), .long (zL ea), .long (zL eb), .long (zL ec), .long (zL ed)]) (C := R_Ms) (T := F_Ms) (N := 9) (ref := "WallFractions$Measure") rfl i_Ms t_Ms t_Ms_ok n_Ms 2 (by decide) rfl w_102 rfl rfl rfl (by simp only [List.length]; decide) rfl d_Ms_shift_10 (fun f5 H locs hI hM hf5 => ?_)
  have hF := fun q (h1 : q ≠ am) => (hf5 q h1).trans (hF q h1)
  refine lv_aload_n hx hb d_Ms_shift_13 rfl (lv_at hl 1 rfl) ?_
  refine lv_aload_n hx hb d_Ms_shift_14 rfl (lv_at hl 1 rfl) ?_
  refine ob_get S hI hM (C := R_Ms) (T := F_Ms) (N := 9) (ref := "WallFractions$Measure") rfl i_Ms 4 (by decide) rfl w_104 rfl d_Ms_shift_15 ?_
  refine ob_put S hI hM (fs' := [.ref (ad), .ref (o mq), .ref (o Ls), .ref (o Rs), .ref (o Rs), .long (zL ea), .long (zL eb), .long (zL ec), .long (zL ed)]) (C := R_Ms) (T := F_Ms) (N := 9) (ref := "WallFractions$Measure") rfl i_Ms t_Ms t_Ms_ok n_Ms 3 (by decide) rfl w_103 rfl rfl rfl (by simp only [List.length]; decide) rfl d_Ms_shift_18 (fun f6 H locs hI hM hf6 => ?_)
  have hF := fun q (h1 : q ≠ am) => (hf6 q h1).trans (hF q h1)
  refine lv_aload_n hx hb d_Ms_shift_21 rfl (lv_at hl 1 rfl) ?_
  refine lv_aload_n hx hb d_Ms_shift_22 rfl (lv_at hl 0 rfl) ?_
  refine ob_put S hI hM (fs' := [.ref (ad), .ref (o mq), .ref (o Ls), .ref (o Rs), .ref (o G), .long (zL ea), .long (zL eb), .long (zL ec), .long (zL ed)]) (C := R_Ms) (T := F_Ms) (N := 9) (ref := "WallFractions$Measure") rfl i_Ms t_Ms t_Ms_ok n_Ms 4 (by decide) rfl w_104 rfl rfl rfl (by simp only [List.length]; decide) rfl d_Ms_shift_23 (fun f7 H locs hI hM hf7 => ?_)
  have hF := fun q (h1 : q ≠ am) => (hf7 q h1).trans (hF q h1)
  exact hw_vret hx hb hr hlocks hI d_Ms_shift_26 ⟨rfl, rfl, hM, hF⟩
set_option maxHeartbeats 4000000 in
set_option maxRecDepth 100000 in
theorem c_Ms_leading (l : Launch) (D : va_G) (t0 : Nat) (L : List Nat) (f : Nat → va_E) (sz : Nat) (o r : Nat → Nat) (N : Nat) (am ad mq G Ls Rs : Nat) (ea eb ec ed : Int) (v : Nat → Nat × (Nat → Nat)) (x : Nat → Nat) (z T tT : Nat) (hY : Lay o r N) (hM : hw_c L f am (.inr (2, [.ref ad, .ref (o mq), .ref (o G), .ref (o Ls), .ref (o Rs), .long (zL ea), .long (zL eb), .long (zL ec), .long (zL ed)]))) (hV : AllW D L f o r N v) (hO : ∀ i, i < N → (v i).1 ≤ 41 ∧ nOk nB (v i).1 (v i).2 (x i)) (hG : G < N) (hz : z < N) (hs : 3 ≤ (v G).1) (hzs : x z < nB ^ (v G).1) (hT1 : 1 ≤ T) (hT9 : T ≤ 9) (htT : tT = 10 ^ T) : Met l y_Ms_leading (Cond.code y_Ms_leading b_Ms_leading 7 (some .long) :: TT) ({ frames := 1, cells := 0, slots := 0, locals := 21 } : Room) (hw_Pc t0 [.ref (am), .ref (o z), .long (lN tT)] D L f sz) (hw_Q D L sz (fun oc L' f' => oc = .returned (some (.long (lN (x z / (10 ^ T * nB ^ ((v G).1 - 3)))))) ∧ L = L' ∧ f = f')) 0 0 (hw_A L sz) := by
  refine Met.ofW (cc := b_Ms_leading) (maxL := 7) (ret := (some .long)) (by decide) rfl ?_
  intro p e s m args below meth c s₁ B hml hv
  obtain ⟨rfl, rfl, hI⟩ := hw_start hv
  clear hv
  have hx := B.exec
  have hb := B.bytes
  have hr := B.returns
  have hlocks := B.notSynchronized
  have hown : s.vm.findClass "WallFractions$Measure" = some m.cls := findClass_of_methodNamed B.named
  have hT : ∀ w ∈ TT, w.before ([.ref (am), .ref (o z), .long (lN tT)]).toArray s = true := fun w h => atoms_spec (ws := (Cond.code y_Ms_leading b_Ms_leading 7 (some .long) :: TT)) B.pre w (List.mem_cons_of_mem _ h)
  have S : CallFix p m c b_Ms_leading 7 s ([.ref (am), .ref (o z), .long (lN tT)]).toArray TT "WallFractions$Measure" := ⟨hx, hb, hml, hown, hT⟩
  have hl := lv_entry ([.ref (am), .ref (o z), .long (lN tT)]) (n := 7) (Nat.le_of_ble_eq_true rfl)
  rw [lg_entry_eq]
  generalize (lg_sl ([.ref (am), .ref (o z), .long (lN tT)]) ++ List.replicate (7 - (lg_sl ([.ref (am), .ref (o z), .long (lN tT)])).length) Slot.unset).toArray = ls at hl ⊢
  have hl : lv_has ls 7 [(0, .ref (am)), (1, .ref (o z)), (2, .long (lN tT))] := hl
  skip
  have hnB : nB = 1000000000 := rfl
  have h41 := (hO G hG).1
  have ht0 : 0 < tT := by rw [htT]; exact Nat.pow_pos (by decide)
  have ht1 : tT ≤ nB := by rw [htT, nB10]; exact Nat.pow_le_pow_right (by decide) hT9
  obtain ⟨s9, hs9⟩ : ∃ s9, s9 = (v G).1 := ⟨_, rfl⟩
  rw [← hs9] at hs hzs h41 ⊢
  obtain ⟨l1, hl1⟩ : ∃ l1, l1 = padl (v z) (s9 - 1) := ⟨_, rfl⟩
  have hb1 : l1 < nB := by rw [hl1]; exact padl_lt nB_pos (hO z hz).2.1 _
  have hn1 : l1 = x z / nB ^ (s9 - 1) % nB := by rw [hl1]; exact padl_num (hO z hz).2
  obtain ⟨l2, hl2⟩ : ∃ l2, l2 = padl (v z) (s9 - 2) := ⟨_, rfl⟩
  have hb2 : l2 < nB := by rw [hl2]; exact padl_lt nB_pos (hO z hz).2.1 _
  have hn2 : l2 = x z / nB ^ (s9 - 2) % nB := by rw [hl2]; exact padl_num (hO z hz).2
  obtain ⟨l3, hl3⟩ : ∃ l3, l3 = padl (v z) (s9 - 3) := ⟨_, rfl⟩
  have hb3 : l3 < nB := by rw [hl3]; exact padl_lt nB_pos (hO z hz).2.1 _
  have hn3 : l3 = x z / nB ^ (s9 - 3) % nB := by rw [hl3]; exact padl_num (hO z hz).2
  refine lv_aload_n hx hb d_Ms_leading_0 rfl (lv_at hl 0 rfl) ?_
  refine ob_get S hI hM (C := R_Ms) (T := F_Ms) (N := 9) (ref := "WallFractions$Measure") rfl i_Ms 2 (by decide) rfl w_102 rfl d_Ms_leading_1 ?_
  refine wh_sizeN S hI hV hG (by decide) d_Ms_leading_4 ?_
  refine hw_ti (show _ = nI s9 from by rw [hs9]) ?_
  refine lv_iconst (v := nI 1) hx hb d_Ms_leading_7 (by decide) ?_
  refine lv_isub hx hb d_Ms_leading_8 ?_
  refine hw_ti (pk_sub (by omega)) ?_
  refine lv_istore (lv' := [(4, .int (nI (s9 - 1))), (0, .ref (am)), (1, .ref (o z)), (2, .long (lN tT))]) hx hb d_Ms_leading_9 hl (by decide) rfl (fun ls hl => ?_)
  refine lv_aload_n hx hb d_Ms_leading_11 rfl (lv_at hl 2 rfl) ?_
  refine lv_iload hx hb d_Ms_leading_12 (lv_at hl 0 rfl) ?_
  refine hw_cVN (As := [.int (nI (s9 - 1))]) (rest := []) S hI m_Wh_limbAt (by decide +kernel) (c_Wh_limbAt l D t0 L _ _ o r N v z (s9 - 1) hz hY hV (by omega) (hO z hz).1) (hV _ hz).1 rfl hl.1 rfl rfl (Nat.le_of_ble_eq_true rfl) d_Ms_leading_14 ⟨Nat.le_of_ble_eq_true rfl, Nat.le_of_ble_eq_true rfl⟩ ⟨Nat.le_of_ble_eq_true rfl, Nat.le_of_ble_eq_true rfl⟩ (fun v9 L9 f8 H locs hp hI => ?_)
  refine W.cs (cells' := 0) (slots' := 0) rfl rfl ?_
  obtain ⟨hv9, rfl, rfl⟩ := hp
  cases hv9
  refine hw_stk (st' := [.long (lN (padl (v z) (s9 - 1)))]) rfl ?_
  refine hw_tl (show _ = lN l1 from by rw [hl1]) ?_
  refine hw_ldc2 (v := lN nB) hx hb hown (hT _ w_456) d_Ms_leading_17 ?_
  refine lv_lmul hx hb d_Ms_leading_20 ?_
  refine hw_tl (lN_mul _ _) ?_
  refine lv_aload_n hx hb d_Ms_leading_21 rfl (lv_at hl 2 rfl) ?_
  refine lv_iload hx hb d_Ms_leading_22 (lv_at hl 0 rfl) ?_
  refine lv_iconst (v := nI 1) hx hb d_Ms_leading_24 (by decide) ?_
  refine lv_isub hx hb d_Ms_leading_25 ?_
  refine hw_ti (pk_sub (by omega)) ?_
  refine hw_cVN (As := [.int (nI ((s9 - 1) - 1))]) (rest := [.long (lN (l1 * nB))]) S hI m_Wh_limbAt (by decide +kernel) (c_Wh_limbAt l D t0 L _ _ o r N v z (s9 - 1 - 1) hz hY hV (by omega) (hO z hz).1) (hV _ hz).1 rfl hl.1 rfl rfl (Nat.le_of_ble_eq_true rfl) d_Ms_leading_26 ⟨Nat.le_of_ble_eq_true rfl, Nat.le_of_ble_eq_true rfl⟩ ⟨Nat.le_of_ble_eq_true rfl, Nat.le_of_ble_eq_true rfl⟩ (fun v9 L9 f9 H locs hp hI => ?_)
  refine W.cs (cells' := 0) (slots' := 0) rfl rfl ?_
  obtain ⟨hv9, rfl, rfl⟩ := hp
  cases hv9
  refine hw_stk (st' := [.long (lN (padl (v z) (s9 - 1 - 1))), .long (lN (l1 * nB))]) rfl ?_
  refine hw_tl (show _ = lN l2 from by rw [hl2, show s9 - 1 - 1 = s9 - 2 by omega]) ?_
  refine lv_ladd hx hb d_Ms_leading_29 ?_
  refine hw_tl (lN_add _ _) ?_
  refine lv_lstore (lv' := [(5, .long (lN ((l1 * nB) + l2))), (4, .int (nI (s9 - 1))), (0, .ref (am)), (1, .ref (o z)), (2, .long (lN tT))]) hx hb d_Ms_leading_30 hl (by decide) rfl (fun ls hl => ?_)
  refine lv_lload hx hb d_Ms_leading_32 (lv_at hl 0 rfl) ?_
  refine hw_ldc2 (v := lN nB) hx hb hown (hT _ w_456) d_Ms_leading_34 ?_
  refine lv_lload_n hx hb d_Ms_leading_37 rfl (lv_at hl 4 rfl) ?_
  refine lv_ldiv hx hb d_Ms_leading_38 (by intro h9; have h8 := (pk_lEQ (b := 0) (by omega) (by decide)).mp h9; omega) ?_
  refine hw_tl (pk_lDiv (by omega) (by omega) (by omega)) ?_
  refine lv_lmul hx hb d_Ms_leading_39 ?_
  refine hw_tl (lN_mul _ _) ?_
  refine lv_aload_n hx hb d_Ms_leading_40 rfl (lv_at hl 3 rfl) ?_
  refine lv_iload hx hb d_Ms_leading_41 (lv_at hl 1 rfl) ?_
  refine lv_iconst (v := nI 2) hx hb d_Ms_leading_43 (by decide) ?_
  refine lv_isub hx hb d_Ms_leading_44 ?_
  refine hw_ti (pk_sub (by omega)) ?_
  refine hw_cVN (As := [.int (nI ((s9 - 1) - 2))]) (rest := [.long (lN (((l1 * nB) + l2) * (nB / tT)))]) S hI m_Wh_limbAt (by decide +kernel) (c_Wh_limbAt l D t0 L _ _ o r N v z (s9 - 1 - 2) hz hY hV (by omega) (hO z hz).1) (hV _ hz).1 rfl hl.1 rfl rfl (Nat.le_of_ble_eq_true rfl) d_Ms_leading_45 ⟨Nat.le_of_ble_eq_true rfl, Nat.le_of_ble_eq_true rfl⟩ ⟨Nat.le_of_ble_eq_true rfl, Nat.le_of_ble_eq_true rfl⟩ (fun v9 L9 f10 H locs hp hI => ?_)
  refine W.cs (cells' := 0) (slots' := 0) rfl rfl ?_
  obtain ⟨hv9, rfl, rfl⟩ := hp
  cases hv9
  refine hw_stk (st' := [.long (lN (padl (v z) (s9 - 1 - 2))), .long (lN (((l1 * nB) + l2) * (nB / tT)))]) rfl ?_
  refine hw_tl (show _ = lN l3 from by rw [hl3, show s9 - 1 - 2 = s9 - 3 by omega]) ?_
  refine lv_lload_n hx hb d_Ms_leading_48 rfl (lv_at hl 4 rfl) ?_
  refine lv_ldiv hx hb d_Ms_leading_49 (by intro h9; have h8 := (pk_lEQ (b := 0) (by omega) (by decide)).mp h9; omega) ?_
  refine hw_tl (pk_lDiv (by omega) (by omega) (by omega)) ?_
  refine lv_ladd hx hb d_Ms_leading_50 ?_
  refine hw_tl (lN_add _ _) ?_
  exact hw_lret hx hb hr hlocks hI d_Ms_leading_51 ⟨by rw [← lead_num hs hT9 hzs hn1 hn2 hn3, htT], rfl, rfl⟩
end
section
set_option maxHeartbeats 4000000 in
set_option maxRecDepth 100000 in
theorem c_Ms_gather (l : Launch) (D : va_G) (t0 : Nat) (L : List Nat) (f : Nat → va_E) (sz : Nat) (o r : Nat → Nat) (N : Nat) (am ad mq G Ls Rs : Nat) (ea eb ec ed : Int) (x : Nat → Nat) (hY : Lay o r N) (hM : hw_c L f am (.inr (2, [.ref ad, .ref (o mq), .ref (o G), .ref (o Ls), .ref (o Rs), .long (zL ea), .long (zL eb), .long (zL ec), .long (zL ed)]))) (hN : AllN D L f o r N x) (hG : G < N) (hLs : Ls < N) (hle : x Ls ≤ x G) (h3 : nB ^ 2 ≤ x G) : Met l y_Ms_gather (Cond.code y_Ms_gather b_Ms_gather 16 none :: TT) ({ frames := 6, cells := 0, slots := 0, locals := 110 } : Room) (hw_Pc t0 [.ref (am)] D L f sz) (hw_Q D L sz (fun oc L' f' => oc = .returned none ∧ L = L' ∧ (∃ ea eb ec ed : Int, hw_c L f' am (.inr (2, [.ref ad, .ref (o mq), .ref (o G), .ref (o Ls), .ref (o Rs), .long (zL ea), .long (zL eb), .long (zL ec), .long (zL ed)])) ∧ le_b ea eb ec ed ∧ (eb = 0 ∨ Lm (x G) (x Ls) ea eb ec ed)) ∧ ∀ q, q ≠ am → f' q = f q)) 0 0 (hw_A L sz) := by
  refine Met.ofW (cc := b_Ms_gather) (maxL := 16) (ret := none) (by decide) rfl ?_
  intro p e s m args below meth c s₁ B hml hv
  obtain ⟨rfl, rfl, hI⟩ := hw_start hv
  clear hv
  have hx := B.exec
  have hb := B.bytes
  have hr := B.returns
  have hlocks := B.notSynchronized
  have hown : s.vm.findClass "WallFractions$Measure" = some m.cls := findClass_of_methodNamed B.named
  have hT : ∀ w ∈ TT, w.before ([.ref (am)]).toArray s = true := fun w h => atoms_spec (ws := (Cond.code y_Ms_gather b_Ms_gather 16 none :: TT)) B.pre w (List.mem_cons_of_mem _ h)
  have S : CallFix p m c b_Ms_gather 16 s ([.ref (am)]).toArray TT "WallFractions$Measure" := ⟨hx, hb, hml, hown, hT⟩
  have hl := lv_entry ([.ref (am)]) (n := 16) (Nat.le_of_ble_eq_true rfl)
  rw [lg_entry_eq]
  generalize (lg_sl ([.ref (am)]) ++ List.replicate (16 - (lg_sl ([.ref (am)])).length) Slot.unset).toArray = ls at hl ⊢
  have hl : lv_has ls 16 [(0, .ref (am))] := hl
  skip
  obtain ⟨v, hV, hO⟩ := hN
  have hnB : nB = 1000000000 := rfl
  have hs3 : 3 ≤ (v G).1 := by rcases Nat.lt_or_ge 2 (v G).1 with q | q; exact q; have q1 := ((hO G hG).2.size_le nB1).mp q; omega
  have h41 := (hO G hG).1
  refine hw_tens S hI (by decide) d_Ms_gather_0 ?_
  refine lv_aload_n hx hb d_Ms_gather_3 rfl (lv_at hl 0 rfl) ?_
  refine ob_get S hI hM (C := R_Ms) (T := F_Ms) (N := 9) (ref := "WallFractions$Measure") rfl i_Ms 2 (by decide) rfl w_102 rfl d_Ms_gather_4 ?_
  refine hw_cV (As := []) (rest := [.ref (t0)]) S hI m_Wh_topLength w_446 (c_Wh_topLength l D t0 L _ _ o r N v G hG hY hV h41 (by omega) (hO G hG).2.1 ((hO G hG).2.2.1 (by omega))) (hV _ hG).1 rfl hl.1 rfl rfl (Nat.le_of_ble_eq_true rfl) d_Ms_gather_7 ⟨Nat.le_of_ble_eq_true rfl, Nat.le_of_ble_eq_true rfl⟩ ⟨Nat.le_of_ble_eq_true rfl, Nat.le_of_ble_eq_true rfl⟩ (fun v9 L9 f1 H locs hp hI => ?_)
  refine W.cs (cells' := 0) (slots' := 0) rfl rfl ?_
  obtain ⟨⟨T, hv9, hT1, hT9, hT3, hT4⟩, rfl, rfl⟩ := hp
  cases hv9
  refine hw_stk (st' := [.int (nI T), .ref (t0)]) rfl ?_
  obtain ⟨tT, htT⟩ : ∃ tT, tT = 10 ^ T := ⟨_, rfl⟩
  obtain ⟨U, hU⟩ : ∃ U, U = 10 ^ T * nB ^ ((v G).1 - 3) := ⟨_, rfl⟩
  have hU0 : 0 < U := by rw [hU]; exact Nat.mul_pos (Nat.pow_pos (by decide)) (Nat.pow_pos nB_pos)
  have hXU : x G / U < 1000000000000000000 := by rw [hU]; exact lead_rng hs3 (dlen_top (hO G hG).2 (by omega) hT1 hT3 hT4).2.1
  have hxG := (hO G hG).2.lt
  refine hw_tld S hI (by omega) d_Ms_gather_10 ?_
  refine hw_tl (show _ = lN tT from by rw [htT]) ?_
  refine lv_lstore_n (lv' := [(1, .long (lN tT)), (0, .ref (am))]) hx hb d_Ms_gather_11 rfl hl (by decide) rfl (fun ls hl => ?_)
  refine lv_aload_n hx hb d_Ms_gather_12 rfl (lv_at hl 1 rfl) ?_
  refine lv_aload_n hx hb d_Ms_gather_13 rfl (lv_at hl 1 rfl) ?_
  refine ob_get S hI hM (C := R_Ms) (T := F_Ms) (N := 9) (ref := "WallFractions$Measure") rfl i_Ms 2 (by decide) rfl w_102 rfl d_Ms_gather_14 ?_
  refine lv_lload_n hx hb d_Ms_gather_17 rfl (lv_at hl 0 rfl) ?_
  refine hw_cV (As := [.ref (o G), .long (lN tT)]) (rest := []) S hI m_Ms_leading w_451 (c_Ms_leading l D t0 L _ _ o r N am ad mq G Ls Rs ea eb ec ed v x G T tT hY hM hV hO hG hG hs3 (by omega) hT1 hT9 htT) hM rfl hl.1 rfl rfl (Nat.le_of_ble_eq_true rfl) d_Ms_gather_18 ⟨Nat.le_of_ble_eq_true rfl, Nat.le_of_ble_eq_true rfl⟩ ⟨Nat.le_of_ble_eq_true rfl, Nat.le_of_ble_eq_true rfl⟩ (fun v9 L9 f2 H locs hp hI => ?_)
  refine W.cs (cells' := 0) (slots' := 0) rfl rfl ?_
  obtain ⟨hv9, rfl, rfl⟩ := hp
  cases hv9
  refine hw_stk (st' := [.long (lN (x G / (10 ^ T * nB ^ ((v G).1 - 3))))]) rfl ?_
  refine hw_tl (show _ = lN (x G / U) from by rw [hU]) ?_
  refine lv_lstore_n (lv' := [(3, .long (lN (x G / U))), (1, .long (lN tT)), (0, .ref (am))]) hx hb d_Ms_gather_21 rfl hl (by decide) rfl (fun ls hl => ?_)
  refine lv_aload_n hx hb d_Ms_gather_22 rfl (lv_at hl 2 rfl) ?_
  refine lv_aload_n hx hb d_Ms_gather_23 rfl (lv_at hl 2 rfl) ?_
  refine ob_get S hI hM (C := R_Ms) (T := F_Ms) (N := 9) (ref := "WallFractions$Measure") rfl i_Ms 3 (by decide) rfl w_103 rfl d_Ms_gather_24 ?_
  refine lv_lload_n hx hb d_Ms_gather_27 rfl (lv_at hl 1 rfl) ?_
  refine hw_cV (As := [.ref (o Ls), .long (lN tT)]) (rest := []) S hI m_Ms_leading w_451 (c_Ms_leading l D t0 L _ _ o r N am ad mq G Ls Rs ea eb ec ed v x Ls T tT hY hM hV hO hG hLs hs3 (by omega) hT1 hT9 htT) hM rfl hl.1 rfl rfl (Nat.le_of_ble_eq_true rfl) d_Ms_gather_28 ⟨Nat.le_of_ble_eq_true rfl, Nat.le_of_ble_eq_true rfl⟩ ⟨Nat.le_of_ble_eq_true rfl, Nat.le_of_ble_eq_true rfl⟩ (fun v9 L9 f3 H locs hp hI => ?_)
  refine W.cs (cells' := 0) (slots' := 0) rfl rfl ?_
  obtain ⟨hv9, rfl, rfl⟩ := hp
  cases hv9
  refine hw_stk (st' := [.long (lN (x Ls / (10 ^ T * nB ^ ((v G).1 - 3))))]) rfl ?_
  refine hw_tl (show _ = lN (x Ls / U) from by rw [hU]) ?_
  have hF : ∀ q, q ≠ am → f q = f q := fun _ _ => rfl
  have loop : ∀ (g t : Nat) (ea eb ec ed ex ey : Int) (f1 : Nat → va_E) (H : Heap) (locs : List Loc) (ls : Array Slot), t + g = 100000 → le_at (x G) (x Ls) U ea eb ec ed ex ey → hw_c L f1 am (.inr (2, [.ref ad, .ref (o mq), .ref (o G), .ref (o Ls), .ref (o Rs), .long (zL ea), .long (zL eb), .long (zL ec), .long (zL ed)])) → (∀ q, q ≠ am → f1 q = f q) → hw_I D t0 (hw_A L s.heap.size) s L f1 H locs → lv_has ls 16 [(7, .int (nI t)), (5, .long (zL ey)), (3, .long (zL ex)), (0, .ref (am))] → W p l e (headSpec (Cond.code y_Ms_gather b_Ms_gather 16 none :: TT) ({ frames := 6, cells := 0, slots := 0, locals := 110 } : Room)).room s m ([.ref (am)]).toArray below meth c H locs 0 0 (MQ below (hw_Q D L s.heap.size (fun oc L' f' => oc = .returned none ∧ L = L' ∧ (∃ ea eb ec ed : Int, hw_c L f' am (.inr (2, [.ref ad, .ref (o mq), .ref (o G), .ref (o Ls), .ref (o Rs), .long (zL ea), .long (zL eb), .long (zL ec), .long (zL ed)])) ∧ le_b ea eb ec ed ∧ (eb = 0 ∨ Lm (x G) (x Ls) ea eb ec ed)) ∧ ∀ q, q ≠ am → f' q = f q)) ([.ref (am)]).toArray s 0 0 (hw_A L s.heap.size)) (F0 m 56 ls []) := by
    intro g
    induction g with
    | zero =>
      intro t ea eb ec ed ex ey f1 H locs ls htg hLe hM hF hI hl
      refine lv_iload hx hb d_Ms_gather_56 (lv_at hl 0 rfl) ?_
      refine hw_ldc (v := nI 100000) hx hb hown (hT _ w_309) d_Ms_gather_58 ?_
      refine hw_icmp_ge (tgt := 240) hx hb d_Ms_gather_60 (by decide) (by omega) (by omega) (fun c4 => ?_) (fun c4 => ?_)
      · exact hw_vret hx hb hr hlocks hI d_Ms_gather_240 ⟨rfl, rfl, ⟨ea, eb, ec, ed, hM, hLe.fin.1, hLe.fin.2⟩, hF⟩
      · exact absurd c4 (by omega)
    | succ g ih =>
      intro t ea eb ec ed ex ey f1 H locs ls htg hLe hM hF hI hl
      refine lv_iload hx hb d_Ms_gather_56 (lv_at hl 0 rfl) ?_
      refine hw_ldc (v := nI 100000) hx hb hown (hT _ w_309) d_Ms_gather_58 ?_
      refine hw_icmp_ge (tgt := 240) hx hb d_Ms_gather_60 (by decide) (by omega) (by omega) (fun c5 => ?_) (fun c5 => ?_)
      · exact hw_vret hx hb hr hlocks hI d_Ms_gather_240 ⟨rfl, rfl, ⟨ea, eb, ec, ed, hM, hLe.fin.1, hLe.fin.2⟩, hF⟩
      · obtain ⟨k1, k2, k3, k4⟩ := hLe.rng hU0 hXU
        obtain ⟨b1, b2, b3, b4, b5, b6, b7, b8⟩ := hLe.fin.1
        rw [hnB] at b1 b2 b3 b4 b5 b6 b7 b8
        have g1 : 0 ≤ ex + ea := hLe.2.2.2.2.1
        have g2 : 0 ≤ ex + eb := hLe.2.2.2.2.2.1
        refine lv_lload hx hb d_Ms_gather_63 (lv_at hl 1 rfl) ?_
        refine lv_aload_n hx hb d_Ms_gather_65 rfl (lv_at hl 3 rfl) ?_
        refine ob_get S hI hM (C := R_Ms) (T := F_Ms) (N := 9) (ref := "WallFractions$Measure") rfl i_Ms 7 (by decide) rfl w_107 rfl d_Ms_gather_66 ?_
        refine lv_ladd hx hb d_Ms_gather_69 ?_
        refine hw_tl (zL_add ey ec) ?_
        refine lv_lconst (v := lN 0) hx hb d_Ms_gather_70 rfl ?_
        refine hw_l_le (tgt := 240) hx hb d_Ms_gather_71 d_Ms_gather_72 (by decide) (fun c6 => ?_) (fun c6 => ?_)
        · exact hw_vret hx hb hr hlocks hI d_Ms_gather_240 ⟨rfl, rfl, ⟨ea, eb, ec, ed, hM, hLe.fin.1, hLe.fin.2⟩, hF⟩
        · have y1 : 0 < ey + ec := (zL_lt (a := 0) (by decide) (by decide) (by omega) (by omega)).mp c6
          refine lv_lload hx hb d_Ms_gather_75 (lv_at hl 1 rfl) ?_
          refine lv_aload_n hx hb d_Ms_gather_77 rfl (lv_at hl 3 rfl) ?_
          refine ob_get S hI hM (C := R_Ms) (T := F_Ms) (N := 9) (ref := "WallFractions$Measure") rfl i_Ms 8 (by decide) rfl w_108 rfl d_Ms_gather_78 ?_
          refine lv_ladd hx hb d_Ms_gather_81 ?_
          refine hw_tl (zL_add ey ed) ?_
          refine lv_lconst (v := lN 0) hx hb d_Ms_gather_82 rfl ?_
          refine hw_l_le (tgt := 240) hx hb d_Ms_gather_83 d_Ms_gather_84 (by decide) (fun c7 => ?_) (fun c7 => ?_)
          · exact hw_vret hx hb hr hlocks hI d_Ms_gather_240 ⟨rfl, rfl, ⟨ea, eb, ec, ed, hM, hLe.fin.1, hLe.fin.2⟩, hF⟩
          · have y2 : 0 < ey + ed := (zL_lt (a := 0) (by decide) (by decide) (by omega) (by omega)).mp c7
            obtain ⟨tm, htm⟩ : ∃ tm, tm = (ex + ea) / (ey + ec) := ⟨_, rfl⟩
            obtain ⟨tn, htn⟩ : ∃ tn, tn = (ex + eb) / (ey + ed) := ⟨_, rfl⟩
            obtain ⟨m1, m2, -, -⟩ := ediv_fact g1 y1 htm
            obtain ⟨n1, n2, -, -⟩ := ediv_fact g2 y2 htn
            refine lv_lload_n hx hb d_Ms_gather_87 rfl (lv_at hl 2 rfl) ?_
            refine lv_aload_n hx hb d_Ms_gather_88 rfl (lv_at hl 3 rfl) ?_
            refine ob_get S hI hM (C := R_Ms) (T := F_Ms) (N := 9) (ref := "WallFractions$Measure") rfl i_Ms 5 (by decide) rfl w_105 rfl d_Ms_gather_89 ?_
            refine lv_ladd hx hb d_Ms_gather_92 ?_
            refine hw_tl (zL_add ex ea) ?_
            refine lv_lload hx hb d_Ms_gather_93 (lv_at hl 1 rfl) ?_
            refine lv_aload_n hx hb d_Ms_gather_95 rfl (lv_at hl 3 rfl) ?_
            refine ob_get S hI hM (C := R_Ms) (T := F_Ms) (N := 9) (ref := "WallFractions$Measure") rfl i_Ms 7 (by decide) rfl w_107 rfl d_Ms_gather_96 ?_
            refine lv_ladd hx hb d_Ms_gather_99 ?_
            refine hw_tl (zL_add ey ec) ?_
            refine lv_ldiv hx hb d_Ms_gather_100 (fun h => by have h9 := (zL_eq (b := 0) (by omega) (by omega) (by decide) (by decide)).mp h; omega) ?_
            refine hw_tl (zL_div (a := (ex + ea)) (b := (ey + ec)) (by omega) (by omega) (by omega) (by omega)) ?_
            refine hw_tl (show _ = zL tm from by rw [fdiv_pos g1 y1, ← htm]) ?_
            refine lv_lstore (lv' := [(8, .long (zL tm)), (7, .int (nI t)), (5, .long (zL ey)), (3, .long (zL ex)), (0, .ref (am))]) hx hb d_Ms_gather_101 hl (by decide) rfl (fun ls hl => ?_)
            refine lv_lload hx hb d_Ms_gather_103 (lv_at hl 0 rfl) ?_
            refine lv_lload_n hx hb d_Ms_gather_105 rfl (lv_at hl 3 rfl) ?_
            refine lv_aload_n hx hb d_Ms_gather_106 rfl (lv_at hl 4 rfl) ?_
            refine ob_get S hI hM (C := R_Ms) (T := F_Ms) (N := 9) (ref := "WallFractions$Measure") rfl i_Ms 6 (by decide) rfl w_106 rfl d_Ms_gather_107 ?_
            refine lv_ladd hx hb d_Ms_gather_110 ?_
            refine hw_tl (zL_add ex eb) ?_
            refine lv_lload hx hb d_Ms_gather_111 (lv_at hl 2 rfl) ?_
            refine lv_aload_n hx hb d_Ms_gather_113 rfl (lv_at hl 4 rfl) ?_
            refine ob_get S hI hM (C := R_Ms) (T := F_Ms) (N := 9) (ref := "WallFractions$Measure") rfl i_Ms 8 (by decide) rfl w_108 rfl d_Ms_gather_114 ?_
            refine lv_ladd hx hb d_Ms_gather_117 ?_
            refine hw_tl (zL_add ey ed) ?_
            refine lv_ldiv hx hb d_Ms_gather_118 (fun h => by have h9 := (zL_eq (b := 0) (by omega) (by omega) (by decide) (by decide)).mp h; omega) ?_
            refine hw_tl (zL_div (a := (ex + eb)) (b := (ey + ed)) (by omega) (by omega) (by omega) (by omega)) ?_
            refine hw_tl (show _ = zL tn from by rw [fdiv_pos g2 y2, ← htn]) ?_
            refine hw_l_ne (tgt := 240) hx hb d_Ms_gather_119 d_Ms_gather_120 (by decide) (fun c8 => ?_) (fun c8 => ?_)
            · exact hw_vret hx hb hr hlocks hI d_Ms_gather_240 ⟨rfl, rfl, ⟨ea, eb, ec, ed, hM, hLe.fin.1, hLe.fin.2⟩, hF⟩
            · have hmn : tm = tn := (zL_eq (by omega) (by omega) (by omega) (by omega)).mp c8
              refine lv_lload hx hb d_Ms_gather_123 (lv_at hl 0 rfl) ?_
              refine hw_ldc2 (v := lN nB) hx hb hown (hT _ w_456) d_Ms_gather_125 ?_
              refine hw_l_le (tgt := 135) hx hb d_Ms_gather_128 d_Ms_gather_129 (by decide) (fun c9 => ?_) (fun c9 => ?_)
              · have hmB : tm ≤ 1000000000 := by have h9 := (zL_le (b := (nB : Int)) (by omega) (by omega) (by omega) (by omega)).mp c9; omega
                have pc : -1000000000000000000 ≤ tm * ec ∧ tm * ec ≤ 1000000000000000000 := by have q1 : tm * ec ≤ tm * 1000000000 := Int.mul_le_mul_of_nonneg_left b6 m1; have q2 : tm * (-1000000000) ≤ tm * ec := Int.mul_le_mul_of_nonneg_left b5 m1; omega
                have pd : -1000000000000000000 ≤ tm * ed ∧ tm * ed ≤ 1000000000000000000 := by have q1 : tm * ed ≤ tm * 1000000000 := Int.mul_le_mul_of_nonneg_left b8 m1; have q2 : tm * (-1000000000) ≤ tm * ed := Int.mul_le_mul_of_nonneg_left b7 m1; omega
                refine lv_aload_n hx hb d_Ms_gather_135 rfl (lv_at hl 4 rfl) ?_
                refine ob_get S hI hM (C := R_Ms) (T := F_Ms) (N := 9) (ref := "WallFractions$Measure") rfl i_Ms 5 (by decide) rfl w_105 rfl d_Ms_gather_136 ?_
                refine lv_lload hx hb d_Ms_gather_139 (lv_at hl 0 rfl) ?_
                refine lv_aload_n hx hb d_Ms_gather_141 rfl (lv_at hl 4 rfl) ?_
                refine ob_get S hI hM (C := R_Ms) (T := F_Ms) (N := 9) (ref := "WallFractions$Measure") rfl i_Ms 7 (by decide) rfl w_107 rfl d_Ms_gather_142 ?_
                refine lv_lmul hx hb d_Ms_gather_145 ?_
                refine hw_tl (zL_mul tm ec) ?_
                refine lv_lsub hx hb d_Ms_gather_146 ?_
                refine hw_tl (zL_sub ea (tm * ec)) ?_
                refine lv_lstore (lv' := [(10, .long (zL (ea - (tm * ec)))), (8, .long (zL tm)), (7, .int (nI t)), (5, .long (zL ey)), (3, .long (zL ex)), (0, .ref (am))]) hx hb d_Ms_gather_147 hl (by decide) rfl (fun ls hl => ?_)
                refine lv_aload_n hx hb d_Ms_gather_149 rfl (lv_at hl 5 rfl) ?_
                refine ob_get S hI hM (C := R_Ms) (T := F_Ms) (N := 9) (ref := "WallFractions$Measure") rfl i_Ms 6 (by decide) rfl w_106 rfl d_Ms_gather_150 ?_
                refine lv_lload hx hb d_Ms_gather_153 (lv_at hl 1 rfl) ?_
                refine lv_aload_n hx hb d_Ms_gather_155 rfl (lv_at hl 5 rfl) ?_
                refine ob_get S hI hM (C := R_Ms) (T := F_Ms) (N := 9) (ref := "WallFractions$Measure") rfl i_Ms 8 (by decide) rfl w_108 rfl d_Ms_gather_156 ?_
                refine lv_lmul hx hb d_Ms_gather_159 ?_
                refine hw_tl (zL_mul tm ed) ?_
                refine lv_lsub hx hb d_Ms_gather_160 ?_
                refine hw_tl (zL_sub eb (tm * ed)) ?_
                refine lv_lstore (lv' := [(12, .long (zL (eb - (tm * ed)))), (10, .long (zL (ea - (tm * ec)))), (8, .long (zL tm)), (7, .int (nI t)), (5, .long (zL ey)), (3, .long (zL ex)), (0, .ref (am))]) hx hb d_Ms_gather_161 hl (by decide) rfl (fun ls hl => ?_)
                refine lv_lload hx hb d_Ms_gather_163 (lv_at hl 1 rfl) ?_
                refine hw_cS (As := [.long (zL (ea - (tm * ec)))]) (rest := []) S hI m_Mt_abs w_457 (c_Mt_abs l D t0 L _ _ (ea - tm * ec) (by omega) (by omega)) hl.1 rfl rfl (Nat.le_of_ble_eq_true rfl) d_Ms_gather_165 ⟨Nat.le_of_ble_eq_true rfl, Nat.le_of_ble_eq_true rfl⟩ ⟨Nat.le_of_ble_eq_true rfl, Nat.le_of_ble_eq_true rfl⟩ (fun v9 L9 f10 H locs hp hI => ?_)
                refine W.cs (cells' := 0) (slots' := 0) rfl rfl ?_
                obtain ⟨hv9, rfl, rfl⟩ := hp
                cases hv9
                refine hw_stk (st' := [.long (lN (ea - tm * ec).natAbs)]) rfl ?_
                refine hw_ldc2 (v := lN nB) hx hb hown (hT _ w_456) d_Ms_gather_168 ?_
                refine hw_l_gt (tgt := 240) hx hb d_Ms_gather_171 d_Ms_gather_172 (by decide) (fun c11 => ?_) (fun c11 => ?_)
                · exact hw_vret hx hb hr hlocks hI d_Ms_gather_240 ⟨rfl, rfl, ⟨ea, eb, ec, ed, hM, hLe.fin.1, hLe.fin.2⟩, hF⟩
                · have r1 : (ea - tm * ec).natAbs ≤ nB := (pk_lLE (by omega) (by omega)).mp c11
                  refine lv_lload hx hb d_Ms_gather_175 (lv_at hl 0 rfl) ?_
                  refine hw_cS (As := [.long (zL (eb - (tm * ed)))]) (rest := []) S hI m_Mt_abs w_457 (c_Mt_abs l D t0 L _ _ (eb - tm * ed) (by omega) (by omega)) hl.1 rfl rfl (Nat.le_of_ble_eq_true rfl) d_Ms_gather_177 ⟨Nat.le_of_ble_eq_true rfl, Nat.le_of_ble_eq_true rfl⟩ ⟨Nat.le_of_ble_eq_true rfl, Nat.le_of_ble_eq_true rfl⟩ (fun v9 L9 f12 H locs hp hI => ?_)
                  refine W.cs (cells' := 0) (slots' := 0) rfl rfl ?_
                  obtain ⟨hv9, rfl, rfl⟩ := hp
                  cases hv9
                  refine hw_stk (st' := [.long (lN (eb - tm * ed).natAbs)]) rfl ?_
                  refine hw_ldc2 (v := lN nB) hx hb hown (hT _ w_456) d_Ms_gather_180 ?_
                  refine hw_l_le (tgt := 190) hx hb d_Ms_gather_183 d_Ms_gather_184 (by decide) (fun c13 => ?_) (fun c13 => ?_)
                  · have r2 : (eb - tm * ed).natAbs ≤ nB := (pk_lLE (by omega) (by omega)).mp c13
                    have hS := hLe.step hU0 y1 y2 htm (hmn ▸ htn) (by omega) (by omega) (by omega) (by omega)
                    refine lv_aload_n hx hb d_Ms_gather_190 rfl (lv_at hl 6 rfl) ?_
                    refine lv_aload_n hx hb d_Ms_gather_191 rfl (lv_at hl 6 rfl) ?_
                    refine ob_get S hI hM (C := R_Ms) (T := F_Ms) (N := 9) (ref := "WallFractions$Measure") rfl i_Ms 7 (by decide) rfl w_107 rfl d_Ms_gather_192 ?_
                    refine ob_put S hI hM (fs' := [.ref (ad), .ref (o mq), .ref (o G), .ref (o Ls), .ref (o Rs), .long (zL ec), .long (zL eb), .long (zL ec), .long (zL ed)]) (C := R_Ms) (T := F_Ms) (N := 9) (ref := "WallFractions$Measure") rfl i_Ms t_Ms t_Ms_ok n_Ms 5 (by decide) rfl w_105 rfl rfl rfl (by simp only [List.length]; decide) rfl d_Ms_gather_195 (fun f14 H locs hI hM hf14 => ?_)
                    have hF := fun q (h1 : q ≠ am) => (hf14 q h1).trans (hF q h1)
                    refine lv_aload_n hx hb d_Ms_gather_198 rfl (lv_at hl 6 rfl) ?_
                    refine lv_aload_n hx hb d_Ms_gather_199 rfl (lv_at hl 6 rfl) ?_
                    refine ob_get S hI hM (C := R_Ms) (T := F_Ms) (N := 9) (ref := "WallFractions$Measure") rfl i_Ms 8 (by decide) rfl w_108 rfl d_Ms_gather_200 ?_
                    refine ob_put S hI hM (fs' := [.ref (ad), .ref (o mq), .ref (o G), .ref (o Ls), .ref (o Rs), .long (zL ec), .long (zL ed), .long (zL ec), .long (zL ed)]) (C := R_Ms) (T := F_Ms) (N := 9) (ref := "WallFractions$Measure") rfl i_Ms t_Ms t_Ms_ok n_Ms 6 (by decide) rfl w_106 rfl rfl rfl (by simp only [List.length]; decide) rfl d_Ms_gather_203 (fun f15 H locs hI hM hf15 => ?_)
                    have hF := fun q (h1 : q ≠ am) => (hf15 q h1).trans (hF q h1)
                    refine lv_aload_n hx hb d_Ms_gather_206 rfl (lv_at hl 6 rfl) ?_
                    refine lv_lload hx hb d_Ms_gather_207 (lv_at hl 1 rfl) ?_
                    refine ob_put S hI hM (fs' := [.ref (ad), .ref (o mq), .ref (o G), .ref (o Ls), .ref (o Rs), .long (zL ec), .long (zL ed), .long (zL (ea - (tm * ec))), .long (zL ed)]) (C := R_Ms) (T := F_Ms) (N := 9) (ref := "WallFractions$Measure") rfl i_Ms t_Ms t_Ms_ok n_Ms 7 (by decide) rfl w_107 rfl rfl rfl (by simp only [List.length]; decide) rfl d_Ms_gather_209 (fun f16 H locs hI hM hf16 => ?_)
                    have hF := fun q (h1 : q ≠ am) => (hf16 q h1).trans (hF q h1)
                    refine lv_aload_n hx hb d_Ms_gather_212 rfl (lv_at hl 6 rfl) ?_
                    refine lv_lload hx hb d_Ms_gather_213 (lv_at hl 0 rfl) ?_
                    refine ob_put S hI hM (fs' := [.ref (ad), .ref (o mq), .ref (o G), .ref (o Ls), .ref (o Rs), .long (zL ec), .long (zL ed), .long (zL (ea - (tm * ec))), .long (zL (eb - (tm * ed)))]) (C := R_Ms) (T := F_Ms) (N := 9) (ref := "WallFractions$Measure") rfl i_Ms t_Ms t_Ms_ok n_Ms 8 (by decide) rfl w_108 rfl rfl rfl (by simp only [List.length]; decide) rfl d_Ms_gather_215 (fun f17 H locs hI hM hf17 => ?_)
                    have hF := fun q (h1 : q ≠ am) => (hf17 q h1).trans (hF q h1)
                    refine lv_lload_n hx hb d_Ms_gather_218 rfl (lv_at hl 5 rfl) ?_
                    refine lv_lload hx hb d_Ms_gather_219 (lv_at hl 2 rfl) ?_
                    refine lv_lload hx hb d_Ms_gather_221 (lv_at hl 4 rfl) ?_
                    refine lv_lmul hx hb d_Ms_gather_223 ?_
                    refine hw_tl (zL_mul tm ey) ?_
                    refine lv_lsub hx hb d_Ms_gather_224 ?_
                    refine hw_tl (zL_sub ex (tm * ey)) ?_
                    refine lv_lstore (lv' := [(14, .long (zL (ex - (tm * ey)))), (12, .long (zL (eb - (tm * ed)))), (10, .long (zL (ea - (tm * ec)))), (8, .long (zL tm)), (7, .int (nI t)), (5, .long (zL ey)), (3, .long (zL ex)), (0, .ref (am))]) hx hb d_Ms_gather_225 hl (by decide) rfl (fun ls hl => ?_)
                    refine lv_lload hx hb d_Ms_gather_227 (lv_at hl 5 rfl) ?_
                    refine lv_lstore_n (lv' := [(3, .long (zL ey)), (14, .long (zL (ex - (tm * ey)))), (12, .long (zL (eb - (tm * ed)))), (10, .long (zL (ea - (tm * ec)))), (8, .long (zL tm)), (7, .int (nI t)), (5, .long (zL ey)), (0, .ref (am))]) hx hb d_Ms_gather_229 rfl hl (by decide) rfl (fun ls hl => ?_)
                    refine lv_lload hx hb d_Ms_gather_230 (lv_at hl 1 rfl) ?_
                    refine lv_lstore (lv' := [(5, .long (zL (ex - (tm * ey)))), (3, .long (zL ey)), (14, .long (zL (ex - (tm * ey)))), (12, .long (zL (eb - (tm * ed)))), (10, .long (zL (ea - (tm * ec)))), (8, .long (zL tm)), (7, .int (nI t)), (0, .ref (am))]) hx hb d_Ms_gather_232 hl (by decide) rfl (fun ls hl => ?_)
                    refine lv_iinc (v := nI (t + 1)) (lv' := [(7, .int (nI (t + 1))), (5, .long (zL (ex - (tm * ey)))), (3, .long (zL ey)), (14, .long (zL (ex - (tm * ey)))), (12, .long (zL (eb - (tm * ed)))), (10, .long (zL (ea - (tm * ec)))), (8, .long (zL tm)), (0, .ref (am))]) hx hb d_Ms_gather_234 hl (k := 6) rfl (nI_1 _) (by decide) rfl (fun ls hl => ?_)
                    refine lv_goto (tgt := 56) hx hb d_Ms_gather_237 (by decide) ?_
                    exact ih (t + 1) _ _ _ _ _ _ _ _ _ _ (by omega) hS hM hF hI (lv_sub hl [0, 1, 2, 7] rfl)
                  · refine lv_goto (tgt := 240) hx hb d_Ms_gather_187 (by decide) ?_
                    exact hw_vret hx hb hr hlocks hI d_Ms_gather_240 ⟨rfl, rfl, ⟨ea, eb, ec, ed, hM, hLe.fin.1, hLe.fin.2⟩, hF⟩
              · refine lv_goto (tgt := 240) hx hb d_Ms_gather_132 (by decide) ?_
                exact hw_vret hx hb hr hlocks hI d_Ms_gather_240 ⟨rfl, rfl, ⟨ea, eb, ec, ed, hM, hLe.fin.1, hLe.fin.2⟩, hF⟩
  refine lv_lstore (lv' := [(5, .long (lN (x Ls / U))), (3, .long (lN (x G / U))), (1, .long (lN tT)), (0, .ref (am))]) hx hb d_Ms_gather_31 hl (by decide) rfl (fun ls hl => ?_)
  refine lv_aload_n hx hb d_Ms_gather_33 rfl (lv_at hl 3 rfl) ?_
  refine lv_lconst (v := lN 1) hx hb d_Ms_gather_34 rfl ?_
  refine ob_put S hI hM (fs' := [.ref (ad), .ref (o mq), .ref (o G), .ref (o Ls), .ref (o Rs), .long (lN 1), .long (zL eb), .long (zL ec), .long (zL ed)]) (C := R_Ms) (T := F_Ms) (N := 9) (ref := "WallFractions$Measure") rfl i_Ms t_Ms t_Ms_ok n_Ms 5 (by decide) rfl w_105 rfl rfl rfl (by simp only [List.length]; decide) rfl d_Ms_gather_35 (fun f18 H locs hI hM hf18 => ?_)
  have hF := fun q (h1 : q ≠ am) => (hf18 q h1).trans (hF q h1)
  refine lv_aload_n hx hb d_Ms_gather_38 rfl (lv_at hl 3 rfl) ?_
  refine lv_lconst (v := lN 0) hx hb d_Ms_gather_39 rfl ?_
  refine ob_put S hI hM (fs' := [.ref (ad), .ref (o mq), .ref (o G), .ref (o Ls), .ref (o Rs), .long (lN 1), .long (lN 0), .long (zL ec), .long (zL ed)]) (C := R_Ms) (T := F_Ms) (N := 9) (ref := "WallFractions$Measure") rfl i_Ms t_Ms t_Ms_ok n_Ms 6 (by decide) rfl w_106 rfl rfl rfl (by simp only [List.length]; decide) rfl d_Ms_gather_40 (fun f19 H locs hI hM hf19 => ?_)
  have hF := fun q (h1 : q ≠ am) => (hf19 q h1).trans (hF q h1)
  refine lv_aload_n hx hb d_Ms_gather_43 rfl (lv_at hl 3 rfl) ?_
  refine lv_lconst (v := lN 0) hx hb d_Ms_gather_44 rfl ?_
  refine ob_put S hI hM (fs' := [.ref (ad), .ref (o mq), .ref (o G), .ref (o Ls), .ref (o Rs), .long (lN 1), .long (lN 0), .long (lN 0), .long (zL ed)]) (C := R_Ms) (T := F_Ms) (N := 9) (ref := "WallFractions$Measure") rfl i_Ms t_Ms t_Ms_ok n_Ms 7 (by decide) rfl w_107 rfl rfl rfl (by simp only [List.length]; decide) rfl d_Ms_gather_45 (fun f20 H locs hI hM hf20 => ?_)
  have hF := fun q (h1 : q ≠ am) => (hf20 q h1).trans (hF q h1)
  refine lv_aload_n hx hb d_Ms_gather_48 rfl (lv_at hl 3 rfl) ?_
  refine lv_lconst (v := lN 1) hx hb d_Ms_gather_49 rfl ?_
  refine ob_put S hI hM (fs' := [.ref (ad), .ref (o mq), .ref (o G), .ref (o Ls), .ref (o Rs), .long (lN 1), .long (lN 0), .long (lN 0), .long (lN 1)]) (C := R_Ms) (T := F_Ms) (N := 9) (ref := "WallFractions$Measure") rfl i_Ms t_Ms t_Ms_ok n_Ms 8 (by decide) rfl w_108 rfl rfl rfl (by simp only [List.length]; decide) rfl d_Ms_gather_50 (fun f21 H locs hI hM hf21 => ?_)
  have hF := fun q (h1 : q ≠ am) => (hf21 q h1).trans (hF q h1)
  refine lv_iconst (v := nI 0) hx hb d_Ms_gather_53 (by decide) ?_
  refine lv_istore (lv' := [(7, .int (nI 0)), (5, .long (lN (x Ls / U))), (3, .long (lN (x G / U))), (1, .long (lN tT)), (0, .ref (am))]) hx hb d_Ms_gather_54 hl (by decide) rfl (fun ls hl => ?_)
  exact loop 100000 0 _ _ _ _ _ _ _ _ _ _ (by omega) (le_start hle) hM hF hI (lv_sub hl [0, 1, 2, 4] rfl)
end
section
theorem up2_G {α : Type} {v : Nat → α} {G K : Nat} {a b c : α} (h : G ≠ K) : va_up (va_up (va_up v G a) K b) G c = va_up (va_up v G c) K b := by
  funext z
  simp only [va_up]
  by_cases e1 : z = G
  · rw [if_pos e1, e1, if_neg h, if_pos rfl]
  · rw [if_neg e1, if_neg e1, if_neg e1]
theorem up_id {α β : Type} {v : Nat → α × β} {G : Nat} : va_up v G ((v G).1, (v G).2) = v := by
  funext z
  simp only [va_up]
  by_cases e1 : z = G
  · rw [if_pos e1, e1]
  · rw [if_neg e1]
theorem up_id2 {α β : Type} {v : Nat → α × β} {G K : Nat} : va_up (va_up v G ((v G).1, (v G).2)) K ((v K).1, (v K).2) = v := by
  rw [up_id, up_id]
set_option maxHeartbeats 4000000 in
set_option maxRecDepth 100000 in
theorem c_Ms_catchUp (l : Launch) (D : va_G) (t0 : Nat) (L : List Nat) (f : Nat → va_E) (sz : Nat) (o r : Nat → Nat) (N : Nat) (am ad mq G Ls Rs : Nat) (ea eb ec ed : Int) (x : Nat → Nat) (P Q : Nat) (hY : Lay o r N) (hM : hw_c L f am (.inr (2, [.ref ad, .ref (o mq), .ref (o G), .ref (o Ls), .ref (o Rs), .long (zL ea), .long (zL eb), .long (zL ec), .long (zL ed)]))) (hN : AllN D L f o r N x) (hG : G < N) (hLs : Ls < N) (hGL : G ≠ Ls) (hle : x Ls ≤ x G) (hB : le_b ea eb ec ed) (hP : (P : Int) = ea * x G + eb * x Ls) (hQ : (Q : Int) = ec * x G + ed * x Ls) (hQP : Q < P) (hPX : P ≤ x G) : Met l y_Ms_catchUp (Cond.code y_Ms_catchUp b_Ms_catchUp 15 none :: TT) ({ frames := 6, cells := 0, slots := 0, locals := 110 } : Room) (hw_Pc t0 [.ref (am)] D L f sz) (hw_Q D L sz (fun oc L' f' => oc = .returned none ∧ L = L' ∧ AllN D L f' o r N (va_up (va_up x G P) Ls Q) ∧ ∀ q, q ≠ o G → q ≠ r G → q ≠ o Ls → q ≠ r Ls → f' q = f q)) 0 0 (hw_A L sz) := by
  refine Met.ofW (cc := b_Ms_catchUp) (maxL := 15) (ret := none) (by decide) rfl ?_
  intro p e s m args below meth c s₁ B hml hv
  obtain ⟨rfl, rfl, hI⟩ := hw_start hv
  clear hv
  have hx := B.exec
  have hb := B.bytes
  have hr := B.returns
  have hlocks := B.notSynchronized
  have hown : s.vm.findClass "WallFractions$Measure" = some m.cls := findClass_of_methodNamed B.named
  have hT : ∀ w ∈ TT, w.before ([.ref (am)]).toArray s = true := fun w h => atoms_spec (ws := (Cond.code y_Ms_catchUp b_Ms_catchUp 15 none :: TT)) B.pre w (List.mem_cons_of_mem _ h)
  have S : CallFix p m c b_Ms_catchUp 15 s ([.ref (am)]).toArray TT "WallFractions$Measure" := ⟨hx, hb, hml, hown, hT⟩
  have hl := lv_entry ([.ref (am)]) (n := 15) (Nat.le_of_ble_eq_true rfl)
  rw [lg_entry_eq]
  generalize (lg_sl ([.ref (am)]) ++ List.replicate (15 - (lg_sl ([.ref (am)])).length) Slot.unset).toArray = ls at hl ⊢
  have hl : lv_has ls 15 [(0, .ref (am))] := hl
  skip
  obtain ⟨v, hV, hO⟩ := hN
  have hnB : nB = 1000000000 := rfl
  have h41 := (hO G hG).1
  have h41L := (hO Ls hLs).1
  have hxG := (hO G hG).2.lt
  obtain ⟨b1, b2, b3, b4, b5, b6, b7, b8⟩ := hB
  rw [hnB] at b1 b2 b3 b4 b5 b6 b7 b8
  have hLG : (v Ls).1 ≤ (v G).1 := ((hO Ls hLs).2.size_le nB1).mpr (by omega)
  obtain ⟨s9, hs9⟩ : ∃ s9, s9 = (v G).1 := ⟨_, rfl⟩
  rw [← hs9] at h41 hxG hLG
  have hMr : ∀ z, z < N → am ≠ r z := fun z hz e9 => hw_ne (hV z hz).2 hM e9.symm
  have hMo : ∀ z, z < N → am ≠ o z := fun z hz => hM.ne (hV z hz).1 (fun e9 => by cases e9)
  have loop : ∀ (g t : Nat) (cg cl : Int) (h1 h2 : Nat → Nat) (f1 : Nat → va_E) (H : Heap) (locs : List Loc) (ls : Array Slot), t + g = s9 → -2000000000 ≤ cg ∧ cg ≤ 2000000000 → -2000000000 ≤ cl ∧ cl ≤ 2000000000 → (∀ q, h1 q < nB) → (∀ q, h2 q < nB) → (∀ q, t ≤ q → h1 q = (v G).2 q) → (∀ q, t ≤ q → h2 q = (v Ls).2 q) → (nvb nB h1 t : Int) + cg * (nB : Int) ^ t = ea * (nvb nB (v G).2 t : Int) + eb * (nvb nB (padl (v Ls)) t : Int) → (nvb nB h2 t : Int) + cl * (nB : Int) ^ t = ec * (nvb nB (v G).2 t : Int) + ed * (nvb nB (padl (v Ls)) t : Int) → AllW D L f1 o r N (va_up (va_up v G ((v G).1, h1)) Ls ((v Ls).1, h2)) → hw_c L f1 am (.inr (2, [.ref ad, .ref (o mq), .ref (o G), .ref (o Ls), .ref (o Rs), .long (zL ea), .long (zL eb), .long (zL ec), .long (zL ed)])) → (∀ q, q ≠ r G → q ≠ r Ls → f1 q = f q) → hw_I D t0 (hw_A L s.heap.size) s L f1 H locs → lv_has ls 15 [(6, .int (nI t)), (4, .long (zL cl)), (2, .long (zL cg)), (1, .int (nI s9)), (0, .ref (am))] → W p l e (headSpec (Cond.code y_Ms_catchUp b_Ms_catchUp 15 none :: TT) ({ frames := 6, cells := 0, slots := 0, locals := 110 } : Room)).room s m ([.ref (am)]).toArray below meth c H locs 0 0 (MQ below (hw_Q D L s.heap.size (fun oc L' f' => oc = .returned none ∧ L = L' ∧ AllN D L f' o r N (va_up (va_up x G P) Ls Q) ∧ ∀ q, q ≠ o G → q ≠ r G → q ≠ o Ls → q ≠ r Ls → f' q = f q)) ([.ref (am)]).toArray s 0 0 (hw_A L s.heap.size)) (F0 m 16 ls []) := by
    intro g
    induction g with
    | zero =>
      intro t cg cl h1 h2 f1 H locs ls htg hcg hcl hB1 hB2 hh1 hh2 hS1 hS2 hV hM hF hI hl
      refine lv_iload hx hb d_Ms_catchUp_16 (lv_at hl 0 rfl) ?_
      refine lv_iload_n hx hb d_Ms_catchUp_18 rfl (lv_at hl 3 rfl) ?_
      refine hw_icmp_ge (tgt := 146) hx hb d_Ms_catchUp_19 (by decide) (by omega) (by omega) (fun c1 => ?_) (fun c1 => ?_)
      · have hts : t = s9 := by omega
        subst hts
        have eL := nvb_padl (b := nB) hLG
        have eG := (hO G hG).2.2.2
        rw [(hO Ls hLs).2.2.2] at eL
        rw [← hs9] at eG
        rw [eG, eL, ← hP] at hS1
        rw [eG, eL, ← hQ] at hS2
        have n1 : nvb nB h1 t = P := cu_end (n := 0) hB1 hS1 (by omega)
        have n2 : nvb nB h2 t = Q := cu_end (n := 0) hB2 hS2 (by omega)
        refine lv_aload_n hx hb d_Ms_catchUp_146 rfl (lv_at hl 4 rfl) ?_
        refine ob_get S hI hM (C := R_Ms) (T := F_Ms) (N := 9) (ref := "WallFractions$Measure") rfl i_Ms 2 (by decide) rfl w_102 rfl d_Ms_catchUp_147 ?_
        refine lv_iload_n hx hb d_Ms_catchUp_150 rfl (lv_at hl 3 rfl) ?_
        refine hw_cVN (As := [.int (nI t)]) (rest := []) S hI m_Wh_settle (by decide +kernel) (c_Wh_settle l D t0 L _ _ o r N (va_up (va_up v G ((v G).1, h1)) Ls ((v Ls).1, h2)) G t hG hY hV (by omega) (by rw [hw_up_ne hGL, hw_up_eq]; exact hB1)) (hV _ hG).1 rfl hl.1 rfl rfl (Nat.le_of_ble_eq_true rfl) d_Ms_catchUp_151 ⟨Nat.le_of_ble_eq_true rfl, Nat.le_of_ble_eq_true rfl⟩ ⟨Nat.le_of_ble_eq_true rfl, Nat.le_of_ble_eq_true rfl⟩ (fun v9 L9 f2 H locs hp hI => ?_)
        refine W.cs (cells' := 0) (slots' := 0) rfl rfl ?_
        obtain ⟨hv9, rfl, n9, hn9, hk9, hV, hf9⟩ := hp
        cases hv9
        refine hw_stk (st' := []) rfl ?_
        rw [hw_up_ne hGL, hw_up_eq] at hk9 hV
        rw [up2_G hGL] at hV
        have hM := hM.fr (hf9 _ (hMo G hG))
        refine lv_aload_n hx hb d_Ms_catchUp_154 rfl (lv_at hl 4 rfl) ?_
        refine ob_get S hI hM (C := R_Ms) (T := F_Ms) (N := 9) (ref := "WallFractions$Measure") rfl i_Ms 3 (by decide) rfl w_103 rfl d_Ms_catchUp_155 ?_
        refine lv_iload_n hx hb d_Ms_catchUp_158 rfl (lv_at hl 3 rfl) ?_
        refine hw_cVN (As := [.int (nI t)]) (rest := []) S hI m_Wh_settle (by decide +kernel) (c_Wh_settle l D t0 L _ _ o r N (va_up (va_up v G (n9, h1)) Ls ((v Ls).1, h2)) Ls t hLs hY hV (by omega) (by rw [hw_up_eq]; exact hB2)) (hV _ hLs).1 rfl hl.1 rfl rfl (Nat.le_of_ble_eq_true rfl) d_Ms_catchUp_159 ⟨Nat.le_of_ble_eq_true rfl, Nat.le_of_ble_eq_true rfl⟩ ⟨Nat.le_of_ble_eq_true rfl, Nat.le_of_ble_eq_true rfl⟩ (fun v9 L9 f3 H locs hp hI => ?_)
        refine W.cs (cells' := 0) (slots' := 0) rfl rfl ?_
        obtain ⟨hv9, rfl, n8, hn8, hk8, hV, hf8⟩ := hp
        cases hv9
        refine hw_stk (st' := []) rfl ?_
        rw [hw_up_eq] at hk8 hV
        rw [bx_uu] at hV
        have hk9 : nOk nB n9 h1 (nvb nB h1 t) := hk9
        have hk8 : nOk nB n8 h2 (nvb nB h2 t) := hk8
        rw [n1] at hk9
        rw [n2] at hk8
        exact hw_vret hx hb hr hlocks hI d_Ms_catchUp_162 ⟨rfl, rfl, AllN.mk (upO hO (by omega) hk9) hV (by omega) hk8, fun q q1 q2 q3 q4 => (hf8 q q3).trans ((hf9 q q1).trans (hF q q2 q4))⟩
      · exact absurd c1 (by omega)
    | succ g ih =>
      intro t cg cl h1 h2 f1 H locs ls htg hcg hcl hB1 hB2 hh1 hh2 hS1 hS2 hV hM hF hI hl
      refine lv_iload hx hb d_Ms_catchUp_16 (lv_at hl 0 rfl) ?_
      refine lv_iload_n hx hb d_Ms_catchUp_18 rfl (lv_at hl 3 rfl) ?_
      refine hw_icmp_ge (tgt := 146) hx hb d_Ms_catchUp_19 (by decide) (by omega) (by omega) (fun c4 => ?_) (fun c4 => ?_)
      · exact absurd c4 (by omega)
      · refine lv_aload_n hx hb d_Ms_catchUp_22 rfl (lv_at hl 4 rfl) ?_
        refine ob_get S hI hM (C := R_Ms) (T := F_Ms) (N := 9) (ref := "WallFractions$Measure") rfl i_Ms 2 (by decide) rfl w_102 rfl d_Ms_catchUp_23 ?_
        refine wh_limbsN S hI hV hG (by decide) d_Ms_catchUp_26 ?_
        refine lv_iload hx hb d_Ms_catchUp_29 (lv_at hl 0 rfl) ?_
        refine wh_ld S hI hV hG (by omega) d_Ms_catchUp_31 ?_
        refine hw_tl (show _ = lN ((v G).2 t) from by rw [hw_up_ne hGL, hw_up_eq]; dsimp only; rw [hh1 t (Nat.le_refl _)]) ?_
        refine lv_lstore (lv' := [(7, .long (lN ((v G).2 t))), (6, .int (nI t)), (4, .long (zL cl)), (2, .long (zL cg)), (1, .int (nI s9)), (0, .ref (am))]) hx hb d_Ms_catchUp_32 hl (by decide) rfl (fun ls hl => ?_)
        refine lv_aload_n hx hb d_Ms_catchUp_34 rfl (lv_at hl 5 rfl) ?_
        refine ob_get S hI hM (C := R_Ms) (T := F_Ms) (N := 9) (ref := "WallFractions$Measure") rfl i_Ms 3 (by decide) rfl w_103 rfl d_Ms_catchUp_35 ?_
        refine lv_iload hx hb d_Ms_catchUp_38 (lv_at hl 1 rfl) ?_
        refine hw_cVN (As := [.int (nI t)]) (rest := []) S hI m_Wh_limbAt (by decide +kernel) (c_Wh_limbAt l D t0 L _ _ o r N (va_up (va_up v G ((v G).1, h1)) Ls ((v Ls).1, h2)) Ls t hLs hY hV (by omega) (by rw [hw_up_eq]; exact h41L)) (hV _ hLs).1 rfl hl.1 rfl rfl (Nat.le_of_ble_eq_true rfl) d_Ms_catchUp_40 ⟨Nat.le_of_ble_eq_true rfl, Nat.le_of_ble_eq_true rfl⟩ ⟨Nat.le_of_ble_eq_true rfl, Nat.le_of_ble_eq_true rfl⟩ (fun v9 L9 f5 H locs hp hI => ?_)
        refine W.cs (cells' := 0) (slots' := 0) rfl rfl ?_
        obtain ⟨hv9, rfl, rfl⟩ := hp
        cases hv9
        refine hw_stk (st' := [.long (lN (padl ((va_up (va_up v G ((v G).1, h1)) Ls ((v Ls).1, h2)) Ls) t))]) rfl ?_
        refine hw_tl (show _ = lN (padl (v Ls) t) from by rw [hw_up_eq]; unfold padl; dsimp only; rw [hh2 t (Nat.le_refl _)]) ?_
        have xB : (v G).2 t < nB := (hO G hG).2.1 t
        have yB : padl (v Ls) t < nB := padl_lt nB_pos (hO Ls hLs).2.1 t
        obtain ⟨sg, hsg⟩ : ∃ sg, sg = ea * (((v G).2 t : Nat) : Int) + eb * ((padl (v Ls) t : Nat) : Int) + cg := ⟨_, rfl⟩
        obtain ⟨sl, hsl⟩ : ∃ sl, sl = ec * (((v G).2 t : Nat) : Int) + ed * ((padl (v Ls) t : Nat) : Int) + cl := ⟨_, rfl⟩
        have rg := cu_rng ⟨b1, b2⟩ ⟨b3, b4⟩ xB yB hcg
        have rl := cu_rng ⟨b5, b6⟩ ⟨b7, b8⟩ xB yB hcl
        rw [← hsg] at rg
        rw [← hsl] at rl
        obtain ⟨d1, hd1, he1⟩ := cu_dig sg
        obtain ⟨d2, hd2, he2⟩ := cu_dig sl
        refine lv_lstore (lv' := [(9, .long (lN (padl (v Ls) t))), (7, .long (lN ((v G).2 t))), (6, .int (nI t)), (4, .long (zL cl)), (2, .long (zL cg)), (1, .int (nI s9)), (0, .ref (am))]) hx hb d_Ms_catchUp_43 hl (by decide) rfl (fun ls hl => ?_)
        refine lv_aload_n hx hb d_Ms_catchUp_45 rfl (lv_at hl 6 rfl) ?_
        refine ob_get S hI hM (C := R_Ms) (T := F_Ms) (N := 9) (ref := "WallFractions$Measure") rfl i_Ms 5 (by decide) rfl w_105 rfl d_Ms_catchUp_46 ?_
        refine lv_lload hx hb d_Ms_catchUp_49 (lv_at hl 1 rfl) ?_
        refine lv_lmul hx hb d_Ms_catchUp_51 ?_
        refine hw_tl (zL_mul ea (((v G).2 t : Nat) : Int)) ?_
        refine lv_aload_n hx hb d_Ms_catchUp_52 rfl (lv_at hl 6 rfl) ?_
        refine ob_get S hI hM (C := R_Ms) (T := F_Ms) (N := 9) (ref := "WallFractions$Measure") rfl i_Ms 6 (by decide) rfl w_106 rfl d_Ms_catchUp_53 ?_
        refine lv_lload hx hb d_Ms_catchUp_56 (lv_at hl 0 rfl) ?_
        refine lv_lmul hx hb d_Ms_catchUp_58 ?_
        refine hw_tl (zL_mul eb ((padl (v Ls) t : Nat) : Int)) ?_
        refine lv_ladd hx hb d_Ms_catchUp_59 ?_
        refine hw_tl (zL_add (ea * (((v G).2 t : Nat) : Int)) (eb * ((padl (v Ls) t : Nat) : Int))) ?_
        refine lv_lload_n hx hb d_Ms_catchUp_60 rfl (lv_at hl 4 rfl) ?_
        refine lv_ladd hx hb d_Ms_catchUp_61 ?_
        refine hw_tl (zL_add ((ea * (((v G).2 t : Nat) : Int)) + (eb * ((padl (v Ls) t : Nat) : Int))) cg) ?_
        refine hw_tl (show _ = zL sg from by rw [hsg]) ?_
        refine lv_lstore (lv' := [(11, .long (zL sg)), (9, .long (lN (padl (v Ls) t))), (7, .long (lN ((v G).2 t))), (6, .int (nI t)), (4, .long (zL cl)), (2, .long (zL cg)), (1, .int (nI s9)), (0, .ref (am))]) hx hb d_Ms_catchUp_62 hl (by decide) rfl (fun ls hl => ?_)
        refine lv_aload_n hx hb d_Ms_catchUp_64 rfl (lv_at hl 7 rfl) ?_
        refine ob_get S hI hM (C := R_Ms) (T := F_Ms) (N := 9) (ref := "WallFractions$Measure") rfl i_Ms 7 (by decide) rfl w_107 rfl d_Ms_catchUp_65 ?_
        refine lv_lload hx hb d_Ms_catchUp_68 (lv_at hl 2 rfl) ?_
        refine lv_lmul hx hb d_Ms_catchUp_70 ?_
        refine hw_tl (zL_mul ec (((v G).2 t : Nat) : Int)) ?_
        refine lv_aload_n hx hb d_Ms_catchUp_71 rfl (lv_at hl 7 rfl) ?_
        refine ob_get S hI hM (C := R_Ms) (T := F_Ms) (N := 9) (ref := "WallFractions$Measure") rfl i_Ms 8 (by decide) rfl w_108 rfl d_Ms_catchUp_72 ?_
        refine lv_lload hx hb d_Ms_catchUp_75 (lv_at hl 1 rfl) ?_
        refine lv_lmul hx hb d_Ms_catchUp_77 ?_
        refine hw_tl (zL_mul ed ((padl (v Ls) t : Nat) : Int)) ?_
        refine lv_ladd hx hb d_Ms_catchUp_78 ?_
        refine hw_tl (zL_add (ec * (((v G).2 t : Nat) : Int)) (ed * ((padl (v Ls) t : Nat) : Int))) ?_
        refine lv_lload hx hb d_Ms_catchUp_79 (lv_at hl 4 rfl) ?_
        refine lv_ladd hx hb d_Ms_catchUp_81 ?_
        refine hw_tl (zL_add ((ec * (((v G).2 t : Nat) : Int)) + (ed * ((padl (v Ls) t : Nat) : Int))) cl) ?_
        refine hw_tl (show _ = zL sl from by rw [hsl]) ?_
        refine lv_lstore (lv' := [(13, .long (zL sl)), (11, .long (zL sg)), (9, .long (lN (padl (v Ls) t))), (7, .long (lN ((v G).2 t))), (6, .int (nI t)), (4, .long (zL cl)), (2, .long (zL cg)), (1, .int (nI s9)), (0, .ref (am))]) hx hb d_Ms_catchUp_82 hl (by decide) rfl (fun ls hl => ?_)
        refine lv_lload hx hb d_Ms_catchUp_84 (lv_at hl 1 rfl) ?_
        refine hw_ldc2 (v := zL (nB : Int)) hx hb hown (hT _ w_456) d_Ms_catchUp_86 ?_
        refine hw_cS (As := [.long (zL sg), .long (zL (nB : Int))]) (rest := []) S hI m_Mt_floorDiv w_505 (c_Mt_floorDiv l D t0 L _ _ sg (nB : Int) (by omega) (by omega) (by omega) (by omega)) hl.1 rfl rfl (Nat.le_of_ble_eq_true rfl) d_Ms_catchUp_89 ⟨Nat.le_of_ble_eq_true rfl, Nat.le_of_ble_eq_true rfl⟩ ⟨Nat.le_of_ble_eq_true rfl, Nat.le_of_ble_eq_true rfl⟩ (fun v9 L9 f6 H locs hp hI => ?_)
        refine W.cs (cells' := 0) (slots' := 0) rfl rfl ?_
        obtain ⟨hv9, rfl, rfl⟩ := hp
        cases hv9
        refine hw_stk (st' := [.long (zL (sg / (nB : Int)))]) rfl ?_
        refine lv_lstore_n (lv' := [(2, .long (zL (sg / (nB : Int)))), (13, .long (zL sl)), (11, .long (zL sg)), (9, .long (lN (padl (v Ls) t))), (7, .long (lN ((v G).2 t))), (6, .int (nI t)), (4, .long (zL cl)), (1, .int (nI s9)), (0, .ref (am))]) hx hb d_Ms_catchUp_92 rfl hl (by decide) rfl (fun ls hl => ?_)
        refine lv_lload hx hb d_Ms_catchUp_93 (lv_at hl 1 rfl) ?_
        refine hw_ldc2 (v := zL (nB : Int)) hx hb hown (hT _ w_456) d_Ms_catchUp_95 ?_
        refine hw_cS (As := [.long (zL sl), .long (zL (nB : Int))]) (rest := []) S hI m_Mt_floorDiv w_505 (c_Mt_floorDiv l D t0 L _ _ sl (nB : Int) (by omega) (by omega) (by omega) (by omega)) hl.1 rfl rfl (Nat.le_of_ble_eq_true rfl) d_Ms_catchUp_98 ⟨Nat.le_of_ble_eq_true rfl, Nat.le_of_ble_eq_true rfl⟩ ⟨Nat.le_of_ble_eq_true rfl, Nat.le_of_ble_eq_true rfl⟩ (fun v9 L9 f7 H locs hp hI => ?_)
        refine W.cs (cells' := 0) (slots' := 0) rfl rfl ?_
        obtain ⟨hv9, rfl, rfl⟩ := hp
        cases hv9
        refine hw_stk (st' := [.long (zL (sl / (nB : Int)))]) rfl ?_
        refine lv_lstore (lv' := [(4, .long (zL (sl / (nB : Int)))), (2, .long (zL (sg / (nB : Int)))), (13, .long (zL sl)), (11, .long (zL sg)), (9, .long (lN (padl (v Ls) t))), (7, .long (lN ((v G).2 t))), (6, .int (nI t)), (1, .int (nI s9)), (0, .ref (am))]) hx hb d_Ms_catchUp_101 hl (by decide) rfl (fun ls hl => ?_)
        refine lv_aload_n hx hb d_Ms_catchUp_103 rfl (lv_at hl 8 rfl) ?_
        refine ob_get S hI hM (C := R_Ms) (T := F_Ms) (N := 9) (ref := "WallFractions$Measure") rfl i_Ms 2 (by decide) rfl w_102 rfl d_Ms_catchUp_104 ?_
        refine wh_limbsN S hI hV hG (by decide) d_Ms_catchUp_107 ?_
        refine lv_iload hx hb d_Ms_catchUp_110 (lv_at hl 6 rfl) ?_
        refine lv_lload hx hb d_Ms_catchUp_112 (lv_at hl 3 rfl) ?_
        refine lv_lload_n hx hb d_Ms_catchUp_114 rfl (lv_at hl 1 rfl) ?_
        refine hw_ldc2 (v := zL (nB : Int)) hx hb hown (hT _ w_456) d_Ms_catchUp_115 ?_
        refine lv_lmul hx hb d_Ms_catchUp_118 ?_
        refine hw_tl (zL_mul (sg / (nB : Int)) (nB : Int)) ?_
        refine lv_lsub hx hb d_Ms_catchUp_119 ?_
        refine hw_tl (zL_sub sg ((sg / (nB : Int)) * (nB : Int))) ?_
        refine hw_tl (show _ = lN d1 from by rw [zL_lN, he1]) ?_
        refine wh_st S hI hV hY hG (by omega) d_Ms_catchUp_120 (fun f8 H locs hI hV hf8 => ?_)
        have hV : AllW D L f8 o r N (va_up (va_up v G ((v G).1, va_up h1 t d1)) Ls ((v Ls).1, h2)) := by rw [hw_up_ne hGL, hw_up_eq, up2_G hGL] at hV; exact hV
        have hM := hM.fr (hf8 _ (hMr G hG))
        refine lv_aload_n hx hb d_Ms_catchUp_121 rfl (lv_at hl 8 rfl) ?_
        refine ob_get S hI hM (C := R_Ms) (T := F_Ms) (N := 9) (ref := "WallFractions$Measure") rfl i_Ms 3 (by decide) rfl w_103 rfl d_Ms_catchUp_122 ?_
        refine wh_limbsN S hI hV hLs (by decide) d_Ms_catchUp_125 ?_
        refine lv_iload hx hb d_Ms_catchUp_128 (lv_at hl 6 rfl) ?_
        refine lv_lload hx hb d_Ms_catchUp_130 (lv_at hl 2 rfl) ?_
        refine lv_lload hx hb d_Ms_catchUp_132 (lv_at hl 0 rfl) ?_
        refine hw_ldc2 (v := zL (nB : Int)) hx hb hown (hT _ w_456) d_Ms_catchUp_134 ?_
        refine lv_lmul hx hb d_Ms_catchUp_137 ?_
        refine hw_tl (zL_mul (sl / (nB : Int)) (nB : Int)) ?_
        refine lv_lsub hx hb d_Ms_catchUp_138 ?_
        refine hw_tl (zL_sub sl ((sl / (nB : Int)) * (nB : Int))) ?_
        refine hw_tl (show _ = lN d2 from by rw [zL_lN, he2]) ?_
        refine wh_st S hI hV hY hLs (by omega) d_Ms_catchUp_139 (fun f9 H locs hI hV hf9 => ?_)
        have hV : AllW D L f9 o r N (va_up (va_up v G ((v G).1, va_up h1 t d1)) Ls ((v Ls).1, va_up h2 t d2)) := by rw [hw_up_eq, bx_uu] at hV; exact hV
        have hM := hM.fr (hf9 _ (hMr Ls hLs))
        refine lv_iinc (v := nI (t + 1)) (lv' := [(6, .int (nI (t + 1))), (4, .long (zL (sl / (nB : Int)))), (2, .long (zL (sg / (nB : Int)))), (13, .long (zL sl)), (11, .long (zL sg)), (9, .long (lN (padl (v Ls) t))), (7, .long (lN ((v G).2 t))), (1, .int (nI s9)), (0, .ref (am))]) hx hb d_Ms_catchUp_140 hl (k := 6) rfl (nI_1 _) (by decide) rfl (fun ls hl => ?_)
        refine lv_goto (tgt := 16) hx hb d_Ms_catchUp_143 (by decide) ?_
        have rg2 : -2000000000 ≤ sg / (nB : Int) ∧ sg / (nB : Int) ≤ 2000000000 := rg.2.2
        have rl2 : -2000000000 ≤ sl / (nB : Int) ∧ sl / (nB : Int) ≤ 2000000000 := rl.2.2
        exact ih (t + 1) (sg / (nB : Int)) (sl / (nB : Int)) (va_up h1 t d1) (va_up h2 t d2) _ _ _ _ (by omega) rg2 rl2 (fun q => by by_cases e9 : q = t; (subst e9; rw [hw_up_eq]; omega); (rw [hw_up_ne e9]; exact hB1 q)) (fun q => by by_cases e9 : q = t; (subst e9; rw [hw_up_eq]; omega); (rw [hw_up_ne e9]; exact hB2 q)) (fun q hq => by rw [hw_up_ne (by omega)]; exact hh1 q (by omega)) (fun q hq => by rw [hw_up_ne (by omega)]; exact hh2 q (by omega)) (cu_step hS1 (by rw [← hsg]; omega)) (cu_step hS2 (by rw [← hsl]; omega)) hV hM (fun q q1 q2 => (hf9 q q2).trans ((hf8 q q1).trans (hF q q1 q2))) hI (lv_sub hl [0, 1, 2, 7, 8] rfl)
  refine lv_aload_n hx hb d_Ms_catchUp_0 rfl (lv_at hl 0 rfl) ?_
  refine ob_get S hI hM (C := R_Ms) (T := F_Ms) (N := 9) (ref := "WallFractions$Measure") rfl i_Ms 2 (by decide) rfl w_102 rfl d_Ms_catchUp_1 ?_
  refine wh_sizeN S hI hV hG (by decide) d_Ms_catchUp_4 ?_
  refine hw_ti (show _ = nI s9 from by rw [hs9]) ?_
  refine lv_istore_n (lv' := [(1, .int (nI s9)), (0, .ref (am))]) hx hb d_Ms_catchUp_7 rfl hl (by decide) rfl (fun ls hl => ?_)
  refine lv_lconst (v := lN 0) hx hb d_Ms_catchUp_8 rfl ?_
  refine lv_lstore_n (lv' := [(2, .long (lN 0)), (1, .int (nI s9)), (0, .ref (am))]) hx hb d_Ms_catchUp_9 rfl hl (by decide) rfl (fun ls hl => ?_)
  refine lv_lconst (v := lN 0) hx hb d_Ms_catchUp_10 rfl ?_
  refine lv_lstore (lv' := [(4, .long (lN 0)), (2, .long (lN 0)), (1, .int (nI s9)), (0, .ref (am))]) hx hb d_Ms_catchUp_11 hl (by decide) rfl (fun ls hl => ?_)
  refine lv_iconst (v := nI 0) hx hb d_Ms_catchUp_13 (by decide) ?_
  refine lv_istore (lv' := [(6, .int (nI 0)), (4, .long (lN 0)), (2, .long (lN 0)), (1, .int (nI s9)), (0, .ref (am))]) hx hb d_Ms_catchUp_14 hl (by decide) rfl (fun ls hl => ?_)
  exact loop s9 0 0 0 (v G).2 (v Ls).2 _ _ _ _ (by omega) (by omega) (by omega) (hO G hG).2.1 (hO Ls hLs).2.1 (fun _ _ => rfl) (fun _ _ => rfl) (by simp [nvb_zero]) (by simp [nvb_zero]) (by rw [up_id2]; exact hV) hM (fun _ _ _ => rfl) hI hl
end
section
def Tri (a b c : Nat) : Prop := 39 ≤ a ∧ a ≤ 41 ∧ 39 ≤ b ∧ b ≤ 41 ∧ 39 ≤ c ∧ c ≤ 41 ∧ a ≠ b ∧ a ≠ c ∧ b ≠ c
theorem pw_half {t a b C : Nat} (h : 2 * a ≤ b) (hC : 2 ^ t * b ≤ C) : 2 ^ (t + 1) * a ≤ C := by
  rw [Nat.pow_succ, Nat.mul_assoc]
  exact Nat.le_trans (Nat.mul_le_mul_left _ h) hC
theorem pw_end {t a C : Nat} (h : 0 < a) (hC : 2 ^ t * a ≤ C) (hb : C < 2 ^ 2460) : t < 2460 := by
  have : 2 ^ t * 1 ≤ 2 ^ t * a := Nat.mul_le_mul_left _ h
  exact pow_lt_of (i := t) (C := C) (by omega) hb
theorem nB82 : nB ^ 41 * nB ^ 41 < 2 ^ 2460 := by decide +kernel
theorem mod_half {P Q : Nat} (hQ : 0 < Q) (h : Q ≤ P) : 2 * (Q * (P % Q)) ≤ P * Q := by
  have hd := Nat.div_add_mod P Q
  have h1 := Nat.mod_lt P hQ
  have e2 := half_step (P := P) (Q := Q) (t := P / Q) (by rw [Nat.mul_comm]; omega) (by rw [Nat.add_mul, Nat.one_mul, Nat.mul_comm]; omega) h
  have e3 : P - P / Q * Q = P % Q := by rw [Nat.mul_comm]; omega
  rw [e3] at e2
  exact e2
theorem nB2_63 : nB ^ 2 < 2 ^ 63 := by decide
set_option maxHeartbeats 4000000 in
set_option maxRecDepth 100000 in
theorem c_Ms_of (l : Launch) (D : va_G) (t0 : Nat) (L : List Nat) (f : Nat → va_E) (sz : Nat) (o r : Nat → Nat) (am ad al ab : Nat) (G Ls Rs : Nat) (ea eb ec ed : Int) (x u w : Nat → Nat) (j k : Nat) (hY : Lay o r 46) (hM : hw_c L f am (.inr (2, [.ref ad, .ref (o 38), .ref (o G), .ref (o Ls), .ref (o Rs), .long (zL ea), .long (zL eb), .long (zL ec), .long (zL ed)]))) (hN : AllN D L f o r 46 x) (hA : hw_c L f ad (.inr (0, [.ref al, .ref ab]))) (hU : arrN D L f al 42 u) (hWb : arrN D L f ab 42 w) (hab : al ≠ ab) (hTr : Tri G Ls Rs) (hj : j < 46) (hk : k < 46) (hj2 : j < 38 ∨ 41 < j) (hk2 : k < 38 ∨ 41 < k) (h0 : 0 < x j ∨ 0 < x k) : Met l y_Ms_of (Cond.code y_Ms_of b_Ms_of 5 (some (.object "WallFractions$Whole")) :: TT) ({ frames := 9, cells := 0, slots := 0, locals := 192 } : Room) (hw_Pc t0 [.ref (am), .ref (o j), .ref (o k)] D L f sz) (hw_Q D L sz (fun oc L' f' => L = L' ∧ ∃ (G Ls Rs : Nat) (ea eb ec ed : Int) (x' u' w' : Nat → Nat), oc = .returned (some (.ref (o G))) ∧ Tri G Ls Rs ∧ hw_c L f' am (.inr (2, [.ref ad, .ref (o 38), .ref (o G), .ref (o Ls), .ref (o Rs), .long (zL ea), .long (zL eb), .long (zL ec), .long (zL ed)])) ∧ AllN D L f' o r 46 x' ∧ x' G = Nat.gcd (x j) (x k) ∧ (∀ i, i < 38 ∨ 41 < i → x' i = x i) ∧ arrN D L f' al 42 u' ∧ arrN D L f' ab 42 w' ∧ (∀ q, q ≠ am → q ≠ al → q ≠ ab → (∀ i, 38 ≤ i → i ≤ 41 → q ≠ o i ∧ q ≠ r i) → f' q = f q))) 0 0 (hw_A L sz) := by
  refine Met.ofW (cc := b_Ms_of) (maxL := 5) (ret := (some (.object "WallFractions$Whole"))) (by decide) rfl ?_
  intro p e s m args below meth c s₁ B hml hv
  obtain ⟨rfl, rfl, hI⟩ := hw_start hv
  clear hv
  have hx := B.exec
  have hb := B.bytes
  have hr := B.returns
  have hlocks := B.notSynchronized
  have hown : s.vm.findClass "WallFractions$Measure" = some m.cls := findClass_of_methodNamed B.named
  have hT : ∀ w ∈ TT, w.before ([.ref (am), .ref (o j), .ref (o k)]).toArray s = true := fun w h => atoms_spec (ws := (Cond.code y_Ms_of b_Ms_of 5 (some (.object "WallFractions$Whole")) :: TT)) B.pre w (List.mem_cons_of_mem _ h)
  have S : CallFix p m c b_Ms_of 5 s ([.ref (am), .ref (o j), .ref (o k)]).toArray TT "WallFractions$Measure" := ⟨hx, hb, hml, hown, hT⟩
  have hl := lv_entry ([.ref (am), .ref (o j), .ref (o k)]) (n := 5) (Nat.le_of_ble_eq_true rfl)
  rw [lg_entry_eq]
  generalize (lg_sl ([.ref (am), .ref (o j), .ref (o k)]) ++ List.replicate (5 - (lg_sl ([.ref (am), .ref (o j), .ref (o k)])).length) Slot.unset).toArray = ls at hl ⊢
  have hl : lv_has ls 5 [(0, .ref (am)), (1, .ref (o j)), (2, .ref (o k))] := hl
  skip
  have hnB : nB = 1000000000 := rfl
  obtain ⟨v0, hV0, hO0⟩ := id hN
  have hMr : ∀ z, z < 46 → am ≠ r z := fun z hz e9 => hw_ne (hV0 z hz).2 hM e9.symm
  have hMo : ∀ z, z < 46 → am ≠ o z := fun z hz => hM.ne (hV0 z hz).1 (fun e9 => by cases e9)
  have hDr : ∀ z, z < 46 → ad ≠ r z := fun z hz e9 => hw_ne (hV0 z hz).2 hA e9.symm
  have hDo : ∀ z, z < 46 → ad ≠ o z := fun z hz => hA.ne (hV0 z hz).1 (fun e9 => by cases e9)
  have hal : ∀ z, z < 46 → al ≠ r z := fun z hz => hU.ne (hV0 z hz).2 (fun e9 => by simp at e9)
  have hbl : ∀ z, z < 46 → ab ≠ r z := fun z hz => hWb.ne (hV0 z hz).2 (fun e9 => by simp at e9)
  have halo : ∀ z, z < 46 → al ≠ o z := fun z hz e9 => hV0.ne hU hz e9.symm
  have hblo : ∀ z, z < 46 → ab ≠ o z := fun z hz e9 => hV0.ne hWb hz e9.symm
  have hMD : am ≠ ad := hM.ne hA (fun e9 => by cases e9)
  have hMl : am ≠ al := fun e9 => hw_ne hU hM e9.symm
  have hMb : am ≠ ab := fun e9 => hw_ne hWb hM e9.symm
  have hDl : ad ≠ al := fun e9 => hw_ne hU hA e9.symm
  have hDb : ad ≠ ab := fun e9 => hw_ne hWb hA e9.symm
  obtain ⟨Gd, hGd⟩ : ∃ Gd, Gd = Nat.gcd (x j) (x k) := ⟨_, rfl⟩
  have hCb : x j * x k < 2 ^ 2460 := Nat.lt_of_le_of_lt (Nat.mul_le_mul (Nat.le_of_lt (Nat.lt_of_lt_of_le (hO0 j hj).2.lt (Nat.pow_le_pow_right nB_pos (hO0 j hj).1))) (Nat.le_of_lt (Nat.lt_of_lt_of_le (hO0 k hk).2.lt (Nat.pow_le_pow_right nB_pos (hO0 k hk).1)))) nB82
  have tail : ∀ (G Ls Rs : Nat) (ea eb ec ed : Int) (y u w : Nat → Nat) (f1 : Nat → va_E) (H : Heap) (locs : List Loc) (ls : Array Slot), (y Ls = 0 ∨ (y G < nB ^ 2 ∧ y Ls ≤ y G)) → Tri G Ls Rs → AllN D L f1 o r 46 y → 0 < y G → Nat.gcd (y G) (y Ls) = Gd → (∀ i, i < 38 ∨ 41 < i → y i = x i) → hw_c L f1 am (.inr (2, [.ref ad, .ref (o 38), .ref (o G), .ref (o Ls), .ref (o Rs), .long (zL ea), .long (zL eb), .long (zL ec), .long (zL ed)])) → hw_c L f1 ad (.inr (0, [.ref al, .ref ab])) → arrN D L f1 al 42 u → arrN D L f1 ab 42 w → (∀ q, q ≠ am → q ≠ al → q ≠ ab → (∀ i, 38 ≤ i → i ≤ 41 → q ≠ o i ∧ q ≠ r i) → f1 q = f q) → hw_I D t0 (hw_A L s.heap.size) s L f1 H locs → lv_has ls 5 [(0, .ref (am))] → W p l e (headSpec (Cond.code y_Ms_of b_Ms_of 5 (some (.object "WallFractions$Whole")) :: TT) ({ frames := 9, cells := 0, slots := 0, locals := 192 } : Room)).room s m ([.ref (am), .ref (o j), .ref (o k)]).toArray below meth c H locs 0 0 (MQ below (hw_Q D L s.heap.size (fun oc L' f' => L = L' ∧ ∃ (G Ls Rs : Nat) (ea eb ec ed : Int) (x' u' w' : Nat → Nat), oc = .returned (some (.ref (o G))) ∧ Tri G Ls Rs ∧ hw_c L f' am (.inr (2, [.ref ad, .ref (o 38), .ref (o G), .ref (o Ls), .ref (o Rs), .long (zL ea), .long (zL eb), .long (zL ec), .long (zL ed)])) ∧ AllN D L f' o r 46 x' ∧ x' G = Nat.gcd (x j) (x k) ∧ (∀ i, i < 38 ∨ 41 < i → x' i = x i) ∧ arrN D L f' al 42 u' ∧ arrN D L f' ab 42 w' ∧ (∀ q, q ≠ am → q ≠ al → q ≠ ab → (∀ i, 38 ≤ i → i ≤ 41 → q ≠ o i ∧ q ≠ r i) → f' q = f q))) ([.ref (am), .ref (o j), .ref (o k)]).toArray s 0 0 (hw_A L s.heap.size)) (F0 m 130 ls []) := by
    intro G Ls Rs ea eb ec ed y u w f1 H locs ls hex hTr hN hG0 hg hsame hM hA hU hWb hF hI hl
    obtain ⟨t1, t2, t3, t4, t5, t6, t7, t8, t9⟩ := id hTr
    have hG : G < 46 := by omega
    have hLs : Ls < 46 := by omega
    obtain ⟨v, hV, hO⟩ := id hN
    refine lv_aload_n hx hb d_Ms_of_130 rfl (lv_at hl 0 rfl) ?_
    refine ob_get S hI hM (C := R_Ms) (T := F_Ms) (N := 9) (ref := "WallFractions$Measure") rfl i_Ms 3 (by decide) rfl w_103 rfl d_Ms_of_131 ?_
    refine hw_cV (As := []) (rest := []) S hI m_Wh_isZero w_436 (c_Wh_isZero l D t0 L _ _ o r 46 y Ls hLs hY hN) (hV _ hLs).1 rfl hl.1 rfl rfl (Nat.le_of_ble_eq_true rfl) d_Ms_of_134 ⟨Nat.le_of_ble_eq_true rfl, Nat.le_of_ble_eq_true rfl⟩ ⟨Nat.le_of_ble_eq_true rfl, Nat.le_of_ble_eq_true rfl⟩ (fun v9 L9 f1 H locs hp hI => ?_)
    refine W.cs (cells' := 0) (slots' := 0) rfl rfl ?_
    obtain ⟨hv9, rfl, rfl⟩ := hp
    cases hv9
    refine hw_stk (st' := [.int (if y Ls = 0 then nI 1 else nI 0)]) rfl ?_
    by_cases hz : y Ls = 0
    · refine hw_ti (show _ = nI 1 from if_pos hz) ?_
      refine hw_if_ne (tgt := 164) hx hb d_Ms_of_137 (by decide) (by omega) (fun c2 => ?_) (fun c2 => ?_)
      · rw [hz, Nat.gcd_zero_right] at hg
        refine lv_aload_n hx hb d_Ms_of_164 rfl (lv_at hl 0 rfl) ?_
        refine ob_get S hI hM (C := R_Ms) (T := F_Ms) (N := 9) (ref := "WallFractions$Measure") rfl i_Ms 2 (by decide) rfl w_102 rfl d_Ms_of_165 ?_
        exact hw_aret hx hb hr hlocks hI d_Ms_of_168 ⟨rfl, G, Ls, Rs, ea, eb, ec, ed, y, u, w, rfl, hTr, hM, hN, by rw [hg, hGd], hsame, hU, hWb, hF⟩
      · exact absurd c2 (by decide)
    · refine hw_ti (show _ = nI 0 from if_neg hz) ?_
      refine hw_if_ne (tgt := 164) hx hb d_Ms_of_137 (by decide) (by omega) (fun c3 => ?_) (fun c3 => ?_)
      · exact absurd rfl c3
      · rcases hex with hex | ⟨hex, hle⟩
        · exact absurd hex hz
        have hB2 := nB2_63
        refine lv_aload_n hx hb d_Ms_of_140 rfl (lv_at hl 0 rfl) ?_
        refine ob_get S hI hM (C := R_Ms) (T := F_Ms) (N := 9) (ref := "WallFractions$Measure") rfl i_Ms 2 (by decide) rfl w_102 rfl d_Ms_of_141 ?_
        refine lv_aload_n hx hb d_Ms_of_144 rfl (lv_at hl 0 rfl) ?_
        refine ob_get S hI hM (C := R_Ms) (T := F_Ms) (N := 9) (ref := "WallFractions$Measure") rfl i_Ms 2 (by decide) rfl w_102 rfl d_Ms_of_145 ?_
        refine hw_cV (As := []) (rest := [.ref (o G)]) S hI m_Wh_lowest w_507 (c_Wh_lowest l D t0 L _ _ o r 46 y G hG hY hN hex) (hV _ hG).1 rfl hl.1 rfl rfl (Nat.le_of_ble_eq_true rfl) d_Ms_of_148 ⟨Nat.le_of_ble_eq_true rfl, Nat.le_of_ble_eq_true rfl⟩ ⟨Nat.le_of_ble_eq_true rfl, Nat.le_of_ble_eq_true rfl⟩ (fun v9 L9 f4 H locs hp hI => ?_)
        refine W.cs (cells' := 0) (slots' := 0) rfl rfl ?_
        obtain ⟨hv9, rfl, rfl⟩ := hp
        cases hv9
        refine hw_stk (st' := [.long (lN (y G)), .ref (o G)]) rfl ?_
        refine lv_aload_n hx hb d_Ms_of_151 rfl (lv_at hl 0 rfl) ?_
        refine ob_get S hI hM (C := R_Ms) (T := F_Ms) (N := 9) (ref := "WallFractions$Measure") rfl i_Ms 3 (by decide) rfl w_103 rfl d_Ms_of_152 ?_
        refine hw_cV (As := []) (rest := [.long (lN (y G)), .ref (o G)]) S hI m_Wh_lowest w_507 (c_Wh_lowest l D t0 L _ _ o r 46 y Ls hLs hY hN (by omega)) (hV _ hLs).1 rfl hl.1 rfl rfl (Nat.le_of_ble_eq_true rfl) d_Ms_of_155 ⟨Nat.le_of_ble_eq_true rfl, Nat.le_of_ble_eq_true rfl⟩ ⟨Nat.le_of_ble_eq_true rfl, Nat.le_of_ble_eq_true rfl⟩ (fun v9 L9 f5 H locs hp hI => ?_)
        refine W.cs (cells' := 0) (slots' := 0) rfl rfl ?_
        obtain ⟨hv9, rfl, rfl⟩ := hp
        cases hv9
        refine hw_stk (st' := [.long (lN (y Ls)), .long (lN (y G)), .ref (o G)]) rfl ?_
        refine hw_cS (As := [.long (lN (y G)), .long (lN (y Ls))]) (rest := [.ref (o G)]) S hI m_Ms_ofShort w_511 (c_Ms_ofShort l D t0 L _ _ (y G) (y Ls) (by omega) (by omega)) hl.1 rfl rfl (Nat.le_of_ble_eq_true rfl) d_Ms_of_158 ⟨Nat.le_of_ble_eq_true rfl, Nat.le_of_ble_eq_true rfl⟩ ⟨Nat.le_of_ble_eq_true rfl, Nat.le_of_ble_eq_true rfl⟩ (fun v9 L9 f6 H locs hp hI => ?_)
        refine W.cs (cells' := 0) (slots' := 0) rfl rfl ?_
        obtain ⟨hv9, rfl, rfl⟩ := hp
        cases hv9
        refine hw_stk (st' := [.long (lN (Nat.gcd (y G) (y Ls))), .ref (o G)]) rfl ?_
        have hgl := Nat.gcd_le_left (y Ls) hG0
        refine hw_cV (As := [.long (lN (Nat.gcd (y G) (y Ls)))]) (rest := []) S hI m_Wh_become w_512 (c_Wh_become l D t0 L _ _ o r 46 y G (Nat.gcd (y G) (y Ls)) hG hY hN (by omega)) (hV _ hG).1 rfl hl.1 rfl rfl (Nat.le_of_ble_eq_true rfl) d_Ms_of_161 ⟨Nat.le_of_ble_eq_true rfl, Nat.le_of_ble_eq_true rfl⟩ ⟨Nat.le_of_ble_eq_true rfl, Nat.le_of_ble_eq_true rfl⟩ (fun v9 L9 f7 H locs hp hI => ?_)
        refine W.cs (cells' := 0) (slots' := 0) rfl rfl ?_
        obtain ⟨hv9, rfl, hN, hf9⟩ := hp
        cases hv9
        refine hw_stk (st' := []) rfl ?_
        have hM := hM.fr (hf9 _ (hMo G hG) (hMr G hG))
        have hU : arrN D L f7 al 42 u := hU.fr (hf9 _ (halo G hG) (hal G hG))
        have hWb : arrN D L f7 ab 42 w := hWb.fr (hf9 _ (hblo G hG) (hbl G hG))
        refine lv_aload_n hx hb d_Ms_of_164 rfl (lv_at hl 0 rfl) ?_
        refine ob_get S hI hM (C := R_Ms) (T := F_Ms) (N := 9) (ref := "WallFractions$Measure") rfl i_Ms 2 (by decide) rfl w_102 rfl d_Ms_of_165 ?_
        exact hw_aret hx hb hr hlocks hI d_Ms_of_168 ⟨rfl, G, Ls, Rs, ea, eb, ec, ed, _, u, w, rfl, hTr, hM, hN, by rw [hw_up_eq, hg, hGd], (fun i hi => by rw [hw_up_ne (by omega)]; exact hsame i hi), hU, hWb, (fun q q1 q2 q3 q4 => (hf9 q (q4 G (by omega) (by omega)).1 (q4 G (by omega) (by omega)).2).trans (hF q q1 q2 q3 q4))⟩
  have loop : ∀ (g t : Nat) (G Ls Rs : Nat) (ea eb ec ed : Int) (y u w : Nat → Nat) (f1 : Nat → va_E) (H : Heap) (locs : List Loc) (ls : Array Slot), t + g = 100000 → 2 ^ t * (y G * y Ls) ≤ x j * x k → y Ls ≤ y G → Tri G Ls Rs → AllN D L f1 o r 46 y → 0 < y G → Nat.gcd (y G) (y Ls) = Gd → (∀ i, i < 38 ∨ 41 < i → y i = x i) → hw_c L f1 am (.inr (2, [.ref ad, .ref (o 38), .ref (o G), .ref (o Ls), .ref (o Rs), .long (zL ea), .long (zL eb), .long (zL ec), .long (zL ed)])) → hw_c L f1 ad (.inr (0, [.ref al, .ref ab])) → arrN D L f1 al 42 u → arrN D L f1 ab 42 w → (∀ q, q ≠ am → q ≠ al → q ≠ ab → (∀ i, 38 ≤ i → i ≤ 41 → q ≠ o i ∧ q ≠ r i) → f1 q = f q) → hw_I D t0 (hw_A L s.heap.size) s L f1 H locs → lv_has ls 5 [(4, .int (nI t)), (0, .ref (am))] → W p l e (headSpec (Cond.code y_Ms_of b_Ms_of 5 (some (.object "WallFractions$Whole")) :: TT) ({ frames := 9, cells := 0, slots := 0, locals := 192 } : Room)).room s m ([.ref (am), .ref (o j), .ref (o k)]).toArray below meth c H locs 0 0 (MQ below (hw_Q D L s.heap.size (fun oc L' f' => L = L' ∧ ∃ (G Ls Rs : Nat) (ea eb ec ed : Int) (x' u' w' : Nat → Nat), oc = .returned (some (.ref (o G))) ∧ Tri G Ls Rs ∧ hw_c L f' am (.inr (2, [.ref ad, .ref (o 38), .ref (o G), .ref (o Ls), .ref (o Rs), .long (zL ea), .long (zL eb), .long (zL ec), .long (zL ed)])) ∧ AllN D L f' o r 46 x' ∧ x' G = Nat.gcd (x j) (x k) ∧ (∀ i, i < 38 ∨ 41 < i → x' i = x i) ∧ arrN D L f' al 42 u' ∧ arrN D L f' ab 42 w' ∧ (∀ q, q ≠ am → q ≠ al → q ≠ ab → (∀ i, 38 ≤ i → i ≤ 41 → q ≠ o i ∧ q ≠ r i) → f' q = f q))) ([.ref (am), .ref (o j), .ref (o k)]).toArray s 0 0 (hw_A L s.heap.size)) (F0 m 49 ls []) := by
    intro g
    induction g with
    | zero =>
      intro t G Ls Rs ea eb ec ed y u w f1 H locs ls htg hC hle hTr hN hG0 hg hsame hM hA hU hWb hF hI hl
      obtain ⟨t1, t2, t3, t4, t5, t6, t7, t8, t9⟩ := id hTr
      have hG : G < 46 := by omega
      have hLs : Ls < 46 := by omega
      have hRs : Rs < 46 := by omega
      obtain ⟨v, hV, hO⟩ := id hN
      have h41 := (hO G hG).1
      refine lv_iload hx hb d_Ms_of_49 (lv_at hl 0 rfl) ?_
      refine hw_ldc (v := nI 100000) hx hb hown (hT _ w_309) d_Ms_of_51 ?_
      refine hw_icmp_ge (tgt := 130) hx hb d_Ms_of_53 (by decide) (by omega) (by omega) (fun c8 => ?_) (fun c8 => ?_)
      · exact tail G Ls Rs ea eb ec ed y u w _ _ _ _ (by rcases Nat.eq_zero_or_pos (y Ls) with e9 | e9; exact Or.inl e9; have h9 := pw_end (Nat.mul_pos hG0 e9) hC hCb; omega) hTr hN hG0 hg hsame hM hA hU hWb hF hI (lv_sub hl [1] rfl)
      · exact absurd c8 (by omega)
    | succ g ih =>
      intro t G Ls Rs ea eb ec ed y u w f1 H locs ls htg hC hle hTr hN hG0 hg hsame hM hA hU hWb hF hI hl
      obtain ⟨t1, t2, t3, t4, t5, t6, t7, t8, t9⟩ := id hTr
      have hG : G < 46 := by omega
      have hLs : Ls < 46 := by omega
      have hRs : Rs < 46 := by omega
      obtain ⟨v, hV, hO⟩ := id hN
      have h41 := (hO G hG).1
      refine lv_iload hx hb d_Ms_of_49 (lv_at hl 0 rfl) ?_
      refine hw_ldc (v := nI 100000) hx hb hown (hT _ w_309) d_Ms_of_51 ?_
      refine hw_icmp_ge (tgt := 130) hx hb d_Ms_of_53 (by decide) (by omega) (by omega) (fun c9 => ?_) (fun c9 => ?_)
      · exact tail G Ls Rs ea eb ec ed y u w _ _ _ _ (by rcases Nat.eq_zero_or_pos (y Ls) with e9 | e9; exact Or.inl e9; have h9 := pw_end (Nat.mul_pos hG0 e9) hC hCb; omega) hTr hN hG0 hg hsame hM hA hU hWb hF hI (lv_sub hl [1] rfl)
      · refine lv_aload_n hx hb d_Ms_of_56 rfl (lv_at hl 1 rfl) ?_
        refine ob_get S hI hM (C := R_Ms) (T := F_Ms) (N := 9) (ref := "WallFractions$Measure") rfl i_Ms 2 (by decide) rfl w_102 rfl d_Ms_of_57 ?_
        refine wh_sizeN S hI hV hG (by decide) d_Ms_of_60 ?_
        refine lv_iconst (v := nI 2) hx hb d_Ms_of_63 (by decide) ?_
        refine hw_icmp_le (tgt := 130) hx hb d_Ms_of_64 (by decide) (by omega) (by omega) (fun c10 => ?_) (fun c10 => ?_)
        · exact tail G Ls Rs ea eb ec ed y u w _ _ _ _ (Or.inr ⟨((hO G hG).2.size_le nB1).mp c10, hle⟩) hTr hN hG0 hg hsame hM hA hU hWb hF hI (lv_sub hl [1] rfl)
        · have h3 : nB ^ 2 ≤ y G := by rcases Nat.lt_or_ge (y G) (nB ^ 2) with q | q; have q1 := ((hO G hG).2.size_le nB1).mpr q; omega; exact q
          refine lv_aload_n hx hb d_Ms_of_67 rfl (lv_at hl 1 rfl) ?_
          refine ob_get S hI hM (C := R_Ms) (T := F_Ms) (N := 9) (ref := "WallFractions$Measure") rfl i_Ms 3 (by decide) rfl w_103 rfl d_Ms_of_68 ?_
          refine hw_cV (As := []) (rest := []) S hI m_Wh_isZero w_436 (c_Wh_isZero l D t0 L _ _ o r 46 y Ls hLs hY hN) (hV _ hLs).1 rfl hl.1 rfl rfl (Nat.le_of_ble_eq_true rfl) d_Ms_of_71 ⟨Nat.le_of_ble_eq_true rfl, Nat.le_of_ble_eq_true rfl⟩ ⟨Nat.le_of_ble_eq_true rfl, Nat.le_of_ble_eq_true rfl⟩ (fun v9 L9 f11 H locs hp hI => ?_)
          refine W.cs (cells' := 0) (slots' := 0) rfl rfl ?_
          obtain ⟨hv9, rfl, rfl⟩ := hp
          cases hv9
          refine hw_stk (st' := [.int (if y Ls = 0 then nI 1 else nI 0)]) rfl ?_
          by_cases hz : y Ls = 0
          · refine hw_ti (show _ = nI 1 from if_pos hz) ?_
            refine hw_if_ne (tgt := 130) hx hb d_Ms_of_74 (by decide) (by omega) (fun c12 => ?_) (fun c12 => ?_)
            · exact tail G Ls Rs ea eb ec ed y u w _ _ _ _ (Or.inl hz) hTr hN hG0 hg hsame hM hA hU hWb hF hI (lv_sub hl [1] rfl)
            · exact absurd c12 (by decide)
          · refine hw_ti (show _ = nI 0 from if_neg hz) ?_
            refine hw_if_ne (tgt := 130) hx hb d_Ms_of_74 (by decide) (by omega) (fun c13 => ?_) (fun c13 => ?_)
            · exact absurd rfl c13
            · have hz0 : 0 < y Ls := by omega
              refine lv_aload_n hx hb d_Ms_of_77 rfl (lv_at hl 1 rfl) ?_
              refine hw_cV (As := []) (rest := []) S hI m_Ms_gather w_440 (c_Ms_gather l D t0 L _ _ o r 46 am ad 38 G Ls Rs ea eb ec ed y hY hM hN hG hLs hle h3) hM rfl hl.1 rfl rfl (Nat.le_of_ble_eq_true rfl) d_Ms_of_78 ⟨Nat.le_of_ble_eq_true rfl, Nat.le_of_ble_eq_true rfl⟩ ⟨Nat.le_of_ble_eq_true rfl, Nat.le_of_ble_eq_true rfl⟩ (fun v9 L9 f14 H locs hp hI => ?_)
              refine W.cs (cells' := 0) (slots' := 0) rfl rfl ?_
              obtain ⟨hv9, rfl, ⟨fa, fb, fc, fd, hM, hLb, hLm⟩, hf9⟩ := hp
              cases hv9
              refine hw_stk (st' := []) rfl ?_
              have hN := hN.frame (fun z hz => ⟨hf9 _ (fun e9 => hMo z hz e9.symm), hf9 _ (fun e9 => hMr z hz e9.symm)⟩)
              have hA := hA.fr (hf9 _ hMD.symm)
              have hU : arrN D L f14 al 42 u := hU.fr (hf9 _ hMl.symm)
              have hWb : arrN D L f14 ab 42 w := hWb.fr (hf9 _ hMb.symm)
              have hF := fun q q1 q2 q3 q4 => (hf9 q q1).trans (hF q q1 q2 q3 q4)
              have hbb : -(nB : Int) ≤ fb ∧ fb ≤ nB := ⟨hLb.2.2.1, hLb.2.2.2.1⟩
              refine lv_aload_n hx hb d_Ms_of_81 rfl (lv_at hl 1 rfl) ?_
              refine ob_get S hI hM (C := R_Ms) (T := F_Ms) (N := 9) (ref := "WallFractions$Measure") rfl i_Ms 6 (by decide) rfl w_106 rfl d_Ms_of_82 ?_
              refine lv_lconst (v := lN 0) hx hb d_Ms_of_85 rfl ?_
              refine hw_l_ne (tgt := 120) hx hb d_Ms_of_86 d_Ms_of_87 (by decide) (fun c15 => ?_) (fun c15 => ?_)
              · have hfb : fb ≠ 0 := fun h => c15 (by rw [h]; rfl)
                rcases hLm with h9 | ⟨P, Q, hP, hQ, hQP, hg2, hPQ, hPX⟩
                · exact absurd h9 hfb
                refine lv_aload_n hx hb d_Ms_of_120 rfl (lv_at hl 1 rfl) ?_
                refine hw_cV (As := []) (rest := []) S hI m_Ms_catchUp w_501 (c_Ms_catchUp l D t0 L _ _ o r 46 am ad 38 G Ls Rs fa fb fc fd y P Q hY hM hN hG hLs t7 hle hLb hP hQ hQP hPX) hM rfl hl.1 rfl rfl (Nat.le_of_ble_eq_true rfl) d_Ms_of_121 ⟨Nat.le_of_ble_eq_true rfl, Nat.le_of_ble_eq_true rfl⟩ ⟨Nat.le_of_ble_eq_true rfl, Nat.le_of_ble_eq_true rfl⟩ (fun v9 L9 f16 H locs hp hI => ?_)
                refine W.cs (cells' := 0) (slots' := 0) rfl rfl ?_
                obtain ⟨hv9, rfl, hN, hf8⟩ := hp
                cases hv9
                refine hw_stk (st' := []) rfl ?_
                have ap := fun (q : Nat) (h1 : ∀ z, z < 46 → q ≠ o z) (h2 : ∀ z, z < 46 → q ≠ r z) => hf8 q (h1 G hG) (h2 G hG) (h1 Ls hLs) (h2 Ls hLs)
                have hM := hM.fr (ap _ hMo hMr)
                have hA := hA.fr (ap _ hDo hDr)
                have hU : arrN D L f16 al 42 u := hU.fr (ap _ halo hal)
                have hWb : arrN D L f16 ab 42 w := hWb.fr (ap _ hblo hbl)
                refine lv_iinc (v := nI (t + 1)) (lv' := [(4, .int (nI (t + 1))), (0, .ref (am))]) hx hb d_Ms_of_124 hl (k := 0) rfl (nI_1 _) (by decide) rfl (fun ls hl => ?_)
                refine lv_goto (tgt := 49) hx hb d_Ms_of_127 (by decide) ?_
                have y1 : va_up (va_up y G P) Ls Q G = P := by rw [hw_up_ne t7, hw_up_eq]
                have y2 : va_up (va_up y G P) Ls Q Ls = Q := hw_up_eq
                exact ih (t + 1) G Ls Rs fa fb fc fd (va_up (va_up y G P) Ls Q) u w _ _ _ _ (by omega) (by rw [y1, y2]; exact pw_half hPQ hC) (by rw [y1, y2]; omega) hTr hN (by rw [y1]; omega) (by rw [y1, y2, hg2, hg]) (fun i hi => by rw [hw_up_ne (by omega), hw_up_ne (by omega)]; exact hsame i hi) hM hA hU hWb (fun q q1 q2 q3 q4 => (hf8 q (q4 G (by omega) (by omega)).1 (q4 G (by omega) (by omega)).2 (q4 Ls (by omega) (by omega)).1 (q4 Ls (by omega) (by omega)).2).trans (hF q q1 q2 q3 q4)) hI hl
              · refine lv_aload_n hx hb d_Ms_of_90 rfl (lv_at hl 1 rfl) ?_
                refine ob_get S hI hM (C := R_Ms) (T := F_Ms) (N := 9) (ref := "WallFractions$Measure") rfl i_Ms 0 (by decide) rfl w_100 rfl d_Ms_of_91 ?_
                refine lv_aload_n hx hb d_Ms_of_94 rfl (lv_at hl 1 rfl) ?_
                refine ob_get S hI hM (C := R_Ms) (T := F_Ms) (N := 9) (ref := "WallFractions$Measure") rfl i_Ms 2 (by decide) rfl w_102 rfl d_Ms_of_95 ?_
                refine lv_aload_n hx hb d_Ms_of_98 rfl (lv_at hl 1 rfl) ?_
                refine ob_get S hI hM (C := R_Ms) (T := F_Ms) (N := 9) (ref := "WallFractions$Measure") rfl i_Ms 3 (by decide) rfl w_103 rfl d_Ms_of_99 ?_
                refine lv_aload_n hx hb d_Ms_of_102 rfl (lv_at hl 1 rfl) ?_
                refine ob_get S hI hM (C := R_Ms) (T := F_Ms) (N := 9) (ref := "WallFractions$Measure") rfl i_Ms 1 (by decide) rfl w_101 rfl d_Ms_of_103 ?_
                refine lv_aload_n hx hb d_Ms_of_106 rfl (lv_at hl 1 rfl) ?_
                refine ob_get S hI hM (C := R_Ms) (T := F_Ms) (N := 9) (ref := "WallFractions$Measure") rfl i_Ms 4 (by decide) rfl w_104 rfl d_Ms_of_107 ?_
                refine hw_cV (As := [.ref (o G), .ref (o Ls), .ref (o 38), .ref (o Rs)]) (rest := []) S hI m_Dv_split w_458 (c_Dv_split l D t0 L _ _ o r 46 y ad al ab u w G Ls 38 Rs hY hN hA hU hWb hab hal hbl hG hLs (by omega) hRs (by omega) hz0) hA rfl hl.1 rfl rfl (Nat.le_of_ble_eq_true rfl) d_Ms_of_110 ⟨Nat.le_of_ble_eq_true rfl, Nat.le_of_ble_eq_true rfl⟩ ⟨Nat.le_of_ble_eq_true rfl, Nat.le_of_ble_eq_true rfl⟩ (fun v9 L9 f17 H locs hp hI => ?_)
                refine W.cs (cells' := 0) (slots' := 0) rfl rfl ?_
                obtain ⟨hv9, rfl, hN, ⟨u2, w2, hU, hWb⟩, hf8⟩ := hp
                cases hv9
                refine hw_stk (st' := []) rfl ?_
                have hM := hM.fr (hf8 _ (hMo _ (by omega)) (hMr _ (by omega)) (hMo _ hRs) (hMr _ hRs) hMl hMb)
                have hA := hA.fr (hf8 _ (hDo _ (by omega)) (hDr _ (by omega)) (hDo _ hRs) (hDr _ hRs) hDl hDb)
                refine lv_aload_n hx hb d_Ms_of_113 rfl (lv_at hl 1 rfl) ?_
                refine hw_cV (As := []) (rest := []) S hI m_Ms_shift w_497 (c_Ms_shift l D t0 L _ _ o r 46 am ad 38 G Ls Rs fa fb fc fd hY hM) hM rfl hl.1 rfl rfl (Nat.le_of_ble_eq_true rfl) d_Ms_of_114 ⟨Nat.le_of_ble_eq_true rfl, Nat.le_of_ble_eq_true rfl⟩ ⟨Nat.le_of_ble_eq_true rfl, Nat.le_of_ble_eq_true rfl⟩ (fun v9 L9 f18 H locs hp hI => ?_)
                refine W.cs (cells' := 0) (slots' := 0) rfl rfl ?_
                obtain ⟨hv9, rfl, hM, hf7⟩ := hp
                cases hv9
                refine hw_stk (st' := []) rfl ?_
                have hN := hN.frame (fun z hz => ⟨hf7 _ (fun e9 => hMo z hz e9.symm), hf7 _ (fun e9 => hMr z hz e9.symm)⟩)
                have hA := hA.fr (hf7 _ hMD.symm)
                have hU : arrN D L f18 al 42 u2 := hU.fr (hf7 _ hMl.symm)
                have hWb : arrN D L f18 ab 42 w2 := hWb.fr (hf7 _ hMb.symm)
                have y1 : (va_up (va_up y 38 (y G / y Ls)) Rs (y G % y Ls)) Ls = y Ls := by rw [hw_up_ne t9, hw_up_ne (by omega)]
                have y2 : (va_up (va_up y 38 (y G / y Ls)) Rs (y G % y Ls)) Rs = y G % y Ls := hw_up_eq
                have hml9 := Nat.mod_lt (y G) hz0
                refine lv_goto (tgt := 124) hx hb d_Ms_of_117 (by decide) ?_
                refine lv_iinc (v := nI (t + 1)) (lv' := [(4, .int (nI (t + 1))), (0, .ref (am))]) hx hb d_Ms_of_124 hl (k := 0) rfl (nI_1 _) (by decide) rfl (fun ls hl => ?_)
                refine lv_goto (tgt := 49) hx hb d_Ms_of_127 (by decide) ?_
                exact ih (t + 1) Ls Rs G fa fb fc fd (va_up (va_up y 38 (y G / y Ls)) Rs (y G % y Ls)) u2 w2 _ _ _ _ (by omega) (by rw [y1, y2]; exact pw_half (mod_half hz0 hle) hC) (by rw [y1, y2]; omega) ⟨t3, t4, t5, t6, t1, t2, t9, t7.symm, t8.symm⟩ hN (by rw [y1]; exact hz0) (by rw [y1, y2, ← hg, Nat.gcd_comm (y G), Nat.gcd_rec (y Ls) (y G), Nat.gcd_comm]) (fun i hi => by rw [hw_up_ne (by omega), hw_up_ne (by omega)]; exact hsame i hi) hM hA hU hWb (fun q q1 q2 q3 q4 => (hf7 q q1).trans ((hf8 q (q4 38 (by omega) (by omega)).1 (q4 38 (by omega) (by omega)).2 (q4 Rs (by omega) (by omega)).1 (q4 Rs (by omega) (by omega)).2 q2 q3).trans (hF q q1 q2 q3 q4))) hI hl
  obtain ⟨t1, t2, t3, t4, t5, t6, t7, t8, t9⟩ := id hTr
  have hG : G < 46 := by omega
  have hLs : Ls < 46 := by omega
  have hV := hV0
  refine lv_aload_n hx hb d_Ms_of_0 rfl (lv_at hl 1 rfl) ?_
  refine lv_aload_n hx hb d_Ms_of_1 rfl (lv_at hl 2 rfl) ?_
  refine hw_cV (As := [.ref (o k)]) (rest := []) S hI m_Wh_order w_434 (c_Wh_order l D t0 L _ _ o r 46 x j k hj hY hN hk) (hV _ hj).1 rfl hl.1 rfl rfl (Nat.le_of_ble_eq_true rfl) d_Ms_of_2 ⟨Nat.le_of_ble_eq_true rfl, Nat.le_of_ble_eq_true rfl⟩ ⟨Nat.le_of_ble_eq_true rfl, Nat.le_of_ble_eq_true rfl⟩ (fun v9 L9 f19 H locs hp hI => ?_)
  refine W.cs (cells' := 0) (slots' := 0) rfl rfl ?_
  obtain ⟨hv9, rfl, rfl⟩ := hp
  cases hv9
  refine hw_stk (st' := [.int (cmpN (x j) (x k))]) rfl ?_
  refine lv_if_lt (tgt := 12) hx hb d_Ms_of_5 (by decide) (fun c20 => ?_) (fun c20 => ?_)
  · have hjk : x j ≤ x k := by rcases Nat.lt_or_ge (x j) (x k) with q | q; omega; rcases Nat.eq_or_lt_of_le q with q1 | q1; (rw [cmpN_eq q1.symm] at c20; exact absurd c20 (by decide)); (rw [cmpN_gt q1] at c20; exact absurd c20 (by decide))
    refine lv_iconst (v := nI 0) hx hb d_Ms_of_12 (by decide) ?_
    refine lv_istore_n (lv' := [(3, .int (nI 0)), (0, .ref (am)), (1, .ref (o j)), (2, .ref (o k))]) hx hb d_Ms_of_13 rfl hl (by decide) rfl (fun ls hl => ?_)
    refine lv_aload_n hx hb d_Ms_of_14 rfl (lv_at hl 1 rfl) ?_
    refine ob_get S hI hM (C := R_Ms) (T := F_Ms) (N := 9) (ref := "WallFractions$Measure") rfl i_Ms 2 (by decide) rfl w_102 rfl d_Ms_of_15 ?_
    refine lv_iload_n hx hb d_Ms_of_18 rfl (lv_at hl 0 rfl) ?_
    refine hw_if_eq (tgt := 26) hx hb d_Ms_of_19 (by decide) (by omega) (fun c21 => ?_) (fun c21 => ?_)
    · refine lv_aload_n hx hb d_Ms_of_26 rfl (lv_at hl 3 rfl) ?_
      refine hw_cV (As := [.ref (o k)]) (rest := []) S hI m_Wh_copyFrom w_435 (c_Wh_copyFrom l D t0 L _ _ o r 46 x G k hG hY hN hk) (hV _ hG).1 rfl hl.1 rfl rfl (Nat.le_of_ble_eq_true rfl) d_Ms_of_27 ⟨Nat.le_of_ble_eq_true rfl, Nat.le_of_ble_eq_true rfl⟩ ⟨Nat.le_of_ble_eq_true rfl, Nat.le_of_ble_eq_true rfl⟩ (fun v9 L9 f22 H locs hp hI => ?_)
      refine W.cs (cells' := 0) (slots' := 0) rfl rfl ?_
      obtain ⟨hv9, rfl, hN, hf9⟩ := hp
      cases hv9
      refine hw_stk (st' := []) rfl ?_
      obtain ⟨v1, hV, hO1⟩ := id hN
      have hM := hM.fr (hf9 _ (hMo G hG) (hMr G hG))
      have hA := hA.fr (hf9 _ (hDo G hG) (hDr G hG))
      have hU : arrN D L f22 al 42 u := hU.fr (hf9 _ (halo G hG) (hal G hG))
      have hWb : arrN D L f22 ab 42 w := hWb.fr (hf9 _ (hblo G hG) (hbl G hG))
      refine lv_aload_n hx hb d_Ms_of_30 rfl (lv_at hl 1 rfl) ?_
      refine ob_get S hI hM (C := R_Ms) (T := F_Ms) (N := 9) (ref := "WallFractions$Measure") rfl i_Ms 3 (by decide) rfl w_103 rfl d_Ms_of_31 ?_
      refine lv_iload_n hx hb d_Ms_of_34 rfl (lv_at hl 0 rfl) ?_
      refine hw_if_eq (tgt := 42) hx hb d_Ms_of_35 (by decide) (by omega) (fun c23 => ?_) (fun c23 => ?_)
      · refine lv_aload_n hx hb d_Ms_of_42 rfl (lv_at hl 2 rfl) ?_
        refine hw_cV (As := [.ref (o j)]) (rest := []) S hI m_Wh_copyFrom w_435 (c_Wh_copyFrom l D t0 L _ _ o r 46 _ Ls j hLs hY hN hj) (hV _ hLs).1 rfl hl.1 rfl rfl (Nat.le_of_ble_eq_true rfl) d_Ms_of_43 ⟨Nat.le_of_ble_eq_true rfl, Nat.le_of_ble_eq_true rfl⟩ ⟨Nat.le_of_ble_eq_true rfl, Nat.le_of_ble_eq_true rfl⟩ (fun v9 L9 f24 H locs hp hI => ?_)
        refine W.cs (cells' := 0) (slots' := 0) rfl rfl ?_
        obtain ⟨hv9, rfl, hN, hf8⟩ := hp
        cases hv9
        refine hw_stk (st' := []) rfl ?_
        have hM := hM.fr (hf8 _ (hMo Ls hLs) (hMr Ls hLs))
        have hA := hA.fr (hf8 _ (hDo Ls hLs) (hDr Ls hLs))
        have hU : arrN D L f24 al 42 u := hU.fr (hf8 _ (halo Ls hLs) (hal Ls hLs))
        have hWb : arrN D L f24 ab 42 w := hWb.fr (hf8 _ (hblo Ls hLs) (hbl Ls hLs))
        rw [show va_up x G (x k) j = x j from hw_up_ne (by omega)] at hN
        have y1 : va_up (va_up x G (x k)) Ls (x j) G = x k := by rw [hw_up_ne t7, hw_up_eq]
        have y2 : va_up (va_up x G (x k)) Ls (x j) Ls = x j := hw_up_eq
        refine lv_iconst (v := nI 0) hx hb d_Ms_of_46 (by decide) ?_
        refine lv_istore (lv' := [(4, .int (nI 0)), (3, .int (nI 0)), (0, .ref (am)), (1, .ref (o j)), (2, .ref (o k))]) hx hb d_Ms_of_47 hl (by decide) rfl (fun ls hl => ?_)
        exact loop 100000 0 G Ls Rs ea eb ec ed (va_up (va_up x G (x k)) Ls (x j)) u w _ _ _ _ (by omega) (by rw [y1, y2, Nat.pow_zero, Nat.one_mul, Nat.mul_comm (x k) (x j)]; exact Nat.le_refl _) (by rw [y1, y2]; exact hjk) hTr hN (by rw [y1]; omega) (by rw [y1, y2, Nat.gcd_comm (x k) (x j), hGd]) (fun i hi => by rw [hw_up_ne (by omega), hw_up_ne (by omega)]) hM hA hU hWb (fun q q1 q2 q3 q4 => (hf8 q (q4 Ls (by omega) (by omega)).1 (q4 Ls (by omega) (by omega)).2).trans (hf9 q (q4 G (by omega) (by omega)).1 (q4 G (by omega) (by omega)).2)) hI (lv_sub hl [0, 2] rfl)
      · exact absurd rfl c23
    · exact absurd rfl c21
  · have hjk : x k ≤ x j := by rcases Nat.lt_or_ge (x j) (x k) with q | q; (rw [cmpN_lt q] at c20; exact absurd (show ((-1 : Int32) < 0) by decide) c20); omega
    refine lv_iconst (v := nI 1) hx hb d_Ms_of_8 (by decide) ?_
    refine lv_goto (tgt := 13) hx hb d_Ms_of_9 (by decide) ?_
    refine lv_istore_n (lv' := [(3, .int (nI 1)), (0, .ref (am)), (1, .ref (o j)), (2, .ref (o k))]) hx hb d_Ms_of_13 rfl hl (by decide) rfl (fun ls hl => ?_)
    refine lv_aload_n hx hb d_Ms_of_14 rfl (lv_at hl 1 rfl) ?_
    refine ob_get S hI hM (C := R_Ms) (T := F_Ms) (N := 9) (ref := "WallFractions$Measure") rfl i_Ms 2 (by decide) rfl w_102 rfl d_Ms_of_15 ?_
    refine lv_iload_n hx hb d_Ms_of_18 rfl (lv_at hl 0 rfl) ?_
    refine hw_if_eq (tgt := 26) hx hb d_Ms_of_19 (by decide) (by omega) (fun c25 => ?_) (fun c25 => ?_)
    · exact absurd c25 (by decide)
    · refine lv_aload_n hx hb d_Ms_of_22 rfl (lv_at hl 2 rfl) ?_
      refine lv_goto (tgt := 27) hx hb d_Ms_of_23 (by decide) ?_
      refine hw_cV (As := [.ref (o j)]) (rest := []) S hI m_Wh_copyFrom w_435 (c_Wh_copyFrom l D t0 L _ _ o r 46 x G j hG hY hN hj) (hV _ hG).1 rfl hl.1 rfl rfl (Nat.le_of_ble_eq_true rfl) d_Ms_of_27 ⟨Nat.le_of_ble_eq_true rfl, Nat.le_of_ble_eq_true rfl⟩ ⟨Nat.le_of_ble_eq_true rfl, Nat.le_of_ble_eq_true rfl⟩ (fun v9 L9 f26 H locs hp hI => ?_)
      refine W.cs (cells' := 0) (slots' := 0) rfl rfl ?_
      obtain ⟨hv9, rfl, hN, hf9⟩ := hp
      cases hv9
      refine hw_stk (st' := []) rfl ?_
      obtain ⟨v1, hV, hO1⟩ := id hN
      have hM := hM.fr (hf9 _ (hMo G hG) (hMr G hG))
      have hA := hA.fr (hf9 _ (hDo G hG) (hDr G hG))
      have hU : arrN D L f26 al 42 u := hU.fr (hf9 _ (halo G hG) (hal G hG))
      have hWb : arrN D L f26 ab 42 w := hWb.fr (hf9 _ (hblo G hG) (hbl G hG))
      refine lv_aload_n hx hb d_Ms_of_30 rfl (lv_at hl 1 rfl) ?_
      refine ob_get S hI hM (C := R_Ms) (T := F_Ms) (N := 9) (ref := "WallFractions$Measure") rfl i_Ms 3 (by decide) rfl w_103 rfl d_Ms_of_31 ?_
      refine lv_iload_n hx hb d_Ms_of_34 rfl (lv_at hl 0 rfl) ?_
      refine hw_if_eq (tgt := 42) hx hb d_Ms_of_35 (by decide) (by omega) (fun c27 => ?_) (fun c27 => ?_)
      · exact absurd c27 (by decide)
      · refine lv_aload_n hx hb d_Ms_of_38 rfl (lv_at hl 3 rfl) ?_
        refine lv_goto (tgt := 43) hx hb d_Ms_of_39 (by decide) ?_
        refine hw_cV (As := [.ref (o k)]) (rest := []) S hI m_Wh_copyFrom w_435 (c_Wh_copyFrom l D t0 L _ _ o r 46 _ Ls k hLs hY hN hk) (hV _ hLs).1 rfl hl.1 rfl rfl (Nat.le_of_ble_eq_true rfl) d_Ms_of_43 ⟨Nat.le_of_ble_eq_true rfl, Nat.le_of_ble_eq_true rfl⟩ ⟨Nat.le_of_ble_eq_true rfl, Nat.le_of_ble_eq_true rfl⟩ (fun v9 L9 f28 H locs hp hI => ?_)
        refine W.cs (cells' := 0) (slots' := 0) rfl rfl ?_
        obtain ⟨hv9, rfl, hN, hf8⟩ := hp
        cases hv9
        refine hw_stk (st' := []) rfl ?_
        have hM := hM.fr (hf8 _ (hMo Ls hLs) (hMr Ls hLs))
        have hA := hA.fr (hf8 _ (hDo Ls hLs) (hDr Ls hLs))
        have hU : arrN D L f28 al 42 u := hU.fr (hf8 _ (halo Ls hLs) (hal Ls hLs))
        have hWb : arrN D L f28 ab 42 w := hWb.fr (hf8 _ (hblo Ls hLs) (hbl Ls hLs))
        rw [show va_up x G (x j) k = x k from hw_up_ne (by omega)] at hN
        have y1 : va_up (va_up x G (x j)) Ls (x k) G = x j := by rw [hw_up_ne t7, hw_up_eq]
        have y2 : va_up (va_up x G (x j)) Ls (x k) Ls = x k := hw_up_eq
        refine lv_iconst (v := nI 0) hx hb d_Ms_of_46 (by decide) ?_
        refine lv_istore (lv' := [(4, .int (nI 0)), (3, .int (nI 1)), (0, .ref (am)), (1, .ref (o j)), (2, .ref (o k))]) hx hb d_Ms_of_47 hl (by decide) rfl (fun ls hl => ?_)
        exact loop 100000 0 G Ls Rs ea eb ec ed (va_up (va_up x G (x j)) Ls (x k)) u w _ _ _ _ (by omega) (by rw [y1, y2, Nat.pow_zero, Nat.one_mul]; exact Nat.le_refl _) (by rw [y1, y2]; exact hjk) hTr hN (by rw [y1]; omega) (by rw [y1, y2, hGd]) (fun i hi => by rw [hw_up_ne (by omega), hw_up_ne (by omega)]) hM hA hU hWb (fun q q1 q2 q3 q4 => (hf8 q (q4 Ls (by omega) (by omega)).1 (q4 Ls (by omega) (by omega)).2).trans (hf9 q (q4 G (by omega) (by omega)).1 (q4 G (by omega) (by omega)).2)) hI (lv_sub hl [0, 2] rfl)
end

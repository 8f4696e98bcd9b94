/-! a method of the class that throws -/
abbrev NMS : List String := ["java/lang/RuntimeException", "java/lang/Exception"]
def thr_ok (own : String) (ic : Nat) (cls : String) : Prop := (∀ w ∈ (vx_atS own ic cls NMS).filter goodWord, w ∈ lw_tbl) ∧ (∀ w ∈ (vx_atS own ic cls NMS).filter (fun w => !goodWord w), w ∈ FW) ∧ (∀ w ∈ vx_atS own ic cls NMS, vx_ot w = true) ∧ Bundle.fit cls = true
set_option maxRecDepth 100000 in
theorem thr_1 : thr_ok "WallFractions" 194 "java/lang/IllegalArgumentException" := ⟨by decide +kernel, by decide +kernel, by decide +kernel, by decide +kernel⟩
set_option maxRecDepth 100000 in
theorem thr_2 : thr_ok "WallFractions" 53 "java/lang/ArithmeticException" := ⟨by decide +kernel, by decide +kernel, by decide +kernel, by decide +kernel⟩
set_option maxRecDepth 100000 in
theorem thr_3 : thr_ok "WallFractions" 181 "java/lang/IllegalStateException" := ⟨by decide +kernel, by decide +kernel, by decide +kernel, by decide +kernel⟩
set_option maxRecDepth 100000 in
theorem thr_4 : thr_ok "WallFractions" 150 "java/lang/IndexOutOfBoundsException" := ⟨by decide +kernel, by decide +kernel, by decide +kernel, by decide +kernel⟩
set_option maxRecDepth 100000 in
theorem thr_5 : thr_ok "WallFractions$Reckoner" 55 "java/lang/IllegalStateException" := ⟨by decide +kernel, by decide +kernel, by decide +kernel, by decide +kernel⟩
section THR
variable {p : Program} {l : Launch} {e : Env} {R : Room} {s : State} {m : MethodId} {args : Array Value} {below : List Frame} {meth : Method} {c : Code} {H : Heap} {locs : List Loc} {cells slots : Nat}
variable {cc : ByteArray} {pc nL : Nat} {ls : Array Slot} {rest : List Value} {D : va_G} {t0 : Nat} {L0 L : List Nat} {f : Nat → va_E} {own : String} {sz mc ms : Nat} {post : Outcome → List Nat → (Nat → va_E) → Prop} {px : String → List Nat → (Nat → va_E) → Prop}
theorem hw_Xof (hI : hw_I D t0 (hw_A L0 sz) s L f H locs) {cls : String} (hp : px cls L f) (t : State) (h1 : H.size ≤ t.heap.size) (h2 : ∀ q : Nat, q < H.size → t.heap[q]? = H[q]?) : hw_X D L0 sz px cls s t := by
  refine ⟨⟨L, f, hp, hI.1.kept (fun k q hk => h2 _ ((hI.1 k q hk).lt)), hI.2.1⟩, Nat.le_trans hI.2.2.1.1 h1, fun q hq hA => ?_⟩
  rw [h2 q (Nat.lt_of_lt_of_le hq hI.2.2.1.1)]
  exact hI.2.2.1.2.1 q hq hA
theorem hw_thr (S : CallFix p m c cc nL s args TT own) (hI : hw_I D t0 (hw_A L0 sz) s L f H locs) (hl : l.stackTraces = false) (hout : ∀ x ∈ c.exceptionTable.toList, False) (hlocks : meth.locks = false) {cls text : String} {ik is ic : Nat} (hok : thr_ok own ic cls) (hST : (own, is, text) ∈ ST)
    (hk : Cond.classLink own ik cls ∈ TT) (hini : Cond.initialized cls ∈ TT) (hls : ls.size = nL)
    (d0 : decode cc pc = .ok (.new ik, 3)) (d3 : decode cc (pc + 3) = .ok (.dup, 1)) (d4 : decode cc (pc + 4) = .ok (.ldc is, 2)) (d6 : decode cc (pc + 6) = .ok (.invokespecial ic, 3)) (d9 : decode cc (pc + 9) = .ok (.athrow, 1))
    (hRf : 6 ≤ R.frames) (hRl : (rest.map fun v => v.category).sum + 82 ≤ R.locals) (hRc : cells + 1 ≤ R.cells ∧ slots + 6 ≤ R.slots) (hm : cells + 1 ≤ mc ∧ slots + 6 ≤ ms) (hp : px cls L f) :
    W p l e R s m args below meth c H locs cells slots (vx_MQ below (hw_Q D L0 sz post) (hw_X D L0 sz px) args s mc ms (hw_A L0 sz)) (F0 m pc ls rest) := by
  have hX := hI.2.2.2.2.2
  obtain ⟨-, -, hs, -, -, hU, hN, hFW, -⟩ := hX
  obtain ⟨sa, hsa⟩ := hs _ hST
  have hts : ∀ w ∈ TT, w.before args s = true := S.2.2.2.2
  have hat : ∀ w ∈ vx_atS own ic cls NMS, w.before args s = true := vx_hat (B := FW) (fun w hw => hts w (List.mem_filter.mpr ⟨hok.1 w hw, (List.mem_filter.mp hw).2⟩)) hok.2.1 (FW_any hFW)
  refine vx_throwS (names := NMS) (sa := sa) (A := hw_A L0 sz) (text := text) S.1 S.2.1 hl S.2.2.2.1 hok.2.2.2 (by decide) (hts _ hk) (hts _ hini) hsa hat ?_ hU hN hI.2.2.1 (hls.trans S.2.2.1.symm) d0 d3 d4 d6 d9 (fun x hx => absurd (hout x hx) id) (by show 2 + 3 < R.frames; omega) (by show _ + (13 * (2 + 1) + 43) ≤ R.locals; omega) hRc.1 hRc.2 hlocks (fun t _ h1 h2 => hw_Xof hI hp t h1 h2) hI.2.2.1.2.2 hm.1 hm.2
  intro w hw
  rcases List.mem_cons.mp hw with h | h
  · rw [h]; rfl
  · rcases List.mem_cons.mp h with h | h
    · rw [h]; rfl
    · exact hok.2.2.1 w h
/-- an exception of a callee goes on to the caller -/
theorem hw_on (hI : hw_I D t0 (hw_A L0 sz) s L f H locs) (hout : ∀ x ∈ c.exceptionTable.toList, False) (hlocks : meth.locks = false) {E : String} {ce : Cell} {q : Addr} (hcell : H[q]? = some ce) (hv : ce.vm = .none) (hcl : s.vm.findClass E = some ce.cls) (hp : px E L f) (hm : cells ≤ mc ∧ slots ≤ ms) :
    vx_W p l e R s m args below meth c H locs cells slots (vx_MQ below (hw_Q D L0 sz post) (hw_X D L0 sz px) args s mc ms (hw_A L0 sz)) (F0 m pc ls rest) q :=
  vx_out (fun x hx => absurd (hout x hx) id) hlocks hcell hv hcl (fun t ht _ => hw_Xof hI hp t (by rw [ht]; exact Nat.le_refl _) (fun q _ => by rw [ht])) hI.2.2.1.2.2 hm.1 hm.2
end THR

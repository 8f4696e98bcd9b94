/-! the reference's object: rows of 128 cells of four digits -/
abbrev mB : Nat := 10000
def Mb (D : va_G) (L : List Nat) (f : Nat → va_E) (mm mc ml mg mw mr : Nat) (th : Int32) (c n : Nat → Nat) (sn : Nat → Int32) (wt rr : Nat → Nat) : Prop :=
  hw_c L f mm (.inr (7, [.int th, .ref mc, .ref ml, .ref mg, .ref mw, .ref mr])) ∧ arrI D L f mc 6400 c ∧ arrI D L f ml 50 n ∧ arrR D L f mg 16 sn ∧ arrI D L f mw 10 wt ∧ arrN D L f mr 10 rr
def Mc (c n y : Nat → Nat) : Prop := (∀ q, c q < 10000) ∧ ∀ i, i < 50 → n i ≤ 128 ∧ nOk 10000 (n i) (nsh c (128 * i)) (y i)
def Mn (D : va_G) (L : List Nat) (f : Nat → va_E) (mm mc ml mg mw mr : Nat) (th : Int32) (y : Nat → Nat) (sn : Nat → Int32) (wt rr : Nat → Nat) : Prop := ∃ c n, Mb D L f mm mc ml mg mw mr th c n sn wt rr ∧ Mc c n y
def OwM (mm mc ml mg mw mr q : Nat) : Prop := q = mm ∨ q = mc ∨ q = ml ∨ q = mg ∨ q = mw ∨ q = mr
def Fo (mm mc ml mg mw mr : Nat) (f f' : Nat → va_E) : Prop := ∀ q, ¬ OwM mm mc ml mg mw mr q → f' q = f q
theorem Fo.refl {mm mc ml mg mw mr : Nat} {f : Nat → va_E} : Fo mm mc ml mg mw mr f f := fun _ _ => rfl
theorem Fo.trans {mm mc ml mg mw mr : Nat} {f g h : Nat → va_E} (a : Fo mm mc ml mg mw mr f g) (b : Fo mm mc ml mg mw mr g h) : Fo mm mc ml mg mw mr f h := fun q hq => (b q hq).trans (a q hq)
theorem Fo.umm {mm mc ml mg mw mr : Nat} {f g h : Nat → va_E} (a : Fo mm mc ml mg mw mr f g) (b : ∀ q, q ≠ mm → h q = g q) : Fo mm mc ml mg mw mr f h := fun q hq => (b q (fun e => hq (Or.inl e))).trans (a q hq)
theorem Fo.umc {mm mc ml mg mw mr : Nat} {f g h : Nat → va_E} (a : Fo mm mc ml mg mw mr f g) (b : ∀ q, q ≠ mc → h q = g q) : Fo mm mc ml mg mw mr f h := fun q hq => (b q (fun e => hq (Or.inr (Or.inl e)))).trans (a q hq)
theorem Fo.uml {mm mc ml mg mw mr : Nat} {f g h : Nat → va_E} (a : Fo mm mc ml mg mw mr f g) (b : ∀ q, q ≠ ml → h q = g q) : Fo mm mc ml mg mw mr f h := fun q hq => (b q (fun e => hq (Or.inr (Or.inr (Or.inl e))))).trans (a q hq)
theorem Fo.umg {mm mc ml mg mw mr : Nat} {f g h : Nat → va_E} (a : Fo mm mc ml mg mw mr f g) (b : ∀ q, q ≠ mg → h q = g q) : Fo mm mc ml mg mw mr f h := fun q hq => (b q (fun e => hq (Or.inr (Or.inr (Or.inr (Or.inl e)))))).trans (a q hq)
theorem Fo.umw {mm mc ml mg mw mr : Nat} {f g h : Nat → va_E} (a : Fo mm mc ml mg mw mr f g) (b : ∀ q, q ≠ mw → h q = g q) : Fo mm mc ml mg mw mr f h := fun q hq => (b q (fun e => hq (Or.inr (Or.inr (Or.inr (Or.inr (Or.inl e))))))).trans (a q hq)
theorem Fo.umr {mm mc ml mg mw mr : Nat} {f g h : Nat → va_E} (a : Fo mm mc ml mg mw mr f g) (b : ∀ q, q ≠ mr → h q = g q) : Fo mm mc ml mg mw mr f h := fun q hq => (b q (fun e => hq (Or.inr (Or.inr (Or.inr (Or.inr (Or.inr (e)))))))).trans (a q hq)
section MBU
variable {D : va_G} {L : List Nat} {f f' : Nat → va_E} {mm mc ml mg mw mr : Nat} {th : Int32} {c c' n n' : Nat → Nat} {sn sn' : Nat → Int32} {wt wt' rr rr' : Nat → Nat} {th' : Int32}
theorem Mb.umm (h : Mb D L f mm mc ml mg mw mr th c n sn wt rr) (hf : ∀ q, q ≠ mm → f' q = f q) (hc : hw_c L f' mm (.inr (7, [.int th', .ref mc, .ref ml, .ref mg, .ref mw, .ref mr]))) : Mb D L f' mm mc ml mg mw mr th' c n sn wt rr := ⟨hc, hw_c.fr h.2.1 (hf _ (hw_c.ne h.2.1 h.1 (fun e => by first | (cases e; done) | simp at e))), hw_c.fr h.2.2.1 (hf _ (hw_c.ne h.2.2.1 h.1 (fun e => by first | (cases e; done) | simp at e))), hw_c.fr h.2.2.2.1 (hf _ (hw_c.ne h.2.2.2.1 h.1 (fun e => by first | (cases e; done) | simp at e))), hw_c.fr h.2.2.2.2.1 (hf _ (hw_c.ne h.2.2.2.2.1 h.1 (fun e => by first | (cases e; done) | simp at e))), hw_c.fr h.2.2.2.2.2 (hf _ (hw_c.ne h.2.2.2.2.2 h.1 (fun e => by first | (cases e; done) | simp at e)))⟩
theorem Mb.umc (h : Mb D L f mm mc ml mg mw mr th c n sn wt rr) (hf : ∀ q, q ≠ mc → f' q = f q) (hc : arrI D L f' mc 6400 c') : Mb D L f' mm mc ml mg mw mr th c' n sn wt rr := ⟨hw_c.fr h.1 (hf _ (hw_c.ne h.1 h.2.1 (fun e => by first | (cases e; done) | simp at e))), hc, hw_c.fr h.2.2.1 (hf _ (hw_c.ne h.2.2.1 h.2.1 (fun e => by first | (cases e; done) | simp at e))), hw_c.fr h.2.2.2.1 (hf _ (hw_c.ne h.2.2.2.1 h.2.1 (fun e => by first | (cases e; done) | simp at e))), hw_c.fr h.2.2.2.2.1 (hf _ (hw_c.ne h.2.2.2.2.1 h.2.1 (fun e => by first | (cases e; done) | simp at e))), hw_c.fr h.2.2.2.2.2 (hf _ (hw_c.ne h.2.2.2.2.2 h.2.1 (fun e => by first | (cases e; done) | simp at e)))⟩
theorem Mb.uml (h : Mb D L f mm mc ml mg mw mr th c n sn wt rr) (hf : ∀ q, q ≠ ml → f' q = f q) (hc : arrI D L f' ml 50 n') : Mb D L f' mm mc ml mg mw mr th c n' sn wt rr := ⟨hw_c.fr h.1 (hf _ (hw_c.ne h.1 h.2.2.1 (fun e => by first | (cases e; done) | simp at e))), hw_c.fr h.2.1 (hf _ (hw_c.ne h.2.1 h.2.2.1 (fun e => by first | (cases e; done) | simp at e))), hc, hw_c.fr h.2.2.2.1 (hf _ (hw_c.ne h.2.2.2.1 h.2.2.1 (fun e => by first | (cases e; done) | simp at e))), hw_c.fr h.2.2.2.2.1 (hf _ (hw_c.ne h.2.2.2.2.1 h.2.2.1 (fun e => by first | (cases e; done) | simp at e))), hw_c.fr h.2.2.2.2.2 (hf _ (hw_c.ne h.2.2.2.2.2 h.2.2.1 (fun e => by first | (cases e; done) | simp at e)))⟩
theorem Mb.umg (h : Mb D L f mm mc ml mg mw mr th c n sn wt rr) (hf : ∀ q, q ≠ mg → f' q = f q) (hc : arrR D L f' mg 16 sn') : Mb D L f' mm mc ml mg mw mr th c n sn' wt rr := ⟨hw_c.fr h.1 (hf _ (hw_c.ne h.1 h.2.2.2.1 (fun e => by first | (cases e; done) | simp at e))), hw_c.fr h.2.1 (hf _ (hw_c.ne h.2.1 h.2.2.2.1 (fun e => by first | (cases e; done) | simp at e))), hw_c.fr h.2.2.1 (hf _ (hw_c.ne h.2.2.1 h.2.2.2.1 (fun e => by first | (cases e; done) | simp at e))), hc, hw_c.fr h.2.2.2.2.1 (hf _ (hw_c.ne h.2.2.2.2.1 h.2.2.2.1 (fun e => by first | (cases e; done) | simp at e))), hw_c.fr h.2.2.2.2.2 (hf _ (hw_c.ne h.2.2.2.2.2 h.2.2.2.1 (fun e => by first | (cases e; done) | simp at e)))⟩
theorem Mb.umw (h : Mb D L f mm mc ml mg mw mr th c n sn wt rr) (hf : ∀ q, q ≠ mw → f' q = f q) (hc : arrI D L f' mw 10 wt') : Mb D L f' mm mc ml mg mw mr th c n sn wt' rr := ⟨hw_c.fr h.1 (hf _ (hw_c.ne h.1 h.2.2.2.2.1 (fun e => by first | (cases e; done) | simp at e))), hw_c.fr h.2.1 (hf _ (hw_c.ne h.2.1 h.2.2.2.2.1 (fun e => by first | (cases e; done) | simp at e))), hw_c.fr h.2.2.1 (hf _ (hw_c.ne h.2.2.1 h.2.2.2.2.1 (fun e => by first | (cases e; done) | simp at e))), hw_c.fr h.2.2.2.1 (hf _ (hw_c.ne h.2.2.2.1 h.2.2.2.2.1 (fun e => by first | (cases e; done) | simp at e))), hc, hw_c.fr h.2.2.2.2.2 (hf _ (hw_c.ne h.2.2.2.2.2 h.2.2.2.2.1 (fun e => by first | (cases e; done) | simp at e)))⟩
theorem Mb.umr (h : Mb D L f mm mc ml mg mw mr th c n sn wt rr) (hf : ∀ q, q ≠ mr → f' q = f q) (hc : arrN D L f' mr 10 rr') : Mb D L f' mm mc ml mg mw mr th c n sn wt rr' := ⟨hw_c.fr h.1 (hf _ (hw_c.ne h.1 h.2.2.2.2.2 (fun e => by first | (cases e; done) | simp at e))), hw_c.fr h.2.1 (hf _ (hw_c.ne h.2.1 h.2.2.2.2.2 (fun e => by first | (cases e; done) | simp at e))), hw_c.fr h.2.2.1 (hf _ (hw_c.ne h.2.2.1 h.2.2.2.2.2 (fun e => by first | (cases e; done) | simp at e))), hw_c.fr h.2.2.2.1 (hf _ (hw_c.ne h.2.2.2.1 h.2.2.2.2.2 (fun e => by first | (cases e; done) | simp at e))), hw_c.fr h.2.2.2.2.1 (hf _ (hw_c.ne h.2.2.2.2.1 h.2.2.2.2.2 (fun e => by first | (cases e; done) | simp at e))), hc⟩
end MBU
theorem Mc.lt {c n y : Nat → Nat} (h : Mc c n y) {i : Nat} (hi : i < 50) : y i < 10000 ^ n i := (h.2 i hi).2.lt
/-- a row is written anew: the others stay -/
theorem Mc.up {c c1 n y : Nat → Nat} {i k x : Nat} (h : Mc c n y) (hi : i < 50) (hB : ∀ q, c1 q < 10000) (ho : ∀ q, q < 128 * i ∨ 128 * i + 128 ≤ q → c1 q = c q) (hk : k ≤ 128) (hn : nOk 10000 k (nsh c1 (128 * i)) x) : Mc c1 (va_up n i k) (va_up y i x) := by
  refine ⟨hB, fun j hj => ?_⟩
  by_cases e : j = i
  · subst e
    rw [hw_up_eq, hw_up_eq]
    exact ⟨hk, hn⟩
  · rw [hw_up_ne e, hw_up_ne e]
    obtain ⟨h1, h2, h3, h4⟩ := h.2 j hj
    have key : ∀ q, q < 128 → nsh c1 (128 * j) q = nsh c (128 * j) q := fun q hq => ho _ (by omega)
    refine ⟨h1, fun q => hB _, fun hp => ?_, ?_⟩
    · rw [key _ (by omega)]
      exact h3 hp
    · rw [nvb_congr (fun q hq => key q (by omega))]
      exact h4
def pcl (c n : Nat → Nat) (i k : Nat) : Nat := if k < n i then c (128 * i + k) else 0
theorem pcl_eq (c n : Nat → Nat) (i k : Nat) : pcl c n i k = padl (n i, nsh c (128 * i)) k := rfl
theorem pcl_lt {c n : Nat → Nat} (h : ∀ q, c q < 10000) (i k : Nat) : pcl c n i k < 10000 := by
  unfold pcl
  split
  · exact h _
  · decide
theorem pcl_congr {c c1 n : Nat → Nat} {i k : Nat} (h : c1 (128 * i + k) = c (128 * i + k)) : pcl c1 n i k = pcl c n i k := by
  unfold pcl
  rw [h]
theorem nsh_upc {c : Nat → Nat} {i k v : Nat} : nsh (va_up c (128 * i + k) v) (128 * i) = va_up (nsh c (128 * i)) k v := nsh_up
theorem upB {c : Nat → Nat} {k v b : Nat} (h : ∀ q, c q < b) (hv : v < b) : ∀ q, va_up c k v q < b := fun q => by
  by_cases e : q = k
  · subst e; rw [hw_up_eq]; exact hv
  · rw [hw_up_ne e]; exact h q
theorem nOk_settleM {c : Nat → Nat} {i n0 n' : Nat} (hB : ∀ q, c q < 10000) (hn : n' ≤ n0) (ht : 0 < n' → 0 < c (128 * i + (n' - 1))) (hz : ∀ j, n' ≤ j → j < n0 → c (128 * i + j) = 0) : nOk 10000 n' (nsh c (128 * i)) (nvb 10000 (nsh c (128 * i)) n0) := nOk_settle (fun j => hB _) hn ht hz

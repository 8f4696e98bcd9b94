/-! the world of one object of the class -/
def sB (b : Bool) : Int32 := if b then nI 1 else nI 0
def cDv (al ab : Nat) : va_E := .inr (0, [.ref al, .ref ab])
def cMs (o : Nat → Nat) (ad G Ls Rs : Nat) (ea eb ec ed : Int) : va_E := .inr (2, [.ref ad, .ref (o 38), .ref (o G), .ref (o Ls), .ref (o Rs), .long (zL ea), .long (zL eb), .long (zL ec), .long (zL ed)])
def cRk (o fr : Nat → Nat) (ad am : Nat) : va_E := .inr (3, [.ref ad, .ref am, .ref (fr 16), .ref (o 34), .ref (o 35), .ref (o 36), .ref (o 37)])
def cFr (o : Nat → Nat) (k : Nat) (b : Bool) : va_E := .inr (1, [.ref (o (2 * k)), .ref (o (2 * k + 1)), .int (sB b)])
def cSh (o : Nat → Nat) (ad aw ar : Nat) : va_E := .inr (4, [.ref ad, .ref aw, .ref ar, .ref (o 42), .ref (o 43), .ref (o 44), .ref (o 45)])
def cWt (D : va_G) (wt : Nat → Nat) : va_E := .inl (D.1 101, 10, .inl (fun q => nI (wt q)))
def cRg (D : va_G) (fr : Nat → Nat) : va_E := .inl (D.1 102, 16, .inr (.inr (.inr (.inr (fun k => some (fr k))))))
def cWf (rg ak ah : Nat) : va_E := .inr (6, [.ref rg, .ref ak, .ref ah])
def Gl (o r fr : Nat → Nat) (ad al ab am ak ah aw ar rg wf : Nat) : Prop := Lay o r 46 ∧ al ≠ ab ∧ ∀ i j, i < 17 → j < 17 → fr i = fr j → i = j
def Wd (D : va_G) (L : List Nat) (f : Nat → va_E) (o r fr : Nat → Nat) (ad al ab am ak ah aw ar rg wf : Nat) (x : Nat → Nat) (sg : Nat → Bool) (wt rs : Nat → Nat) : Prop :=
  AllN D L f o r 46 x ∧ (∃ u w, hw_c L f ad (cDv al ab) ∧ arrN D L f al 42 u ∧ arrN D L f ab 42 w) ∧ (∃ (G Ls Rs : Nat) (ea eb ec ed : Int), Tri G Ls Rs ∧ hw_c L f am (cMs o ad G Ls Rs ea eb ec ed)) ∧
  hw_c L f ak (cRk o fr ad am) ∧ (∀ k, k < 17 → hw_c L f (fr k) (cFr o k (sg k))) ∧ hw_c L f ah (cSh o ad aw ar) ∧ hw_c L f aw (cWt D wt) ∧ arrN D L f ar 10 rs ∧ hw_c L f rg (cRg D fr) ∧ hw_c L f wf (cWf rg ak ah)
def Own (o r fr : Nat → Nat) (ad al ab am ak ah aw ar rg wf : Nat) (q : Nat) : Prop := (∃ i, i < 46 ∧ (q = o i ∨ q = r i)) ∨ (∃ k, k < 17 ∧ q = fr k) ∨ q = al ∨ q = ab ∨ q = am ∨ q = aw ∨ q = ar
def Fm (o r fr : Nat → Nat) (ad al ab am ak ah aw ar rg wf : Nat) (f f' : Nat → va_E) : Prop := ∀ q, ¬ Own o r fr ad al ab am ak ah aw ar rg wf q → f' q = f q
theorem Fm.refl {o r fr : Nat → Nat} {ad al ab am ak ah aw ar rg wf : Nat} {f : Nat → va_E} : Fm o r fr ad al ab am ak ah aw ar rg wf f f := fun _ _ => rfl
theorem Fm.trans {o r fr : Nat → Nat} {ad al ab am ak ah aw ar rg wf : Nat} {f g h : Nat → va_E} (a : Fm o r fr ad al ab am ak ah aw ar rg wf f g) (b : Fm o r fr ad al ab am ak ah aw ar rg wf g h) : Fm o r fr ad al ab am ak ah aw ar rg wf f h := fun q hq => (b q hq).trans (a q hq)
theorem Fm.wh {o r fr : Nat → Nat} {ad al ab am ak ah aw ar rg wf : Nat} {f f1 f2 : Nat → va_E} (a : Fm o r fr ad al ab am ak ah aw ar rg wf f f1) (h : ∀ q, (∀ i, i < 46 → q ≠ o i ∧ q ≠ r i) → q ≠ al → q ≠ ab → q ≠ am → f2 q = f1 q) : Fm o r fr ad al ab am ak ah aw ar rg wf f f2 := fun q hq =>
  (h q (fun i hi => ⟨fun e => hq (Or.inl ⟨i, hi, Or.inl e⟩), fun e => hq (Or.inl ⟨i, hi, Or.inr e⟩)⟩) (fun e => hq (Or.inr (Or.inr (Or.inl e)))) (fun e => hq (Or.inr (Or.inr (Or.inr (Or.inl e))))) (fun e => hq (Or.inr (Or.inr (Or.inr (Or.inr (Or.inl e))))))).trans (a q hq)
theorem Fm.sg {o r fr : Nat → Nat} {ad al ab am ak ah aw ar rg wf : Nat} {f f1 f2 : Nat → va_E} (a : Fm o r fr ad al ab am ak ah aw ar rg wf f f1) {k : Nat} (hk : k < 17) (h : ∀ q, q ≠ fr k → f2 q = f1 q) : Fm o r fr ad al ab am ak ah aw ar rg wf f f2 := fun q hq =>
  (h q (fun e => hq (Or.inr (Or.inl ⟨k, hk, e⟩)))).trans (a q hq)
theorem Fm.wt {o r fr : Nat → Nat} {ad al ab am ak ah aw ar rg wf : Nat} {f f1 f2 : Nat → va_E} (a : Fm o r fr ad al ab am ak ah aw ar rg wf f f1) (h : ∀ q, q ≠ aw → f2 q = f1 q) : Fm o r fr ad al ab am ak ah aw ar rg wf f f2 := fun q hq =>
  (h q (fun e => hq (Or.inr (Or.inr (Or.inr (Or.inr (Or.inr (Or.inl e)))))))).trans (a q hq)
theorem Fm.rs {o r fr : Nat → Nat} {ad al ab am ak ah aw ar rg wf : Nat} {f f1 f2 : Nat → va_E} (a : Fm o r fr ad al ab am ak ah aw ar rg wf f f1) (h : ∀ q, q ≠ ar → f2 q = f1 q) : Fm o r fr ad al ab am ak ah aw ar rg wf f f2 := fun q hq =>
  (h q (fun e => hq (Or.inr (Or.inr (Or.inr (Or.inr (Or.inr (Or.inr e)))))))).trans (a q hq)
section WD
variable {D : va_G} {L : List Nat} {f f' : Nat → va_E} {o r fr : Nat → Nat} {ad al ab am ak ah aw ar rg wf : Nat} {x x' : Nat → Nat} {sg : Nat → Bool} {wt rs : Nat → Nat}
theorem Wd.N (h : Wd D L f o r fr ad al ab am ak ah aw ar rg wf x sg wt rs) : AllN D L f o r 46 x := h.1
theorem Wd.Dv (h : Wd D L f o r fr ad al ab am ak ah aw ar rg wf x sg wt rs) : ∃ u w, hw_c L f ad (.inr (0, [.ref al, .ref ab])) ∧ arrN D L f al 42 u ∧ arrN D L f ab 42 w := h.2.1
theorem Wd.Ms (h : Wd D L f o r fr ad al ab am ak ah aw ar rg wf x sg wt rs) : ∃ (G Ls Rs : Nat) (ea eb ec ed : Int), Tri G Ls Rs ∧ hw_c L f am (.inr (2, [.ref ad, .ref (o 38), .ref (o G), .ref (o Ls), .ref (o Rs), .long (zL ea), .long (zL eb), .long (zL ec), .long (zL ed)])) := h.2.2.1
theorem Wd.Rk (h : Wd D L f o r fr ad al ab am ak ah aw ar rg wf x sg wt rs) : hw_c L f ak (.inr (3, [.ref ad, .ref am, .ref (fr 16), .ref (o 34), .ref (o 35), .ref (o 36), .ref (o 37)])) := h.2.2.2.1
theorem Wd.Fr (h : Wd D L f o r fr ad al ab am ak ah aw ar rg wf x sg wt rs) {k : Nat} (hk : k < 17) : hw_c L f (fr k) (.inr (1, [.ref (o (2 * k)), .ref (o (2 * k + 1)), .int (sB (sg k))])) := h.2.2.2.2.1 k hk
theorem Wd.Out (h : Wd D L f o r fr ad al ab am ak ah aw ar rg wf x sg wt rs) : hw_c L f (fr 16) (.inr (1, [.ref (o 32), .ref (o 33), .int (sB (sg 16))])) := h.2.2.2.2.1 16 (by decide)
theorem Wd.Sh (h : Wd D L f o r fr ad al ab am ak ah aw ar rg wf x sg wt rs) : hw_c L f ah (.inr (4, [.ref ad, .ref aw, .ref ar, .ref (o 42), .ref (o 43), .ref (o 44), .ref (o 45)])) := h.2.2.2.2.2.1
theorem Wd.Wt (h : Wd D L f o r fr ad al ab am ak ah aw ar rg wf x sg wt rs) : hw_c L f aw (.inl (D.1 101, 10, .inl (fun q => nI (wt q)))) := h.2.2.2.2.2.2.1
theorem Wd.Rs (h : Wd D L f o r fr ad al ab am ak ah aw ar rg wf x sg wt rs) : arrN D L f ar 10 rs := h.2.2.2.2.2.2.2.1
theorem Wd.Rg (h : Wd D L f o r fr ad al ab am ak ah aw ar rg wf x sg wt rs) : hw_c L f rg (.inl (D.1 102, 16, .inr (.inr (.inr (.inr (fun k => some (fr k))))))) := h.2.2.2.2.2.2.2.2.1
theorem Wd.Wf (h : Wd D L f o r fr ad al ab am ak ah aw ar rg wf x sg wt rs) : hw_c L f wf (.inr (6, [.ref rg, .ref ak, .ref ah])) := h.2.2.2.2.2.2.2.2.2
theorem Wd.rc (h : Wd D L f o r fr ad al ab am ak ah aw ar rg wf x sg wt rs) {i : Nat} (hi : i < 46) : ∃ fs, hw_c L f (o i) (.inr (5, fs)) := by
  obtain ⟨v, hV, -⟩ := h.1
  exact ⟨_, (hV i hi).1⟩
theorem Wd.lt (h : Wd D L f o r fr ad al ab am ak ah aw ar rg wf x sg wt rs) {i : Nat} (hi : i < 46) : x i < nB ^ 41 := by
  obtain ⟨v, -, hO⟩ := h.1
  exact Nat.lt_of_lt_of_le (hO i hi).2.lt (Nat.pow_le_pow_right nB_pos (hO i hi).1)
theorem Wd.off (h : Wd D L f o r fr ad al ab am ak ah aw ar rg wf x sg wt rs) : (∀ i, i < 46 → al ≠ r i) ∧ (∀ i, i < 46 → ab ≠ r i) ∧ (∀ i, i < 46 → al ≠ o i) ∧ (∀ i, i < 46 → ab ≠ o i) := by
  obtain ⟨v, hV, -⟩ := h.N
  obtain ⟨u, w, -, hU, hW⟩ := h.Dv
  exact ⟨fun i hi => hU.ne (hV i hi).2 (fun e => by simp at e), fun i hi => hW.ne (hV i hi).2 (fun e => by simp at e), fun i hi => hU.ne (hV i hi).1 (fun e => by cases e), fun i hi => hW.ne (hV i hi).1 (fun e => by cases e)⟩
theorem Wd.all (h : Wd D L f o r fr ad al ab am ak ah aw ar rg wf x sg wt rs) (hN : AllN D L f' o r 46 x') (hd : ∃ u w, arrN D L f' al 42 u ∧ arrN D L f' ab 42 w) (hm : ∃ (G Ls Rs : Nat) (ea eb ec ed : Int), Tri G Ls Rs ∧ hw_c L f' am (.inr (2, [.ref ad, .ref (o 38), .ref (o G), .ref (o Ls), .ref (o Rs), .long (zL ea), .long (zL eb), .long (zL ec), .long (zL ed)])))
    (hf : ∀ q, (∀ i, i < 46 → q ≠ o i ∧ q ≠ r i) → q ≠ al → q ≠ ab → q ≠ am → f' q = f q) : Wd D L f' o r fr ad al ab am ak ah aw ar rg wf x' sg wt rs := by
  obtain ⟨v, hV, -⟩ := h.N
  obtain ⟨u, w, hA, hU, hW⟩ := h.Dv
  obtain ⟨G, Ls, Rs, ea, eb, ec, ed, -, hM⟩ := h.Ms
  have key : ∀ {q : Nat} {ci : Nat} {fs : List Value}, hw_c L f q (.inr (ci, fs)) → ci ≠ 5 → ci ≠ 2 → f' q = f q := fun {q ci fs} hq h5 h2 =>
    hf q (fun i hi => ⟨hq.ne (hV i hi).1 (fun e => h5 (by injection e with e; injection e)), hq.ne (hV i hi).2 (fun e => by cases e)⟩) (hq.ne hU (fun e => by cases e)) (hq.ne hW (fun e => by cases e)) (hq.ne hM (fun e => h2 (by injection e with e; injection e)))
  have key2 : ∀ {q : Nat} {cl : ClassId} {z : vp_A}, hw_c L f q (.inl (cl, z)) → z.1 ≠ 41 → z.1 ≠ 42 → f' q = f q := fun {q cl z} hq h1 h2 =>
    hf q (fun i hi => ⟨hq.ne (hV i hi).1 (fun e => by cases e), hq.ne (hV i hi).2 (fun e => h1 (by injection e with e; injection e with _ e; rw [e]))⟩) (hq.ne hU (fun e => h2 (by injection e with e; injection e with _ e; rw [e]))) (hq.ne hW (fun e => h2 (by injection e with e; injection e with _ e; rw [e]))) (hq.ne hM (fun e => by cases e))
  obtain ⟨u', w', hU', hW'⟩ := hd
  exact ⟨hN, ⟨u', w', hA.fr (key hA (by decide) (by decide)), hU', hW'⟩, hm, h.Rk.fr (key h.Rk (by decide) (by decide)), fun k hk => (h.Fr hk).fr (key (h.Fr hk) (by decide) (by decide)), h.Sh.fr (key h.Sh (by decide) (by decide)), h.Wt.fr (key2 h.Wt (by simp) (by simp)), h.Rs.fr (key2 h.Rs (by simp) (by simp)), h.Rg.fr (key2 h.Rg (by simp) (by simp)), h.Wf.fr (key h.Wf (by decide) (by decide))⟩
theorem Wd.wh (h : Wd D L f o r fr ad al ab am ak ah aw ar rg wf x sg wt rs) (hN : AllN D L f' o r 46 x') (hf : ∀ q, (∀ i, i < 46 → q ≠ o i ∧ q ≠ r i) → f' q = f q) : Wd D L f' o r fr ad al ab am ak ah aw ar rg wf x' sg wt rs := by
  obtain ⟨v, hV, -⟩ := h.N
  obtain ⟨u, w, hA, hU, hW⟩ := h.Dv
  obtain ⟨G, Ls, Rs, ea, eb, ec, ed, hT, hM⟩ := h.Ms
  obtain ⟨o1, o2, o3, o4⟩ := h.off
  exact h.all hN ⟨u, w, hU.fr (hf _ (fun i hi => ⟨o3 i hi, o1 i hi⟩)), hW.fr (hf _ (fun i hi => ⟨o4 i hi, o2 i hi⟩))⟩ ⟨G, Ls, Rs, ea, eb, ec, ed, hT, hM.fr (hf _ (fun i hi => ⟨hM.ne (hV i hi).1 (fun e => by cases e), hM.ne (hV i hi).2 (fun e => by cases e)⟩))⟩ (fun q h1 _ _ _ => hf q h1)
theorem Wd.sp (h : Wd D L f o r fr ad al ab am ak ah aw ar rg wf x sg wt rs) (hN : AllN D L f' o r 46 x') (hd : ∃ u w, arrN D L f' al 42 u ∧ arrN D L f' ab 42 w) (hf : ∀ q, (∀ i, i < 46 → q ≠ o i ∧ q ≠ r i) → q ≠ al → q ≠ ab → f' q = f q) : Wd D L f' o r fr ad al ab am ak ah aw ar rg wf x' sg wt rs := by
  obtain ⟨v, hV, -⟩ := h.N
  obtain ⟨u, w, hA, hU, hW⟩ := h.Dv
  obtain ⟨G, Ls, Rs, ea, eb, ec, ed, hT, hM⟩ := h.Ms
  exact h.all hN hd ⟨G, Ls, Rs, ea, eb, ec, ed, hT, hM.fr (hf _ (fun i hi => ⟨hM.ne (hV i hi).1 (fun e => by cases e), hM.ne (hV i hi).2 (fun e => by cases e)⟩) (hM.ne hU (fun e => by cases e)) (hM.ne hW (fun e => by cases e)))⟩ (fun q h1 h2 h3 _ => hf q h1 h2 h3)
theorem Wd.cells {sg' : Nat → Bool} {wt' rs' : Nat → Nat} (h : Wd D L f o r fr ad al ab am ak ah aw ar rg wf x sg wt rs) {q : Nat} (hq : ∀ {i : Nat}, i < 46 → q ≠ o i ∧ q ≠ r i) (h1 : q ≠ ad) (h2 : q ≠ al) (h3 : q ≠ ab) (h4 : q ≠ am) (h5 : q ≠ ak) (h6 : q ≠ ah) (h7 : q ≠ rg) (h8 : q ≠ wf) (hf : ∀ z, z ≠ q → f' z = f z) (hfr : ∀ k, k < 17 → hw_c L f' (fr k) (cFr o k (sg' k))) (hw : hw_c L f' aw (cWt D wt')) (hr : arrN D L f' ar 10 rs') : Wd D L f' o r fr ad al ab am ak ah aw ar rg wf x sg' wt' rs' := by
  obtain ⟨u, w, hA, hU, hW⟩ := h.Dv
  obtain ⟨G, Ls, Rs, ea, eb, ec, ed, hT, hM⟩ := h.Ms
  exact ⟨h.N.frame (fun i hi => ⟨hf _ (hq hi).1.symm, hf _ (hq hi).2.symm⟩), ⟨u, w, hA.fr (hf _ h1.symm), hU.fr (hf _ h2.symm), hW.fr (hf _ h3.symm)⟩, ⟨G, Ls, Rs, ea, eb, ec, ed, hT, hM.fr (hf _ h4.symm)⟩, h.Rk.fr (hf _ h5.symm), hfr, h.Sh.fr (hf _ h6.symm), hw, hr, h.Rg.fr (hf _ h7.symm), h.Wf.fr (hf _ h8.symm)⟩
theorem Wd.sgn (hg : Gl o r fr ad al ab am ak ah aw ar rg wf) (h : Wd D L f o r fr ad al ab am ak ah aw ar rg wf x sg wt rs) {k : Nat} (hk : k < 17) {b : Bool} (hf : ∀ z, z ≠ fr k → f' z = f z) (hc : hw_c L f' (fr k) (cFr o k b)) : Wd D L f' o r fr ad al ab am ak ah aw ar rg wf x (va_up sg k b) wt rs := by
  obtain ⟨v, hV, -⟩ := h.N
  obtain ⟨u, w, hA, hU, hW⟩ := h.Dv
  obtain ⟨G, Ls, Rs, ea, eb, ec, ed, hT, hM⟩ := h.Ms
  have hq := h.Fr hk
  refine h.cells (q := fr k) (fun {i} hi => ⟨hq.ne (hV i hi).1 (fun e => by cases e), hq.ne (hV i hi).2 (fun e => by cases e)⟩) (hq.ne hA (fun e => by cases e)) (hq.ne hU (fun e => by cases e)) (hq.ne hW (fun e => by cases e)) (hq.ne hM (fun e => by cases e)) (hq.ne h.Rk (fun e => by cases e)) (hq.ne h.Sh (fun e => by cases e)) (hq.ne h.Rg (fun e => by cases e)) (hq.ne h.Wf (fun e => by cases e)) hf (fun j hj => ?_) (h.Wt.fr (hf _ (hq.ne h.Wt (fun e => by cases e)).symm)) (h.Rs.fr (hf _ (hq.ne h.Rs (fun e => by cases e)).symm))
  by_cases e : j = k
  · subst e
    rw [hw_up_eq]
    exact hc
  · rw [hw_up_ne e]
    exact (h.Fr hj).fr (hf _ (fun e2 => e (hg.2.2 _ _ hj hk e2)))
theorem Wd.pwt (h : Wd D L f o r fr ad al ab am ak ah aw ar rg wf x sg wt rs) {wt' : Nat → Nat} (hf : ∀ z, z ≠ aw → f' z = f z) (hc : hw_c L f' aw (cWt D wt')) : Wd D L f' o r fr ad al ab am ak ah aw ar rg wf x sg wt' rs := by
  obtain ⟨v, hV, -⟩ := h.N
  obtain ⟨u, w, hA, hU, hW⟩ := h.Dv
  obtain ⟨G, Ls, Rs, ea, eb, ec, ed, hT, hM⟩ := h.Ms
  have hq := h.Wt
  exact h.cells (q := aw) (fun {i} hi => ⟨hq.ne (hV i hi).1 (fun e => by first | cases e | simp at e), hq.ne (hV i hi).2 (fun e => by first | cases e | simp at e)⟩) (hq.ne hA (fun e => by first | cases e | simp at e)) (hq.ne hU (fun e => by first | cases e | simp at e)) (hq.ne hW (fun e => by first | cases e | simp at e)) (hq.ne hM (fun e => by first | cases e | simp at e)) (hq.ne h.Rk (fun e => by first | cases e | simp at e)) (hq.ne h.Sh (fun e => by first | cases e | simp at e)) (hq.ne h.Rg (fun e => by first | cases e | simp at e)) (hq.ne h.Wf (fun e => by first | cases e | simp at e)) hf (fun j hj => (h.Fr hj).fr (hf _ (hq.ne (h.Fr hj) (fun e => by first | cases e | simp at e)).symm)) hc (h.Rs.fr (hf _ (hq.ne h.Rs (fun e => by first | cases e | simp at e)).symm))
theorem Wd.prs (h : Wd D L f o r fr ad al ab am ak ah aw ar rg wf x sg wt rs) {rs' : Nat → Nat} (hf : ∀ z, z ≠ ar → f' z = f z) (hc : arrN D L f' ar 10 rs') : Wd D L f' o r fr ad al ab am ak ah aw ar rg wf x sg wt rs' := by
  obtain ⟨v, hV, -⟩ := h.N
  obtain ⟨u, w, hA, hU, hW⟩ := h.Dv
  obtain ⟨G, Ls, Rs, ea, eb, ec, ed, hT, hM⟩ := h.Ms
  have hq := h.Rs
  exact h.cells (q := ar) (fun {i} hi => ⟨hq.ne (hV i hi).1 (fun e => by first | cases e | simp at e), hq.ne (hV i hi).2 (fun e => by simp at e)⟩) (hq.ne hA (fun e => by first | cases e | simp at e)) (hq.ne hU (fun e => by simp at e)) (hq.ne hW (fun e => by simp at e)) (hq.ne hM (fun e => by first | cases e | simp at e)) (hq.ne h.Rk (fun e => by first | cases e | simp at e)) (hq.ne h.Sh (fun e => by first | cases e | simp at e)) (hq.ne h.Rg (fun e => by first | cases e | simp at e)) (hq.ne h.Wf (fun e => by first | cases e | simp at e)) hf (fun j hj => (h.Fr hj).fr (hf _ (hq.ne (h.Fr hj) (fun e => by first | cases e | simp at e)).symm)) (h.Wt.fr (hf _ (hq.ne h.Wt (fun e => by first | cases e | simp at e)).symm)) hc
theorem Wd.cut {i n : Nat} (h : Wd D L f o r fr ad al ab am ak ah aw ar rg wf (va_up x i n) sg wt rs) : ∃ x1, Wd D L f o r fr ad al ab am ak ah aw ar rg wf x1 sg wt rs ∧ x1 i = n ∧ ∀ z, z ≠ i → x1 z = x z := ⟨_, h, hw_up_eq, fun _ hz => hw_up_ne hz⟩
theorem Wd.cut2 {i j n k : Nat} (hij : i ≠ j) (h : Wd D L f o r fr ad al ab am ak ah aw ar rg wf (va_up (va_up x i n) j k) sg wt rs) : ∃ x1, Wd D L f o r fr ad al ab am ak ah aw ar rg wf x1 sg wt rs ∧ x1 i = n ∧ x1 j = k ∧ ∀ z, z ≠ i → z ≠ j → x1 z = x z := ⟨_, h, by rw [hw_up_ne hij, hw_up_eq], hw_up_eq, fun _ h1 h2 => by rw [hw_up_ne h2, hw_up_ne h1]⟩
theorem Wd.cutS {k : Nat} {b : Bool} (h : Wd D L f o r fr ad al ab am ak ah aw ar rg wf x (va_up sg k b) wt rs) : ∃ s1, Wd D L f o r fr ad al ab am ak ah aw ar rg wf x s1 wt rs ∧ s1 k = b ∧ ∀ z, z ≠ k → s1 z = sg z := ⟨_, h, hw_up_eq, fun _ hz => hw_up_ne hz⟩
end WD

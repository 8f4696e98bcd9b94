/-! the law's state -/
theorem and31 (x : Int32) : ∃ v, v < 32 ∧ x &&& nI 31 = nI v := by
  refine ⟨(x.toBitVec &&& 31#32).toNat, ?_, ?_⟩
  · rw [BitVec.toNat_and]
    exact Nat.lt_of_le_of_lt Nat.and_le_right (by decide)
  · apply Int32.toBitVec_inj.mp
    rw [Int32.toBitVec_and]
    show _ = BitVec.ofNat 32 _
    rw [BitVec.ofNat_toNat, BitVec.setWidth_eq]
    rfl
theorem gt6 {i n : Nat} (hi : i < 2 ^ 20) (hn : n < 2 ^ 20) : nI n - nI 6 < nI i ↔ n < i + 6 := by
  rw [Int32.lt_iff_toInt_lt]
  have e1 : (nI n - nI 6).toInt = (n : Int) - 6 := by
    rw [Int32.toInt_sub, nI_toInt (by omega), nI_toInt (by decide)]
    exact Int.bmod_eq_of_le (by omega) (by omega)
  rw [e1, nI_toInt (by omega)]
  omega
def LG (o r fr : Nat → Nat) (ad al ab am ak ah aw ar rg wf : Nat) (mm mc ml mg mw mr ao : Nat) : Prop := Gl o r fr ad al ab am ak ah aw ar rg wf ∧ (∀ q, Al o r fr ad al ab am ak ah aw ar rg wf q → ¬ OwM mm mc ml mg mw mr q ∧ q ≠ ao) ∧ ¬ OwM mm mc ml mg mw mr ao
def LI (D : va_G) (t0 : Nat) (s : State) (L : List Nat) (f : Nat → va_E) (H : Heap) (locs : List Loc) (o r fr : Nat → Nat) (ad al ab am ak ah aw ar rg wf : Nat) (mm mc ml mg mw mr ao : Nat) (σ : Sg) (wt : Nat → Nat) : Prop :=
  hw_I D t0 (hw_A [] s.heap.size) s L f H locs ∧ Sd D L f o r fr ad al ab am ak ah aw ar rg wf σ wt ∧ (∃ th, Mg D L f mm mc ml mg mw mr th σ wt) ∧ (∃ g, hw_c L f ao (.inl (D.1 100, 1, .inr (.inl g)))) ∧ Ok σ wt

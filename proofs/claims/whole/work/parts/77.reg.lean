/-! the registers while they are built -/
theorem arrQ_congr {c : ClassId} {n : Nat} {h g : Nat → Option Nat} (e : ∀ j, j < n → h j = g j) : vp_cell c (n, .inr (.inr (.inr (.inr h)))) = vp_cell c (n, .inr (.inr (.inr (.inr g)))) := by
  rw [vp_cell_q, vp_cell_q]
  unfold arrV
  congr 2
  funext j
  show va_rf (h j.val) = va_rf (g j.val)
  rw [e j.val j.isLt]
/-- an array is known by what lies within its bounds -/
theorem hw_I.regs {D : va_G} {t0 : Nat} {A : Nat → Prop} {s : State} {L : List Nat} {f : Nat → va_E} {H : Heap} {locs : List Loc} {a : Nat} {h g : Nat → Option Nat} (hI : hw_I D t0 A s L f H locs) (ha : hw_c L f a (cRq D h)) (e : ∀ j, j < 16 → h j = g j) : hw_I D t0 A s L (va_up f a (cRq D g)) H locs := by
  refine ⟨fun k q hk => ?_, hw_D_any hI.2.1, hI.2.2⟩
  unfold va_pl at hk
  rw [List.getElem?_map] at hk
  cases hL : L[k]? with
  | none => rw [hL] at hk; cases hk
  | some z =>
    rw [hL] at hk
    cases hk
    have h0 : va_at D classes (z, f z) H := hI.1 k (z, f z) (by unfold va_pl; rw [List.getElem?_map, hL]; rfl)
    show va_at D classes (z, va_up f a (cRq D g) z) H
    by_cases ez : z = a
    · subst ez
      rw [hw_up_eq]
      rw [ha.2] at h0
      show H[z]? = some (vp_cell _ _)
      have h1 : H[z]? = some (vp_cell _ _) := h0
      rw [h1, arrQ_congr e]
    · rw [hw_up_ne ez]
      exact h0
def RG (t : Nat) (D : va_G) (L0 L : List Nat) (f : Nat → va_E) (o r x fr : Nat → Nat) : Prop :=
  AN 0 (2 * t) D L f o r x ∧ (∀ i, i < 2 * t → o i ∉ L0 ∧ r i ∉ L0) ∧ (∀ k, k < t → hw_c L f (fr k) (cFr o k false) ∧ fr k ∉ L0 ∧ x (2 * k) = 0 ∧ x (2 * k + 1) = 1) ∧ ∀ i j, i < t → j < t → fr i = fr j → i = j
section RGs
variable {D : va_G} {L0 L L' : List Nat} {f f' : Nat → va_E} {o r x fr : Nat → Nat} {t q : Nat}
theorem RG.nil : RG 0 D L0 L f o r x fr := ⟨AN.nil, fun i h => by omega, fun k h => by omega, fun i j h => by omega⟩
theorem RG.new (h : RG t D L0 L f o r x fr) (k : ∀ z, z ∈ L → z ∈ L' ∧ f' z = f z) : RG t D L0 L' f' o r x fr := ⟨h.1.new k, h.2.1, fun j hj => ⟨grow_c k (h.2.2.1 j hj).1, (h.2.2.1 j hj).2⟩, h.2.2.2⟩
theorem RG.put (h : RG t D L0 L f o r x fr) (k : ∀ z, z ≠ q → f' z = f z) (h1 : ∀ i, i < 2 * t → o i ≠ q ∧ r i ≠ q) (h2 : ∀ i, i < t → fr i ≠ q) : RG t D L0 L f' o r x fr := ⟨h.1.put k (fun i _ g => h1 i g), h.2.1, fun j hj => ⟨hw_c.fr (h.2.2.1 j hj).1 (k _ (h2 j hj)), (h.2.2.1 j hj).2⟩, h.2.2.2⟩
theorem RG.neO (h : RG t D L0 L f o r x fr) {fs : List Value} (hq : hw_c L f q (.inr (6, fs))) : (∀ i, i < 2 * t → o i ≠ q ∧ r i ≠ q) ∧ ∀ i, i < t → fr i ≠ q := ⟨fun i g => h.1.ne hq (by decide) i (Nat.zero_le _) g, fun i g => hw_c.ne (h.2.2.1 i g).1 hq (by unfold cFr; intro e; simp at e)⟩
theorem RG.neA (h : RG t D L0 L f o r x fr) {g : Nat → Option Nat} (hq : hw_c L f q (cRq D g)) : (∀ i, i < 2 * t → o i ≠ q ∧ r i ≠ q) ∧ ∀ i, i < t → fr i ≠ q := ⟨fun i g => (h.1.1 i (Nat.zero_le _) g).neA hq (by decide), fun i g => fun e => hw_ne hq (h.2.2.1 i g).1 e.symm⟩
theorem RG.push (h : RG t D L0 L f o r x fr) {q1 t1 q2 t2 a : Nat} (hW1 : W1 D L f q1 t1 0) (hW2 : W1 D L f q2 t2 1) (ha : hw_c L f a (.inr (1, [.ref q1, .ref q2, .int (nI 0)]))) (h1 : ∀ i, i < 2 * t → o i ≠ q1 ∧ r i ≠ t1) (h2 : ∀ i, i < 2 * t → o i ≠ q2 ∧ r i ≠ t2) (h3 : q1 ≠ q2) (h4 : t1 ≠ t2) (h5 : ∀ i, i < t → fr i ≠ a) (n1 : q1 ∉ L0) (n2 : t1 ∉ L0) (n3 : q2 ∉ L0) (n4 : t2 ∉ L0) (n5 : a ∉ L0) : RG (t + 1) D L0 L f (va_up (va_up o (2 * t) q1) (2 * t + 1) q2) (va_up (va_up r (2 * t) t1) (2 * t + 1) t2) (va_up (va_up x (2 * t) 0) (2 * t + 1) 1) (va_up fr t a) := by
  have hA := (h.1.push (Nat.zero_le _) hW1 (fun i _ g => h1 i g)).push (Nat.zero_le _) hW2 (fun i _ g => by
    by_cases e : i = 2 * t
    · rw [e, hw_up_eq, hw_up_eq]; exact ⟨h3, h4⟩
    · rw [hw_up_ne e, hw_up_ne e]; exact h2 i (by omega))
  refine ⟨hA, fun i g => ?_, fun k hk => ?_, fun i j hi hj e => ?_⟩
  · by_cases e1 : i = 2 * t + 1
    · subst e1; rw [hw_up_eq, hw_up_eq]; exact ⟨n3, n4⟩
    · rw [hw_up_ne e1, hw_up_ne e1]
      by_cases e2 : i = 2 * t
      · subst e2; rw [hw_up_eq, hw_up_eq]; exact ⟨n1, n2⟩
      · rw [hw_up_ne e2, hw_up_ne e2]; exact h.2.1 i (by omega)
  · by_cases e : k = t
    · subst e
      unfold cFr
      rw [hw_up_eq, hw_up_ne (show 2 * k ≠ 2 * k + 1 by omega), hw_up_eq, hw_up_eq, hw_up_ne (show 2 * k ≠ 2 * k + 1 by omega), hw_up_eq, hw_up_eq]
      exact ⟨ha, n5, rfl, rfl⟩
    · obtain ⟨g1, g2, g3, g4⟩ := h.2.2.1 k (by omega)
      rw [hw_up_ne e, hw_up_ne (show 2 * k ≠ 2 * t + 1 by omega), hw_up_ne (show 2 * k ≠ 2 * t by omega), hw_up_ne (show 2 * k + 1 ≠ 2 * t + 1 by omega), hw_up_ne (show 2 * k + 1 ≠ 2 * t by omega)]
      refine ⟨?_, g2, g3, g4⟩
      unfold cFr at g1 ⊢
      rw [hw_up_ne (show 2 * k ≠ 2 * t + 1 by omega), hw_up_ne (show 2 * k ≠ 2 * t by omega), hw_up_ne (show 2 * k + 1 ≠ 2 * t + 1 by omega), hw_up_ne (show 2 * k + 1 ≠ 2 * t by omega)]
      exact g1
  · by_cases e1 : i = t
    · by_cases e2 : j = t
      · rw [e1, e2]
      · rw [e1, hw_up_eq, hw_up_ne e2] at e
        exact absurd e.symm (h5 j (by omega))
    · by_cases e2 : j = t
      · rw [e2, hw_up_eq, hw_up_ne e1] at e
        exact absurd e (h5 i (by omega))
      · rw [hw_up_ne e1, hw_up_ne e2] at e
        exact h.2.2.2 i j (by omega) (by omega) e
theorem RG.nin (h : RG t D L0 L f o r x fr) (hq : q ∉ L) : (∀ i, i < 2 * t → o i ≠ q ∧ r i ≠ q) ∧ ∀ i, i < t → fr i ≠ q := ⟨fun i g => h.1.nin hq i (Nat.zero_le _) g, fun i g e => hq (e ▸ (h.2.2.1 i g).1.1)⟩
end RGs
def σ0 : Sg := fun _ => (0, 1, false)

set_option maxHeartbeats 4000000 in
set_option maxRecDepth 100000 in
/-- limb k, or 0 -/
theorem c_Wh_limbAt (l : Launch) (D : va_G) (t0 : Nat) (L : List Nat) (f : Nat → va_E) (sz : Nat) (o r : Nat → Nat) (N : Nat) (v : Nat → Nat × (Nat → Nat)) (i : Nat) (k : Nat) (hi : i < N) (hY : Lay o r N) (hV : AllW D L f o r N v) (hk : k < 2 ^ 31) (hn : (v i).1 ≤ 41) : Met l y_Wh_limbAt (Cond.code y_Wh_limbAt b_Wh_limbAt 2 (some .long) :: TT) ({ frames := 0, cells := 0, slots := 0, locals := 0 } : Room) (hw_Pc t0 [.ref (o i), .int (nI k)] D L f sz) (hw_Q D L sz (fun oc L' f' => oc = .returned (some (.long (lN (padl (v i) k)))) ∧ L = L' ∧ f = f')) 0 0 (hw_A L sz) := by
  refine Met.ofW (cc := b_Wh_limbAt) (maxL := 2) (ret := (some .long)) (by decide) rfl ?_
  intro p e s m args below meth c s₁ B hml hv
  obtain ⟨rfl, rfl, hI⟩ := hw_start hv
  clear hv
  have hx := B.exec
  have hb := B.bytes
  have hr := B.returns
  have hlocks := B.notSynchronized
  have hown : s.vm.findClass "WallFractions$Whole" = some m.cls := findClass_of_methodNamed B.named
  have hT : ∀ w ∈ TT, w.before ([.ref (o i), .int (nI k)]).toArray s = true := fun w h => atoms_spec (ws := (Cond.code y_Wh_limbAt b_Wh_limbAt 2 (some .long) :: TT)) B.pre w (List.mem_cons_of_mem _ h)
  have S : CallFix p m c b_Wh_limbAt 2 s ([.ref (o i), .int (nI k)]).toArray TT "WallFractions$Whole" := ⟨hx, hb, hml, hown, hT⟩
  have hl := lv_entry ([.ref (o i), .int (nI k)]) (n := 2) (Nat.le_of_ble_eq_true rfl)
  rw [lg_entry_eq]
  generalize (lg_sl ([.ref (o i), .int (nI k)]) ++ List.replicate (2 - (lg_sl ([.ref (o i), .int (nI k)])).length) Slot.unset).toArray = ls at hl ⊢
  have hl : lv_has ls 2 [(0, .ref (o i)), (1, .int (nI k))] := hl
  skip
  refine lv_iload_n hx hb d_Wh_limbAt_0 rfl (lv_at hl 1 rfl) ?_
  refine hw_if_lt (tgt := 21) hx hb d_Wh_limbAt_1 (by decide) hk ?_
  refine lv_iload_n hx hb d_Wh_limbAt_4 rfl (lv_at hl 1 rfl) ?_
  refine lv_aload_n hx hb d_Wh_limbAt_5 rfl (lv_at hl 0 rfl) ?_
  refine wh_size S hI hV hi d_Wh_limbAt_6 ?_
  refine hw_icmp_ge (tgt := 21) hx hb d_Wh_limbAt_9 (by decide) (by omega) (by omega) (fun c1 => ?_) (fun c1 => ?_)
  · refine lv_lconst (v := lN 0) hx hb d_Wh_limbAt_21 rfl ?_
    exact hw_lret hx hb hr hlocks hI d_Wh_limbAt_22 ⟨by unfold padl; rw [if_neg (by omega)], rfl, rfl⟩
  · refine lv_aload_n hx hb d_Wh_limbAt_12 rfl (lv_at hl 0 rfl) ?_
    refine wh_limbs S hI hV hi d_Wh_limbAt_13 ?_
    refine lv_iload_n hx hb d_Wh_limbAt_16 rfl (lv_at hl 1 rfl) ?_
    refine wh_ld S hI hV hi (by omega) d_Wh_limbAt_17 ?_
    refine lv_goto (tgt := 22) hx hb d_Wh_limbAt_18 (by decide) ?_
    exact hw_lret hx hb hr hlocks hI d_Wh_limbAt_22 ⟨by unfold padl; rw [if_pos (by omega)], rfl, rfl⟩
set_option maxHeartbeats 4000000 in
set_option maxRecDepth 100000 in
theorem c_Wh_requireRoom (l : Launch) (D : va_G) (t0 : Nat) (L : List Nat) (f : Nat → va_E) (sz : Nat) (k : Nat) (hk : k ≤ 41) : Met l y_Wh_requireRoom (Cond.code y_Wh_requireRoom b_Wh_requireRoom 1 none :: TT) ({ frames := 6, cells := 0, slots := 0, locals := 110 } : Room) (hw_Pc t0 [.int (nI k)] D L f sz) (hw_Q D L sz (fun oc L' f' => oc = .returned none ∧ L = L' ∧ f = f')) 0 0 (hw_A L sz) := by
  refine Met.ofW (cc := b_Wh_requireRoom) (maxL := 1) (ret := none) (by decide) rfl ?_
  intro p e s m args below meth c s₁ B hml hv
  obtain ⟨rfl, rfl, hI⟩ := hw_start hv
  clear hv
  have hx := B.exec
  have hb := B.bytes
  have hr := B.returns
  have hlocks := B.notSynchronized
  have hown : s.vm.findClass "WallFractions$Whole" = some m.cls := findClass_of_methodNamed B.named
  have hT : ∀ w ∈ TT, w.before ([.int (nI k)]).toArray s = true := fun w h => atoms_spec (ws := (Cond.code y_Wh_requireRoom b_Wh_requireRoom 1 none :: TT)) B.pre w (List.mem_cons_of_mem _ h)
  have S : CallFix p m c b_Wh_requireRoom 1 s ([.int (nI k)]).toArray TT "WallFractions$Whole" := ⟨hx, hb, hml, hown, hT⟩
  have hl := lv_entry ([.int (nI k)]) (n := 1) (Nat.le_of_ble_eq_true rfl)
  rw [lg_entry_eq]
  generalize (lg_sl ([.int (nI k)]) ++ List.replicate (1 - (lg_sl ([.int (nI k)])).length) Slot.unset).toArray = ls at hl ⊢
  have hl : lv_has ls 1 [(0, .int (nI k))] := hl
  skip
  refine lv_iload_n hx hb d_Wh_requireRoom_0 rfl (lv_at hl 0 rfl) ?_
  refine lv_bipush (v := nI 41) hx hb d_Wh_requireRoom_1 (by decide) ?_
  refine hw_icmp_le (tgt := 16) hx hb d_Wh_requireRoom_3 (by decide) (by omega) (by omega) (fun c2 => ?_) (fun c2 => ?_)
  · exact hw_vret hx hb hr hlocks hI d_Wh_requireRoom_16 ⟨rfl, rfl, rfl⟩
  · exact absurd hk (by omega)
set_option maxHeartbeats 4000000 in
set_option maxRecDepth 100000 in
/-- the highest limb that is not 0 -/
theorem c_Wh_settle (l : Launch) (D : va_G) (t0 : Nat) (L : List Nat) (f : Nat → va_E) (sz : Nat) (o r : Nat → Nat) (N : Nat) (v : Nat → Nat × (Nat → Nat)) (i : Nat) (n : Nat) (hi : i < N) (hY : Lay o r N) (hV : AllW D L f o r N v) (hn : n ≤ 41) (hB : ∀ j, (v i).2 j < nB) : Met l y_Wh_settle (Cond.code y_Wh_settle b_Wh_settle 2 none :: TT) ({ frames := 0, cells := 0, slots := 0, locals := 0 } : Room) (hw_Pc t0 [.ref (o i), .int (nI n)] D L f sz) (hw_Q D L sz (fun oc L' f' => oc = .returned none ∧ L = L' ∧ ∃ n', n' ≤ n ∧ nOk nB n' (v i).2 (nvb nB (v i).2 n) ∧ AllW D L f' o r N (va_up v i (n', (v i).2)) ∧ ∀ q, q ≠ o i → f' q = f q)) 0 0 (hw_A L sz) := by
  refine Met.ofW (cc := b_Wh_settle) (maxL := 2) (ret := none) (by decide) rfl ?_
  intro p e s m args below meth c s₁ B hml hv
  obtain ⟨rfl, rfl, hI⟩ := hw_start hv
  clear hv
  have hx := B.exec
  have hb := B.bytes
  have hr := B.returns
  have hlocks := B.notSynchronized
  have hown : s.vm.findClass "WallFractions$Whole" = some m.cls := findClass_of_methodNamed B.named
  have hT : ∀ w ∈ TT, w.before ([.ref (o i), .int (nI n)]).toArray s = true := fun w h => atoms_spec (ws := (Cond.code y_Wh_settle b_Wh_settle 2 none :: TT)) B.pre w (List.mem_cons_of_mem _ h)
  have S : CallFix p m c b_Wh_settle 2 s ([.ref (o i), .int (nI n)]).toArray TT "WallFractions$Whole" := ⟨hx, hb, hml, hown, hT⟩
  have hl := lv_entry ([.ref (o i), .int (nI n)]) (n := 2) (Nat.le_of_ble_eq_true rfl)
  rw [lg_entry_eq]
  generalize (lg_sl ([.ref (o i), .int (nI n)]) ++ List.replicate (2 - (lg_sl ([.ref (o i), .int (nI n)])).length) Slot.unset).toArray = ls at hl ⊢
  have hl : lv_has ls 2 [(0, .ref (o i)), (1, .int (nI n))] := hl
  skip
  have loop : ∀ (k : Nat) (f1 : Nat → va_E) (H : Heap) (locs : List Loc) (ls : Array Slot), k ≤ n → (∀ j, k ≤ j → j < n → (v i).2 j = 0) → AllW D L f1 o r N (va_up v i (k, (v i).2)) → (∀ q, q ≠ o i → f1 q = f q) → hw_I D t0 (hw_A L s.heap.size) s L f1 H locs → lv_has ls 2 [(0, .ref (o i)), (1, .int (nI n))] → W p l e (headSpec (Cond.code y_Wh_settle b_Wh_settle 2 none :: TT) ({ frames := 0, cells := 0, slots := 0, locals := 0 } : Room)).room s m ([.ref (o i), .int (nI n)]).toArray below meth c H locs 0 0 (MQ below (hw_Q D L s.heap.size (fun oc L' f' => oc = .returned none ∧ L = L' ∧ ∃ n', n' ≤ n ∧ nOk nB n' (v i).2 (nvb nB (v i).2 n) ∧ AllW D L f' o r N (va_up v i (n', (v i).2)) ∧ ∀ q, q ≠ o i → f' q = f q)) ([.ref (o i), .int (nI n)]).toArray s 0 0 (hw_A L s.heap.size)) (F0 m 5 ls []) := by
    intro k
    induction k with
    | zero =>
      intro f1 H locs ls hk hz hV hF hI hl
      refine lv_aload_n hx hb d_Wh_settle_5 rfl (lv_at hl 0 rfl) ?_
      refine wh_size S hI hV hi d_Wh_settle_6 ?_
      refine hw_ti (show _ = nI 0 from by rw [hw_up_eq]) ?_
      refine hw_if_le (tgt := 41) hx hb d_Wh_settle_9 (by decide) (by omega) (fun c3 => ?_) (fun c3 => ?_)
      · exact hw_vret hx hb hr hlocks hI d_Wh_settle_41 ⟨rfl, rfl, 0, hk, nOk_settle hB hk (fun h => absurd h (by decide)) hz, hV, hF⟩
      · exact absurd c3 (by decide)
    | succ k ih =>
      intro f1 H locs ls hk hz hV hF hI hl
      refine lv_aload_n hx hb d_Wh_settle_5 rfl (lv_at hl 0 rfl) ?_
      refine wh_size S hI hV hi d_Wh_settle_6 ?_
      refine hw_ti (show _ = nI ((k + 1)) from by rw [hw_up_eq]) ?_
      refine hw_if_le (tgt := 41) hx hb d_Wh_settle_9 (by decide) (by omega) (fun c4 => ?_) (fun c4 => ?_)
      · exact absurd c4 (by omega)
      · refine lv_aload_n hx hb d_Wh_settle_12 rfl (lv_at hl 0 rfl) ?_
        refine wh_limbs S hI hV hi d_Wh_settle_13 ?_
        refine lv_aload_n hx hb d_Wh_settle_16 rfl (lv_at hl 0 rfl) ?_
        refine wh_size S hI hV hi d_Wh_settle_17 ?_
        refine hw_ti (show _ = nI ((k + 1)) from by rw [hw_up_eq]) ?_
        refine lv_iconst (v := nI 1) hx hb d_Wh_settle_20 (by decide) ?_
        refine lv_isub hx hb d_Wh_settle_21 ?_
        refine hw_ti (pk_sub (by omega)) ?_
        refine wh_ld S hI hV hi (by omega) d_Wh_settle_22 ?_
        refine hw_tl (show _ = lN ((v i).2 ((k + 1) - 1)) from by rw [hw_up_eq]) ?_
        refine lv_lconst (v := lN 0) hx hb d_Wh_settle_23 rfl ?_
        refine hw_l_ne (tgt := 41) hx hb d_Wh_settle_24 d_Wh_settle_25 (by decide) (fun c5 => ?_) (fun c5 => ?_)
        · exact hw_vret hx hb hr hlocks hI d_Wh_settle_41 ⟨rfl, rfl, (k + 1), hk, nOk_settle hB hk (fun _ => Nat.pos_of_ne_zero (fun h => c5 (by rw [h]))) hz, hV, hF⟩
        · have hz0 : (v i).2 k = 0 := (lN0 (nB63 (hB _))).mp c5
          refine lv_aload_n hx hb d_Wh_settle_28 rfl (lv_at hl 0 rfl) ?_
          refine lv_dup hx hb d_Wh_settle_29 rfl ?_
          refine wh_size S hI hV hi d_Wh_settle_30 ?_
          refine hw_ti (show _ = nI ((k + 1)) from by rw [hw_up_eq]) ?_
          refine lv_iconst (v := nI 1) hx hb d_Wh_settle_33 (by decide) ?_
          refine lv_isub hx hb d_Wh_settle_34 ?_
          refine hw_ti (pk_sub (by omega)) ?_
          refine wh_psize S hI hV hY hi d_Wh_settle_35 (fun f6 H locs hI hV hf6 => ?_)
          refine lv_goto (tgt := 5) hx hb d_Wh_settle_38 (by decide) ?_
          exact ih _ _ _ _ (by omega) (fun j h1 h2 => by rcases Nat.lt_or_ge k j with h3 | h3; exact hz j h3 h2; rw [show j = k by omega]; exact hz0) (by rw [hw_up_eq, bx_uu] at hV; exact hV) (fun q hq => (hf6 q hq).trans (hF q hq)) hI hl
  refine lv_aload_n hx hb d_Wh_settle_0 rfl (lv_at hl 0 rfl) ?_
  refine lv_iload_n hx hb d_Wh_settle_1 rfl (lv_at hl 1 rfl) ?_
  refine wh_psize S hI hV hY hi d_Wh_settle_2 (fun f7 H locs hI hV hf7 => ?_)
  exact loop n _ _ _ _ (Nat.le_refl _) (fun j h1 h2 => by omega) hV hf7 hI hl

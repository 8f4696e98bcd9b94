set_option maxHeartbeats 4000000 in
set_option maxRecDepth 100000 in
theorem c_Wh_isZero (l : Launch) (D : va_G) (t0 : Nat) (L : List Nat) (f : Nat → va_E) (sz : Nat) (o r : Nat → Nat) (N : Nat) (x : Nat → Nat) (i : Nat) (hi : i < N) (hY : Lay o r N) (hN : AllN D L f o r N x) : Met l y_Wh_isZero (Cond.code y_Wh_isZero b_Wh_isZero 1 (some .boolean) :: TT) ({ frames := 0, cells := 0, slots := 0, locals := 0 } : Room) (hw_Pc t0 [.ref (o i)] D L f sz) (hw_Q D L sz (fun oc L' f' => oc = .returned (some (.int (if x i = 0 then nI 1 else nI 0))) ∧ L = L' ∧ f = f')) 0 0 (hw_A L sz) := by
  refine Met.ofW (cc := b_Wh_isZero) (maxL := 1) (ret := (some .boolean)) (by decide) rfl ?_
  intro p e s m args below meth c s₁ B hml hv
  obtain ⟨rfl, rfl, hI⟩ := hw_start hv
  clear hv
  have hx := B.exec
  have hb := B.bytes
  have hr := B.returns
  have hlocks := B.notSynchronized
  have hown : s.vm.findClass "WallFractions$Whole" = some m.cls := findClass_of_methodNamed B.named
  have hT : ∀ w ∈ TT, w.before ([.ref (o i)]).toArray s = true := fun w h => atoms_spec (ws := (Cond.code y_Wh_isZero b_Wh_isZero 1 (some .boolean) :: TT)) B.pre w (List.mem_cons_of_mem _ h)
  have S : CallFix p m c b_Wh_isZero 1 s ([.ref (o i)]).toArray TT "WallFractions$Whole" := ⟨hx, hb, hml, hown, hT⟩
  have hl := lv_entry ([.ref (o i)]) (n := 1) (Nat.le_of_ble_eq_true rfl)
  rw [lg_entry_eq]
  generalize (lg_sl ([.ref (o i)]) ++ List.replicate (1 - (lg_sl ([.ref (o i)])).length) Slot.unset).toArray = ls at hl ⊢
  have hl : lv_has ls 1 [(0, .ref (o i))] := hl
  skip
  obtain ⟨v, hV, hO⟩ := hN
  have hz := (hO i hi).2.zero nB_pos
  have h41 := (hO i hi).1
  refine lv_aload_n hx hb d_Wh_isZero_0 rfl (lv_at hl 0 rfl) ?_
  refine wh_size S hI hV hi d_Wh_isZero_1 ?_
  refine hw_if_ne (tgt := 11) hx hb d_Wh_isZero_4 (by decide) (by omega) (fun c8 => ?_) (fun c8 => ?_)
  · refine lv_iconst (v := nI 0) hx hb d_Wh_isZero_11 (by decide) ?_
    exact hw_zret hx hb hr hlocks hI rfl d_Wh_isZero_12 ⟨by rw [if_neg (fun h => c8 (hz.mpr h))], rfl, rfl⟩
  · refine lv_iconst (v := nI 1) hx hb d_Wh_isZero_7 (by decide) ?_
    refine lv_goto (tgt := 12) hx hb d_Wh_isZero_8 (by decide) ?_
    exact hw_zret hx hb hr hlocks hI rfl d_Wh_isZero_12 ⟨by rw [if_pos (hz.mp c8)], rfl, rfl⟩
set_option maxHeartbeats 4000000 in
set_option maxRecDepth 100000 in
theorem c_Wh_isOne (l : Launch) (D : va_G) (t0 : Nat) (L : List Nat) (f : Nat → va_E) (sz : Nat) (o r : Nat → Nat) (N : Nat) (x : Nat → Nat) (i : Nat) (hi : i < N) (hY : Lay o r N) (hN : AllN D L f o r N x) : Met l y_Wh_isOne (Cond.code y_Wh_isOne b_Wh_isOne 1 (some .boolean) :: TT) ({ frames := 0, cells := 0, slots := 0, locals := 0 } : Room) (hw_Pc t0 [.ref (o i)] D L f sz) (hw_Q D L sz (fun oc L' f' => oc = .returned (some (.int (if x i = 1 then nI 1 else nI 0))) ∧ L = L' ∧ f = f')) 0 0 (hw_A L sz) := by
  refine Met.ofW (cc := b_Wh_isOne) (maxL := 1) (ret := (some .boolean)) (by decide) rfl ?_
  intro p e s m args below meth c s₁ B hml hv
  obtain ⟨rfl, rfl, hI⟩ := hw_start hv
  clear hv
  have hx := B.exec
  have hb := B.bytes
  have hr := B.returns
  have hlocks := B.notSynchronized
  have hown : s.vm.findClass "WallFractions$Whole" = some m.cls := findClass_of_methodNamed B.named
  have hT : ∀ w ∈ TT, w.before ([.ref (o i)]).toArray s = true := fun w h => atoms_spec (ws := (Cond.code y_Wh_isOne b_Wh_isOne 1 (some .boolean) :: TT)) B.pre w (List.mem_cons_of_mem _ h)
  have S : CallFix p m c b_Wh_isOne 1 s ([.ref (o i)]).toArray TT "WallFractions$Whole" := ⟨hx, hb, hml, hown, hT⟩
  have hl := lv_entry ([.ref (o i)]) (n := 1) (Nat.le_of_ble_eq_true rfl)
  rw [lg_entry_eq]
  generalize (lg_sl ([.ref (o i)]) ++ List.replicate (1 - (lg_sl ([.ref (o i)])).length) Slot.unset).toArray = ls at hl ⊢
  have hl : lv_has ls 1 [(0, .ref (o i))] := hl
  skip
  obtain ⟨v, hV, hO⟩ := hN
  have hz := nOk_one (hO i hi).2
  have h41 := (hO i hi).1
  refine lv_aload_n hx hb d_Wh_isOne_0 rfl (lv_at hl 0 rfl) ?_
  refine wh_size S hI hV hi d_Wh_isOne_1 ?_
  refine lv_iconst (v := nI 1) hx hb d_Wh_isOne_4 (by decide) ?_
  refine hw_icmp_ne (tgt := 23) hx hb d_Wh_isOne_5 (by decide) (by omega) (by omega) (fun c9 => ?_) (fun c9 => ?_)
  · refine lv_iconst (v := nI 0) hx hb d_Wh_isOne_23 (by decide) ?_
    exact hw_zret hx hb hr hlocks hI rfl d_Wh_isOne_24 ⟨by rw [if_neg (fun h => c9 (hz.mpr h).1)], rfl, rfl⟩
  · refine lv_aload_n hx hb d_Wh_isOne_8 rfl (lv_at hl 0 rfl) ?_
    refine wh_limbs S hI hV hi d_Wh_isOne_9 ?_
    refine lv_iconst (v := nI 0) hx hb d_Wh_isOne_12 (by decide) ?_
    refine wh_ld S hI hV hi (by omega) d_Wh_isOne_13 ?_
    refine lv_lconst (v := lN 1) hx hb d_Wh_isOne_14 rfl ?_
    refine hw_l_ne (tgt := 23) hx hb d_Wh_isOne_15 d_Wh_isOne_16 (by decide) (fun c10 => ?_) (fun c10 => ?_)
    · refine lv_iconst (v := nI 0) hx hb d_Wh_isOne_23 (by decide) ?_
      exact hw_zret hx hb hr hlocks hI rfl d_Wh_isOne_24 ⟨by rw [if_neg (fun h => c10 (by rw [(hz.mpr h).2]))], rfl, rfl⟩
    · refine lv_iconst (v := nI 1) hx hb d_Wh_isOne_19 (by decide) ?_
      refine lv_goto (tgt := 24) hx hb d_Wh_isOne_20 (by decide) ?_
      exact hw_zret hx hb hr hlocks hI rfl d_Wh_isOne_24 ⟨by rw [if_pos (hz.mp ⟨c9, (pk_lEQ (nB63 ((hO i hi).2.1 _)) (by decide)).mp c10⟩)], rfl, rfl⟩
set_option maxHeartbeats 4000000 in
set_option maxRecDepth 100000 in
theorem c_Wh_lowest (l : Launch) (D : va_G) (t0 : Nat) (L : List Nat) (f : Nat → va_E) (sz : Nat) (o r : Nat → Nat) (N : Nat) (x : Nat → Nat) (i : Nat) (hi : i < N) (hY : Lay o r N) (hN : AllN D L f o r N x) (hx2 : x i < nB ^ 2) : Met l y_Wh_lowest (Cond.code y_Wh_lowest b_Wh_lowest 1 (some .long) :: TT) ({ frames := 1, cells := 0, slots := 0, locals := 21 } : Room) (hw_Pc t0 [.ref (o i)] D L f sz) (hw_Q D L sz (fun oc L' f' => oc = .returned (some (.long (lN (x i)))) ∧ L = L' ∧ f = f')) 0 0 (hw_A L sz) := by
  refine Met.ofW (cc := b_Wh_lowest) (maxL := 1) (ret := (some .long)) (by decide) rfl ?_
  intro p e s m args below meth c s₁ B hml hv
  obtain ⟨rfl, rfl, hI⟩ := hw_start hv
  clear hv
  have hx := B.exec
  have hb := B.bytes
  have hr := B.returns
  have hlocks := B.notSynchronized
  have hown : s.vm.findClass "WallFractions$Whole" = some m.cls := findClass_of_methodNamed B.named
  have hT : ∀ w ∈ TT, w.before ([.ref (o i)]).toArray s = true := fun w h => atoms_spec (ws := (Cond.code y_Wh_lowest b_Wh_lowest 1 (some .long) :: TT)) B.pre w (List.mem_cons_of_mem _ h)
  have S : CallFix p m c b_Wh_lowest 1 s ([.ref (o i)]).toArray TT "WallFractions$Whole" := ⟨hx, hb, hml, hown, hT⟩
  have hl := lv_entry ([.ref (o i)]) (n := 1) (Nat.le_of_ble_eq_true rfl)
  rw [lg_entry_eq]
  generalize (lg_sl ([.ref (o i)]) ++ List.replicate (1 - (lg_sl ([.ref (o i)])).length) Slot.unset).toArray = ls at hl ⊢
  have hl : lv_has ls 1 [(0, .ref (o i))] := hl
  skip
  obtain ⟨v, hV, hO⟩ := hN
  have h41 := (hO i hi).1
  refine lv_aload_n hx hb d_Wh_lowest_0 rfl (lv_at hl 0 rfl) ?_
  refine lv_iconst (v := nI 1) hx hb d_Wh_lowest_1 (by decide) ?_
  refine hw_cV (As := [.int (nI 1)]) (rest := []) S hI m_Wh_limbAt w_418 (c_Wh_limbAt l D t0 L _ _ o r N v i 1 hi hY hV (by decide) h41) (hV _ hi).1 rfl hl.1 rfl rfl (Nat.le_of_ble_eq_true rfl) d_Wh_lowest_2 ⟨Nat.le_of_ble_eq_true rfl, Nat.le_of_ble_eq_true rfl⟩ ⟨Nat.le_of_ble_eq_true rfl, Nat.le_of_ble_eq_true rfl⟩ (fun v9 L9 f11 H locs hp hI => ?_)
  refine W.cs (cells' := 0) (slots' := 0) rfl rfl ?_
  obtain ⟨hv9, rfl, rfl⟩ := hp
  cases hv9
  refine hw_stk (st' := [.long (lN (padl (v i) 1))]) rfl ?_
  refine hw_ldc2 (v := lN nB) hx hb hown (hT _ w_56) d_Wh_lowest_5 ?_
  refine lv_lmul hx hb d_Wh_lowest_8 ?_
  refine hw_tl (lN_mul _ _) ?_
  refine lv_aload_n hx hb d_Wh_lowest_9 rfl (lv_at hl 0 rfl) ?_
  refine lv_iconst (v := nI 0) hx hb d_Wh_lowest_10 (by decide) ?_
  refine hw_cV (As := [.int (nI 0)]) (rest := [.long (lN ((padl (v i) 1) * nB))]) S hI m_Wh_limbAt w_418 (c_Wh_limbAt l D t0 L _ _ o r N v i 0 hi hY hV (by decide) h41) (hV _ hi).1 rfl hl.1 rfl rfl (Nat.le_of_ble_eq_true rfl) d_Wh_lowest_11 ⟨Nat.le_of_ble_eq_true rfl, Nat.le_of_ble_eq_true rfl⟩ ⟨Nat.le_of_ble_eq_true rfl, Nat.le_of_ble_eq_true rfl⟩ (fun v9 L9 f12 H locs hp hI => ?_)
  refine W.cs (cells' := 0) (slots' := 0) rfl rfl ?_
  obtain ⟨hv9, rfl, rfl⟩ := hp
  cases hv9
  refine hw_stk (st' := [.long (lN (padl (v i) 0)), .long (lN ((padl (v i) 1) * nB))]) rfl ?_
  refine lv_ladd hx hb d_Wh_lowest_14 ?_
  refine hw_tl (lN_add _ _) ?_
  exact hw_lret hx hb hr hlocks hI d_Wh_lowest_15 ⟨by rw [nOk_low (hO i hi).2 hx2], rfl, rfl⟩
set_option maxHeartbeats 4000000 in
set_option maxRecDepth 100000 in
theorem c_Wh_copyFrom (l : Launch) (D : va_G) (t0 : Nat) (L : List Nat) (f : Nat → va_E) (sz : Nat) (o r : Nat → Nat) (N : Nat) (x : Nat → Nat) (i : Nat) (j : Nat) (hi : i < N) (hY : Lay o r N) (hN : AllN D L f o r N x) (hj : j < N) : Met l y_Wh_copyFrom (Cond.code y_Wh_copyFrom b_Wh_copyFrom 2 none :: TT) ({ frames := 1, cells := 0, slots := 0, locals := 40 } : Room) (hw_Pc t0 [.ref (o i), .ref (o j)] D L f sz) (hw_Q D L sz (fun oc L' f' => oc = .returned none ∧ L = L' ∧ AllN D L f' o r N (va_up x i (x j)) ∧ ∀ q, q ≠ o i → q ≠ r i → f' q = f q)) 0 0 (hw_A L sz) := by
  refine Met.ofW (cc := b_Wh_copyFrom) (maxL := 2) (ret := none) (by decide) rfl ?_
  intro p e s m args below meth c s₁ B hml hv
  obtain ⟨rfl, rfl, hI⟩ := hw_start hv
  clear hv
  have hx := B.exec
  have hb := B.bytes
  have hr := B.returns
  have hlocks := B.notSynchronized
  have hown : s.vm.findClass "WallFractions$Whole" = some m.cls := findClass_of_methodNamed B.named
  have hT : ∀ w ∈ TT, w.before ([.ref (o i), .ref (o j)]).toArray s = true := fun w h => atoms_spec (ws := (Cond.code y_Wh_copyFrom b_Wh_copyFrom 2 none :: TT)) B.pre w (List.mem_cons_of_mem _ h)
  have S : CallFix p m c b_Wh_copyFrom 2 s ([.ref (o i), .ref (o j)]).toArray TT "WallFractions$Whole" := ⟨hx, hb, hml, hown, hT⟩
  have hl := lv_entry ([.ref (o i), .ref (o j)]) (n := 2) (Nat.le_of_ble_eq_true rfl)
  rw [lg_entry_eq]
  generalize (lg_sl ([.ref (o i), .ref (o j)]) ++ List.replicate (2 - (lg_sl ([.ref (o i), .ref (o j)])).length) Slot.unset).toArray = ls at hl ⊢
  have hl : lv_has ls 2 [(0, .ref (o i)), (1, .ref (o j))] := hl
  skip
  obtain ⟨v, hV, hO⟩ := hN
  have h41 := (hO j hj).1
  refine lv_aload_n hx hb d_Wh_copyFrom_0 rfl (lv_at hl 1 rfl) ?_
  refine wh_limbs S hI hV hj d_Wh_copyFrom_1 ?_
  refine lv_iconst (v := nI 0) hx hb d_Wh_copyFrom_4 (by decide) ?_
  refine lv_aload_n hx hb d_Wh_copyFrom_5 rfl (lv_at hl 0 rfl) ?_
  refine wh_limbs S hI hV hi d_Wh_copyFrom_6 ?_
  refine lv_iconst (v := nI 0) hx hb d_Wh_copyFrom_9 (by decide) ?_
  refine lv_aload_n hx hb d_Wh_copyFrom_10 rfl (lv_at hl 1 rfl) ?_
  refine wh_size S hI hV hj d_Wh_copyFrom_11 ?_
  refine wh_copy S hI hV hY hi (hV j hj).2 hl.1 w_353 h41 h41 (Nat.le_of_ble_eq_true rfl) (Nat.le_of_ble_eq_true rfl) d_Wh_copyFrom_14 (fun f2 H locs hI hV hF2 => ?_)
  have ej : (va_up v i ((v i).1, fun q => if q < (v j).1 then (v j).2 q else (v i).2 q)) j = (va_up v i ((v i).1, fun q => if q < (v j).1 then (v j).2 q else (v i).2 q)) j := rfl
  refine lv_aload_n hx hb d_Wh_copyFrom_17 rfl (lv_at hl 0 rfl) ?_
  refine lv_aload_n hx hb d_Wh_copyFrom_18 rfl (lv_at hl 1 rfl) ?_
  refine wh_size S hI hV hj d_Wh_copyFrom_19 ?_
  refine hw_ti (show _ = nI (v j).1 from by rw [up_fst]) ?_
  refine wh_psize S hI hV hY hi d_Wh_copyFrom_22 (fun f13 H locs hI hV hf13 => ?_)
  refine hw_vret hx hb hr hlocks hI d_Wh_copyFrom_25 ⟨rfl, rfl, ?_, fun q h1 h2 => (hf13 q h1).trans (hF2 q h2)⟩
  rw [hw_up_eq, bx_uu] at hV
  refine AllN.mk hO hV h41 ⟨fun q => ?_, fun h => ?_, ?_⟩
  · dsimp only; split; exact (hO j hj).2.1 q; exact (hO i hi).2.1 q
  · dsimp only; rw [if_pos (by omega)]; exact (hO j hj).2.2.1 h
  · rw [← (hO j hj).2.2.2]; exact nvb_congr (fun q hq => by dsimp only; rw [if_pos hq])
set_option maxHeartbeats 4000000 in
set_option maxRecDepth 100000 in
theorem c_Wh_order (l : Launch) (D : va_G) (t0 : Nat) (L : List Nat) (f : Nat → va_E) (sz : Nat) (o r : Nat → Nat) (N : Nat) (x : Nat → Nat) (i : Nat) (j : Nat) (hi : i < N) (hY : Lay o r N) (hN : AllN D L f o r N x) (hj : j < N) : Met l y_Wh_order (Cond.code y_Wh_order b_Wh_order 3 (some .int) :: TT) ({ frames := 0, cells := 0, slots := 0, locals := 0 } : Room) (hw_Pc t0 [.ref (o i), .ref (o j)] D L f sz) (hw_Q D L sz (fun oc L' f' => oc = .returned (some (.int (cmpN (x i) (x j)))) ∧ L = L' ∧ f = f')) 0 0 (hw_A L sz) := by
  refine Met.ofW (cc := b_Wh_order) (maxL := 3) (ret := (some .int)) (by decide) rfl ?_
  intro p e s m args below meth c s₁ B hml hv
  obtain ⟨rfl, rfl, hI⟩ := hw_start hv
  clear hv
  have hx := B.exec
  have hb := B.bytes
  have hr := B.returns
  have hlocks := B.notSynchronized
  have hown : s.vm.findClass "WallFractions$Whole" = some m.cls := findClass_of_methodNamed B.named
  have hT : ∀ w ∈ TT, w.before ([.ref (o i), .ref (o j)]).toArray s = true := fun w h => atoms_spec (ws := (Cond.code y_Wh_order b_Wh_order 3 (some .int) :: TT)) B.pre w (List.mem_cons_of_mem _ h)
  have S : CallFix p m c b_Wh_order 3 s ([.ref (o i), .ref (o j)]).toArray TT "WallFractions$Whole" := ⟨hx, hb, hml, hown, hT⟩
  have hl := lv_entry ([.ref (o i), .ref (o j)]) (n := 3) (Nat.le_of_ble_eq_true rfl)
  rw [lg_entry_eq]
  generalize (lg_sl ([.ref (o i), .ref (o j)]) ++ List.replicate (3 - (lg_sl ([.ref (o i), .ref (o j)])).length) Slot.unset).toArray = ls at hl ⊢
  have hl : lv_has ls 3 [(0, .ref (o i)), (1, .ref (o j))] := hl
  skip
  obtain ⟨v, hV, hO⟩ := hN
  have h41 := (hO i hi).1
  have h42 := (hO j hj).1
  refine lv_aload_n hx hb d_Wh_order_0 rfl (lv_at hl 0 rfl) ?_
  refine wh_size S hI hV hi d_Wh_order_1 ?_
  refine lv_aload_n hx hb d_Wh_order_4 rfl (lv_at hl 1 rfl) ?_
  refine wh_size S hI hV hj d_Wh_order_5 ?_
  refine hw_icmp_eq (tgt := 28) hx hb d_Wh_order_8 (by decide) (by omega) (by omega) (fun c14 => ?_) (fun c14 => ?_)
  · have loop : ∀ (k : Nat) (f1 : Nat → va_E) (H : Heap) (locs : List Loc) (ls : Array Slot), k ≤ (v i).1 → (∀ q, k ≤ q → q < (v i).1 → (v i).2 q = (v j).2 q) → f = f1 → hw_I D t0 (hw_A L s.heap.size) s L f1 H locs → lv_has ls 3 [(2, .int (mI k)), (0, .ref (o i)), (1, .ref (o j))] → W p l e (headSpec (Cond.code y_Wh_order b_Wh_order 3 (some .int) :: TT) ({ frames := 0, cells := 0, slots := 0, locals := 0 } : Room)).room s m ([.ref (o i), .ref (o j)]).toArray below meth c H locs 0 0 (MQ below (hw_Q D L s.heap.size (fun oc L' f' => oc = .returned (some (.int (cmpN (x i) (x j)))) ∧ L = L' ∧ f = f')) ([.ref (o i), .ref (o j)]).toArray s 0 0 (hw_A L s.heap.size)) (F0 m 35 ls []) := by
      intro k
      induction k with
      | zero =>
        intro f1 H locs ls hk he hf hI hl
        subst hf
        refine lv_iload_n hx hb d_Wh_order_35 rfl (lv_at hl 0 rfl) ?_
        refine hw_m0 (tgt := 83) hx hb d_Wh_order_36 (by decide) ?_
        refine lv_iconst (v := nI 0) hx hb d_Wh_order_83 (by decide) ?_
        exact hw_iret hx hb hr hlocks hI d_Wh_order_84 ⟨by rw [cmpN_eq (by rw [← (hO i hi).2.2.2, ← (hO j hj).2.2.2, ← c14]; exact nvb_congr (fun q hq => he q (Nat.zero_le _) hq))]; rfl, rfl, rfl⟩
      | succ k ih =>
        intro f1 H locs ls hk he hf hI hl
        subst hf
        rw [mI_s] at hl
        refine lv_iload_n hx hb d_Wh_order_35 rfl (lv_at hl 0 rfl) ?_
        refine hw_if_lt (tgt := 83) hx hb d_Wh_order_36 (by decide) (by omega) ?_
        refine lv_aload_n hx hb d_Wh_order_39 rfl (lv_at hl 1 rfl) ?_
        refine wh_limbs S hI hV hi d_Wh_order_40 ?_
        refine lv_iload_n hx hb d_Wh_order_43 rfl (lv_at hl 0 rfl) ?_
        refine wh_ld S hI hV hi (by omega) d_Wh_order_44 ?_
        refine lv_aload_n hx hb d_Wh_order_45 rfl (lv_at hl 2 rfl) ?_
        refine wh_limbs S hI hV hj d_Wh_order_46 ?_
        refine lv_iload_n hx hb d_Wh_order_49 rfl (lv_at hl 0 rfl) ?_
        refine wh_ld S hI hV hj (by omega) d_Wh_order_50 ?_
        refine hw_l_eq (tgt := 77) hx hb d_Wh_order_51 d_Wh_order_52 (by decide) (fun c16 => ?_) (fun c16 => ?_)
        · have he0 : (v i).2 k = (v j).2 k := (pk_lEQ (nB63 ((hO i hi).2.1 _)) (nB63 ((hO j hj).2.1 _))).mp c16
          refine lv_iinc (v := mI k) (lv' := [(2, .int (mI k)), (0, .ref (o i)), (1, .ref (o j))]) hx hb d_Wh_order_77 hl (k := 0) rfl (mI_d k) (by decide) rfl (fun ls hl => ?_)
          refine lv_goto (tgt := 35) hx hb d_Wh_order_80 (by decide) ?_
          exact ih _ _ _ _ (by omega) (fun q h1 h2 => by rcases Nat.lt_or_ge k q with h3 | h3; exact he q h3 h2; rw [show q = k by omega]; exact he0) rfl hI hl
        · refine lv_aload_n hx hb d_Wh_order_55 rfl (lv_at hl 1 rfl) ?_
          refine wh_limbs S hI hV hi d_Wh_order_56 ?_
          refine lv_iload_n hx hb d_Wh_order_59 rfl (lv_at hl 0 rfl) ?_
          refine wh_ld S hI hV hi (by omega) d_Wh_order_60 ?_
          refine lv_aload_n hx hb d_Wh_order_61 rfl (lv_at hl 2 rfl) ?_
          refine wh_limbs S hI hV hj d_Wh_order_62 ?_
          refine lv_iload_n hx hb d_Wh_order_65 rfl (lv_at hl 0 rfl) ?_
          refine wh_ld S hI hV hj (by omega) d_Wh_order_66 ?_
          refine hw_l_ge (tgt := 75) hx hb d_Wh_order_67 d_Wh_order_68 (by decide) (fun c17 => ?_) (fun c17 => ?_)
          · refine lv_iconst (v := nI 1) hx hb d_Wh_order_75 (by decide) ?_
            have hgt : x j < x i := by
              rw [← (hO i hi).2.2.2, ← (hO j hj).2.2.2, ← c14]
              have h9 : (v j).2 k < (v i).2 k := by
                have h1 := (pk_lLE (nB63 ((hO j hj).2.1 k)) (nB63 ((hO i hi).2.1 k))).mp c17
                have h2 : (v i).2 k ≠ (v j).2 k := fun h => c16 (by rw [h])
                omega
              exact nvb_lt_of (i := k) (by omega) (fun j9 _ => (hO j hj).2.1 j9) h9 (fun q h1 h2 => (he q (by omega) h2).symm)
            exact hw_iret hx hb hr hlocks hI d_Wh_order_76 ⟨by rw [cmpN_gt hgt]; rfl, rfl, rfl⟩
          · refine lv_iconst (v := -1) hx hb d_Wh_order_71 (by decide) ?_
            refine lv_goto (tgt := 76) hx hb d_Wh_order_72 (by decide) ?_
            have hlt : x i < x j := by
              rw [← (hO i hi).2.2.2, ← (hO j hj).2.2.2, ← c14]
              exact nvb_lt_of (i := k) (by omega) (fun j9 _ => (hO i hi).2.1 j9) ((pk_lLT (nB63 ((hO i hi).2.1 k)) (nB63 ((hO j hj).2.1 k))).mp c17) (fun q h1 h2 => he q (by omega) h2)
            exact hw_iret hx hb hr hlocks hI d_Wh_order_76 ⟨by rw [cmpN_lt hlt], rfl, rfl⟩
    refine lv_aload_n hx hb d_Wh_order_28 rfl (lv_at hl 0 rfl) ?_
    refine wh_size S hI hV hi d_Wh_order_29 ?_
    refine lv_iconst (v := nI 1) hx hb d_Wh_order_32 (by decide) ?_
    refine lv_isub hx hb d_Wh_order_33 ?_
    refine hw_ti (show _ = mI (v i).1 from rfl) ?_
    refine lv_istore_n (lv' := [(2, .int (mI (v i).1)), (0, .ref (o i)), (1, .ref (o j))]) hx hb d_Wh_order_34 rfl hl (by decide) rfl (fun ls hl => ?_)
    exact loop _ _ _ _ _ (Nat.le_refl _) (fun q h1 h2 => by omega) rfl hI hl
  · refine lv_aload_n hx hb d_Wh_order_11 rfl (lv_at hl 0 rfl) ?_
    refine wh_size S hI hV hi d_Wh_order_12 ?_
    refine lv_aload_n hx hb d_Wh_order_15 rfl (lv_at hl 1 rfl) ?_
    refine wh_size S hI hV hj d_Wh_order_16 ?_
    refine hw_icmp_ge (tgt := 26) hx hb d_Wh_order_19 (by decide) (by omega) (by omega) (fun c15 => ?_) (fun c15 => ?_)
    · refine lv_iconst (v := nI 1) hx hb d_Wh_order_26 (by decide) ?_
      exact hw_iret hx hb hr hlocks hI d_Wh_order_27 ⟨by rw [cmpN_gt (nOk_size_lt (hO j hj).2 (hO i hi).2 (by omega))]; rfl, rfl, rfl⟩
    · refine lv_iconst (v := -1) hx hb d_Wh_order_22 (by decide) ?_
      refine lv_goto (tgt := 27) hx hb d_Wh_order_23 (by decide) ?_
      exact hw_iret hx hb hr hlocks hI d_Wh_order_27 ⟨by rw [cmpN_lt (nOk_size_lt (hO i hi).2 (hO j hj).2 (by omega))], rfl, rfl⟩

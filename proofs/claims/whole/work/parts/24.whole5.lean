set_option maxHeartbeats 4000000 in
set_option maxRecDepth 100000 in
theorem c_Wh_topLength (l : Launch) (D : va_G) (t0 : Nat) (L : List Nat) (f : Nat → va_E) (sz : Nat) (o r : Nat → Nat) (N : Nat) (v : Nat → Nat × (Nat → Nat)) (i : Nat) (hi : i < N) (hY : Lay o r N) (hV : AllW D L f o r N v) (h1 : (v i).1 ≤ 41) (h0 : 0 < (v i).1) (hB : ∀ q, (v i).2 q < nB) (htop : 0 < (v i).2 ((v i).1 - 1)) : Met l y_Wh_topLength (Cond.code y_Wh_topLength b_Wh_topLength 4 (some .int) :: TT) ({ frames := 1, cells := 0, slots := 0, locals := 21 } : Room) (hw_Pc t0 [.ref (o i)] D L f sz) (hw_Q D L sz (fun oc L' f' => (∃ T, oc = .returned (some (.int (nI T))) ∧ 1 ≤ T ∧ T ≤ 9 ∧ 10 ^ (T - 1) ≤ (v i).2 ((v i).1 - 1) ∧ (v i).2 ((v i).1 - 1) < 10 ^ T) ∧ L = L' ∧ f = f')) 0 0 (hw_A L sz) := by
  refine Met.ofW (cc := b_Wh_topLength) (maxL := 4) (ret := (some .int)) (by decide) rfl ?_
  intro p e s m args below meth c s₁ B hml hv
  obtain ⟨rfl, rfl, hI⟩ := hw_start hv
  clear hv
  have hx := B.exec
  have hb := B.bytes
  have hr := B.returns
  have hlocks := B.notSynchronized
  have hown : s.vm.findClass "WallFractions$Whole" = some m.cls := findClass_of_methodNamed B.named
  have hT : ∀ w ∈ TT, w.before ([.ref (o i)]).toArray s = true := fun w h => atoms_spec (ws := (Cond.code y_Wh_topLength b_Wh_topLength 4 (some .int) :: TT)) B.pre w (List.mem_cons_of_mem _ h)
  have S : CallFix p m c b_Wh_topLength 4 s ([.ref (o i)]).toArray TT "WallFractions$Whole" := ⟨hx, hb, hml, hown, hT⟩
  have hl := lv_entry ([.ref (o i)]) (n := 4) (Nat.le_of_ble_eq_true rfl)
  rw [lg_entry_eq]
  generalize (lg_sl ([.ref (o i)]) ++ List.replicate (4 - (lg_sl ([.ref (o i)])).length) Slot.unset).toArray = ls at hl ⊢
  have hl : lv_has ls 4 [(0, .ref (o i))] := hl
  skip
  obtain ⟨tp, htp⟩ : ∃ tp, tp = (v i).2 ((v i).1 - 1) := ⟨_, rfl⟩
  rw [← htp] at htop
  have hnB : nB = 1000000000 := rfl
  have htB : tp < nB := by rw [htp]; exact hB _
  refine lv_aload_n hx hb d_Wh_topLength_0 rfl (lv_at hl 0 rfl) ?_
  refine lv_aload_n hx hb d_Wh_topLength_1 rfl (lv_at hl 0 rfl) ?_
  refine wh_size S hI hV hi d_Wh_topLength_2 ?_
  refine lv_iconst (v := nI 1) hx hb d_Wh_topLength_5 (by decide) ?_
  refine lv_isub hx hb d_Wh_topLength_6 ?_
  refine hw_ti (pk_sub (by omega)) ?_
  refine hw_cV (As := [.int (nI (((v i).1) - 1))]) (rest := []) S hI m_Wh_limbAt w_418 (c_Wh_limbAt l D t0 L _ _ o r N v i ((v i).1 - 1) hi hY hV (by omega) h1) (hV _ hi).1 rfl hl.1 rfl rfl (Nat.le_of_ble_eq_true rfl) d_Wh_topLength_7 ⟨Nat.le_of_ble_eq_true rfl, Nat.le_of_ble_eq_true rfl⟩ ⟨Nat.le_of_ble_eq_true rfl, Nat.le_of_ble_eq_true rfl⟩ (fun v9 L9 f1 H locs hp hI => ?_)
  refine W.cs (cells' := 0) (slots' := 0) rfl rfl ?_
  obtain ⟨hv9, rfl, rfl⟩ := hp
  cases hv9
  refine hw_stk (st' := [.long (lN (padl (v i) ((v i).1 - 1)))]) rfl ?_
  refine hw_tl (show _ = lN tp from by unfold padl; rw [if_pos (by omega), htp]) ?_
  have loop : ∀ (g t : Nat) (f1 : Nat → va_E) (H : Heap) (locs : List Loc) (ls : Array Slot), t + g = 9 → 1 ≤ t → 10 ^ (t - 1) ≤ tp → f = f1 → hw_I D t0 (hw_A L s.heap.size) s L f1 H locs → lv_has ls 4 [(3, .int (nI t)), (1, .long (lN tp)), (0, .ref (o i))] → W p l e (headSpec (Cond.code y_Wh_topLength b_Wh_topLength 4 (some .int) :: TT) ({ frames := 1, cells := 0, slots := 0, locals := 21 } : Room)).room s m ([.ref (o i)]).toArray below meth c H locs 0 0 (MQ below (hw_Q D L s.heap.size (fun oc L' f' => (∃ T, oc = .returned (some (.int (nI T))) ∧ 1 ≤ T ∧ T ≤ 9 ∧ 10 ^ (T - 1) ≤ (v i).2 ((v i).1 - 1) ∧ (v i).2 ((v i).1 - 1) < 10 ^ T) ∧ L = L' ∧ f = f')) ([.ref (o i)]).toArray s 0 0 (hw_A L s.heap.size)) (F0 m 13 ls []) := by
    intro g
    induction g with
    | zero =>
      intro t f1 H locs ls htg ht1 hlo hf hI hl
      subst hf
      refine lv_iload_n hx hb d_Wh_topLength_13 rfl (lv_at hl 0 rfl) ?_
      refine lv_bipush (v := nI 9) hx hb d_Wh_topLength_14 (by decide) ?_
      refine hw_icmp_ge (tgt := 35) hx hb d_Wh_topLength_16 (by decide) (by omega) (by omega) (fun c2 => ?_) (fun c2 => ?_)
      · refine lv_iload_n hx hb d_Wh_topLength_35 rfl (lv_at hl 0 rfl) ?_
        have ht9 : t = 9 := by omega
        exact hw_iret hx hb hr hlocks hI d_Wh_topLength_36 ⟨⟨t, rfl, ht1, by omega, by rw [← htp]; exact hlo, by rw [← htp, ht9, ← nB10]; exact htB⟩, rfl, rfl⟩
      · exact absurd c2 (by omega)
    | succ g ih =>
      intro t f1 H locs ls htg ht1 hlo hf hI hl
      subst hf
      refine lv_iload_n hx hb d_Wh_topLength_13 rfl (lv_at hl 0 rfl) ?_
      refine lv_bipush (v := nI 9) hx hb d_Wh_topLength_14 (by decide) ?_
      refine hw_icmp_ge (tgt := 35) hx hb d_Wh_topLength_16 (by decide) (by omega) (by omega) (fun c3 => ?_) (fun c3 => ?_)
      · exact absurd c3 (by omega)
      · have hp9 : 10 ^ t ≤ 10 ^ 9 := Nat.pow_le_pow_right (by decide) (by omega)
        refine lv_lload_n hx hb d_Wh_topLength_19 rfl (lv_at hl 1 rfl) ?_
        refine hw_tens S hI (by decide) d_Wh_topLength_20 ?_
        refine lv_iload_n hx hb d_Wh_topLength_23 rfl (lv_at hl 0 rfl) ?_
        refine hw_tld S hI (by omega) d_Wh_topLength_24 ?_
        refine hw_l_lt (tgt := 35) hx hb d_Wh_topLength_25 d_Wh_topLength_26 (by decide) (fun c4 => ?_) (fun c4 => ?_)
        · refine lv_iload_n hx hb d_Wh_topLength_35 rfl (lv_at hl 0 rfl) ?_
          exact hw_iret hx hb hr hlocks hI d_Wh_topLength_36 ⟨⟨t, rfl, ht1, by omega, by rw [← htp]; exact hlo, by rw [← htp]; exact (pk_lLT (by omega) (by omega)).mp c4⟩, rfl, rfl⟩
        · refine lv_iinc (v := nI (t + 1)) (lv' := [(3, .int (nI (t + 1))), (1, .long (lN tp)), (0, .ref (o i))]) hx hb d_Wh_topLength_29 hl (k := 0) rfl (nI_1 _) (by decide) rfl (fun ls hl => ?_)
          refine lv_goto (tgt := 13) hx hb d_Wh_topLength_32 (by decide) ?_
          exact ih (t + 1) _ _ _ _ (by omega) (by omega) (by rw [Nat.add_sub_cancel]; exact (pk_lLE (by omega) (by omega)).mp c4) rfl hI hl
  refine lv_lstore_n (lv' := [(1, .long (lN tp)), (0, .ref (o i))]) hx hb d_Wh_topLength_10 rfl hl (by decide) rfl (fun ls hl => ?_)
  refine lv_iconst (v := nI 1) hx hb d_Wh_topLength_11 (by decide) ?_
  refine lv_istore_n (lv' := [(3, .int (nI 1)), (1, .long (lN tp)), (0, .ref (o i))]) hx hb d_Wh_topLength_12 rfl hl (by decide) rfl (fun ls hl => ?_)
  exact loop 8 1 _ _ _ _ rfl (Nat.le_refl _) htop rfl hI hl
set_option maxHeartbeats 4000000 in
set_option maxRecDepth 100000 in
theorem c_Wh_decimalLength (l : Launch) (D : va_G) (t0 : Nat) (L : List Nat) (f : Nat → va_E) (sz : Nat) (o r : Nat → Nat) (N : Nat) (x : Nat → Nat) (i : Nat) (hi : i < N) (hY : Lay o r N) (hN : AllN D L f o r N x) : Met l y_Wh_decimalLength (Cond.code y_Wh_decimalLength b_Wh_decimalLength 1 (some .int) :: TT) ({ frames := 2, cells := 0, slots := 0, locals := 44 } : Room) (hw_Pc t0 [.ref (o i)] D L f sz) (hw_Q D L sz (fun oc L' f' => (∃ T, oc = .returned (some (.int (nI T))) ∧ dlen T (x i) ∧ T ≤ 369) ∧ L = L' ∧ f = f')) 0 0 (hw_A L sz) := by
  refine Met.ofW (cc := b_Wh_decimalLength) (maxL := 1) (ret := (some .int)) (by decide) rfl ?_
  intro p e s m args below meth c s₁ B hml hv
  obtain ⟨rfl, rfl, hI⟩ := hw_start hv
  clear hv
  have hx := B.exec
  have hb := B.bytes
  have hr := B.returns
  have hlocks := B.notSynchronized
  have hown : s.vm.findClass "WallFractions$Whole" = some m.cls := findClass_of_methodNamed B.named
  have hT : ∀ w ∈ TT, w.before ([.ref (o i)]).toArray s = true := fun w h => atoms_spec (ws := (Cond.code y_Wh_decimalLength b_Wh_decimalLength 1 (some .int) :: TT)) B.pre w (List.mem_cons_of_mem _ h)
  have S : CallFix p m c b_Wh_decimalLength 1 s ([.ref (o i)]).toArray TT "WallFractions$Whole" := ⟨hx, hb, hml, hown, hT⟩
  have hl := lv_entry ([.ref (o i)]) (n := 1) (Nat.le_of_ble_eq_true rfl)
  rw [lg_entry_eq]
  generalize (lg_sl ([.ref (o i)]) ++ List.replicate (1 - (lg_sl ([.ref (o i)])).length) Slot.unset).toArray = ls at hl ⊢
  have hl : lv_has ls 1 [(0, .ref (o i))] := hl
  skip
  obtain ⟨v, hV, hO⟩ := hN
  have h1 := (hO i hi).1
  have hz := (hO i hi).2.zero nB_pos
  refine lv_aload_n hx hb d_Wh_decimalLength_0 rfl (lv_at hl 0 rfl) ?_
  refine wh_size S hI hV hi d_Wh_decimalLength_1 ?_
  refine hw_if_ne (tgt := 11) hx hb d_Wh_decimalLength_4 (by decide) (by omega) (fun c5 => ?_) (fun c5 => ?_)
  · refine lv_aload_n hx hb d_Wh_decimalLength_11 rfl (lv_at hl 0 rfl) ?_
    refine wh_size S hI hV hi d_Wh_decimalLength_12 ?_
    refine lv_iconst (v := nI 1) hx hb d_Wh_decimalLength_15 (by decide) ?_
    refine lv_isub hx hb d_Wh_decimalLength_16 ?_
    refine hw_ti (pk_sub (by omega)) ?_
    refine lv_bipush (v := nI 9) hx hb d_Wh_decimalLength_17 (by decide) ?_
    refine lv_imul hx hb d_Wh_decimalLength_19 ?_
    refine hw_ti (pk_mul _ _) ?_
    refine lv_aload_n hx hb d_Wh_decimalLength_20 rfl (lv_at hl 0 rfl) ?_
    refine hw_cV (As := []) (rest := [.int (nI ((((v i).1) - 1) * 9))]) S hI m_Wh_topLength w_629 (c_Wh_topLength l D t0 L _ _ o r N v i hi hY hV h1 (by omega) (hO i hi).2.1 ((hO i hi).2.2.1 (by omega))) (hV _ hi).1 rfl hl.1 rfl rfl (Nat.le_of_ble_eq_true rfl) d_Wh_decimalLength_21 ⟨Nat.le_of_ble_eq_true rfl, Nat.le_of_ble_eq_true rfl⟩ ⟨Nat.le_of_ble_eq_true rfl, Nat.le_of_ble_eq_true rfl⟩ (fun v9 L9 f6 H locs hp hI => ?_)
    refine W.cs (cells' := 0) (slots' := 0) rfl rfl ?_
    obtain ⟨⟨T9, hv9, hT1, hT9, hlo, hhi⟩, rfl, rfl⟩ := hp
    cases hv9
    refine hw_stk (st' := [.int (nI T9), .int (nI ((((v i).1) - 1) * 9))]) rfl ?_
    refine lv_iadd hx hb d_Wh_decimalLength_24 ?_
    refine hw_ti (nI_add _ _) ?_
    exact hw_iret hx hb hr hlocks hI d_Wh_decimalLength_25 ⟨⟨_, rfl, dlen_top (hO i hi).2 (by omega) hT1 hlo hhi, by omega⟩, rfl, rfl⟩
  · refine lv_iconst (v := nI 1) hx hb d_Wh_decimalLength_7 (by decide) ?_
    refine lv_goto (tgt := 25) hx hb d_Wh_decimalLength_8 (by decide) ?_
    exact hw_iret hx hb hr hlocks hI d_Wh_decimalLength_25 ⟨⟨1, rfl, by rw [hz.mp c5]; exact ⟨Nat.le_refl _, by decide, fun h => absurd h (by decide)⟩, by decide⟩, rfl, rfl⟩
set_option maxHeartbeats 4000000 in
set_option maxRecDepth 100000 in
theorem c_Wh_decimalAt (l : Launch) (D : va_G) (t0 : Nat) (L : List Nat) (f : Nat → va_E) (sz : Nat) (o r : Nat → Nat) (N : Nat) (x : Nat → Nat) (i : Nat) (k : Nat) (hi : i < N) (hY : Lay o r N) (hN : AllN D L f o r N x) (hk : k < 2 ^ 31) : Met l y_Wh_decimalAt (Cond.code y_Wh_decimalAt b_Wh_decimalAt 2 (some .int) :: TT) ({ frames := 1, cells := 0, slots := 0, locals := 21 } : Room) (hw_Pc t0 [.ref (o i), .int (nI k)] D L f sz) (hw_Q D L sz (fun oc L' f' => oc = .returned (some (.int (nI (x i / 10 ^ k % 10)))) ∧ L = L' ∧ f = f')) 0 0 (hw_A L sz) := by
  refine Met.ofW (cc := b_Wh_decimalAt) (maxL := 2) (ret := (some .int)) (by decide) rfl ?_
  intro p e s m args below meth c s₁ B hml hv
  obtain ⟨rfl, rfl, hI⟩ := hw_start hv
  clear hv
  have hx := B.exec
  have hb := B.bytes
  have hr := B.returns
  have hlocks := B.notSynchronized
  have hown : s.vm.findClass "WallFractions$Whole" = some m.cls := findClass_of_methodNamed B.named
  have hT : ∀ w ∈ TT, w.before ([.ref (o i), .int (nI k)]).toArray s = true := fun w h => atoms_spec (ws := (Cond.code y_Wh_decimalAt b_Wh_decimalAt 2 (some .int) :: TT)) B.pre w (List.mem_cons_of_mem _ h)
  have S : CallFix p m c b_Wh_decimalAt 2 s ([.ref (o i), .int (nI k)]).toArray TT "WallFractions$Whole" := ⟨hx, hb, hml, hown, hT⟩
  have hl := lv_entry ([.ref (o i), .int (nI k)]) (n := 2) (Nat.le_of_ble_eq_true rfl)
  rw [lg_entry_eq]
  generalize (lg_sl ([.ref (o i), .int (nI k)]) ++ List.replicate (2 - (lg_sl ([.ref (o i), .int (nI k)])).length) Slot.unset).toArray = ls at hl ⊢
  have hl : lv_has ls 2 [(0, .ref (o i)), (1, .int (nI k))] := hl
  skip
  obtain ⟨v, hV, hO⟩ := hN
  have h1 := (hO i hi).1
  have hnB : nB = 1000000000 := rfl
  have hk9 : k / 9 ≤ k := Nat.div_le_self _ _
  refine lv_aload_n hx hb d_Wh_decimalAt_0 rfl (lv_at hl 0 rfl) ?_
  refine lv_iload_n hx hb d_Wh_decimalAt_1 rfl (lv_at hl 1 rfl) ?_
  refine lv_bipush (v := nI 9) hx hb d_Wh_decimalAt_2 (by decide) ?_
  refine lv_idiv hx hb d_Wh_decimalAt_4 (by intro h9; have h8 := (nI_eq (b := 0) (by omega) (by decide)).mp h9; omega) ?_
  refine hw_ti (pk_div (by omega) (by omega) (by omega)) ?_
  refine hw_cV (As := [.int (nI (k / 9))]) (rest := []) S hI m_Wh_limbAt w_418 (c_Wh_limbAt l D t0 L _ _ o r N v i (k / 9) hi hY hV (by omega) h1) (hV _ hi).1 rfl hl.1 rfl rfl (Nat.le_of_ble_eq_true rfl) d_Wh_decimalAt_5 ⟨Nat.le_of_ble_eq_true rfl, Nat.le_of_ble_eq_true rfl⟩ ⟨Nat.le_of_ble_eq_true rfl, Nat.le_of_ble_eq_true rfl⟩ (fun v9 L9 f7 H locs hp hI => ?_)
  refine W.cs (cells' := 0) (slots' := 0) rfl rfl ?_
  obtain ⟨hv9, rfl, rfl⟩ := hp
  cases hv9
  refine hw_stk (st' := [.long (lN (padl (v i) (k / 9)))]) rfl ?_
  have hp := padl_lt nB_pos (hO i hi).2.1 (k / 9)
  have hpn := padl_num (q := k / 9) (hO i hi).2
  have ht := ten9 (Nat.mod_lt k (show 0 < 9 by decide))
  have hdv := Nat.div_le_self (padl (v i) (k / 9)) (10 ^ (k % 9))
  refine hw_tens S hI (by decide) d_Wh_decimalAt_8 ?_
  refine lv_iload_n hx hb d_Wh_decimalAt_11 rfl (lv_at hl 1 rfl) ?_
  refine lv_bipush (v := nI 9) hx hb d_Wh_decimalAt_12 (by decide) ?_
  refine lv_irem hx hb d_Wh_decimalAt_14 (by intro h9; have h8 := (nI_eq (b := 0) (by omega) (by decide)).mp h9; omega) ?_
  refine hw_ti (pk_rem (by omega) (by omega) (by omega)) ?_
  refine hw_tld S hI (by omega) d_Wh_decimalAt_15 ?_
  refine lv_ldiv hx hb d_Wh_decimalAt_16 (by intro h9; have h8 := (pk_lEQ (b := 0) (by omega) (by decide)).mp h9; omega) ?_
  refine hw_tl (pk_lDiv (by omega) (by omega) (by omega)) ?_
  refine hw_ldc2 (v := lN 10) hx hb hown (hT _ w_694) d_Wh_decimalAt_17 ?_
  refine lv_lrem hx hb d_Wh_decimalAt_20 (by intro h9; have h8 := (pk_lEQ (b := 0) (by omega) (by decide)).mp h9; omega) ?_
  refine hw_tl (pk_lRem (by omega) (by omega) (by omega)) ?_
  refine lv_l2i (v := nI (((padl (v i) (k / 9)) / (10 ^ (k % 9))) % 10)) hx hb d_Wh_decimalAt_21 (lN_i _) ?_
  exact hw_iret hx hb hr hlocks hI d_Wh_decimalAt_22 ⟨by rw [show padl (v i) (k / 9) = _ from hpn, dig_num], rfl, rfl⟩
set_option maxHeartbeats 4000000 in
set_option maxRecDepth 100000 in
theorem c_Wh_becomeTenTo (l : Launch) (D : va_G) (t0 : Nat) (L : List Nat) (f : Nat → va_E) (sz : Nat) (o r : Nat → Nat) (N : Nat) (x : Nat → Nat) (i : Nat) (ex : Nat) (hi : i < N) (hY : Lay o r N) (hN : AllN D L f o r N x) (hex : ex ≤ 368) : Met l y_Wh_becomeTenTo (Cond.code y_Wh_becomeTenTo b_Wh_becomeTenTo 4 none :: TT) ({ frames := 7, cells := 0, slots := 0, locals := 130 } : Room) (hw_Pc t0 [.ref (o i), .int (nI ex)] D L f sz) (hw_Q D L sz (fun oc L' f' => oc = .returned none ∧ L = L' ∧ AllN D L f' o r N (va_up x i (10 ^ ex)) ∧ ∀ q, q ≠ o i → q ≠ r i → f' q = f q)) 0 0 (hw_A L sz) := by
  refine Met.ofW (cc := b_Wh_becomeTenTo) (maxL := 4) (ret := none) (by decide) rfl ?_
  intro p e s m args below meth c s₁ B hml hv
  obtain ⟨rfl, rfl, hI⟩ := hw_start hv
  clear hv
  have hx := B.exec
  have hb := B.bytes
  have hr := B.returns
  have hlocks := B.notSynchronized
  have hown : s.vm.findClass "WallFractions$Whole" = some m.cls := findClass_of_methodNamed B.named
  have hT : ∀ w ∈ TT, w.before ([.ref (o i), .int (nI ex)]).toArray s = true := fun w h => atoms_spec (ws := (Cond.code y_Wh_becomeTenTo b_Wh_becomeTenTo 4 none :: TT)) B.pre w (List.mem_cons_of_mem _ h)
  have S : CallFix p m c b_Wh_becomeTenTo 4 s ([.ref (o i), .int (nI ex)]).toArray TT "WallFractions$Whole" := ⟨hx, hb, hml, hown, hT⟩
  have hl := lv_entry ([.ref (o i), .int (nI ex)]) (n := 4) (Nat.le_of_ble_eq_true rfl)
  rw [lg_entry_eq]
  generalize (lg_sl ([.ref (o i), .int (nI ex)]) ++ List.replicate (4 - (lg_sl ([.ref (o i), .int (nI ex)])).length) Slot.unset).toArray = ls at hl ⊢
  have hl : lv_has ls 4 [(0, .ref (o i)), (1, .int (nI ex))] := hl
  skip
  obtain ⟨v, hV, hO⟩ := hN
  have hnB : nB = 1000000000 := rfl
  obtain ⟨M, hM⟩ : ∃ M, M = ex / 9 := ⟨_, rfl⟩
  have hM40 : M ≤ 40 := by omega
  refine lv_iload_n hx hb d_Wh_becomeTenTo_0 rfl (lv_at hl 1 rfl) ?_
  refine lv_bipush (v := nI 9) hx hb d_Wh_becomeTenTo_1 (by decide) ?_
  refine lv_idiv hx hb d_Wh_becomeTenTo_3 (by intro h9; have h8 := (nI_eq (b := 0) (by omega) (by decide)).mp h9; omega) ?_
  refine hw_ti (pk_div (by omega) (by omega) (by omega)) ?_
  refine hw_ti (show _ = nI M from by rw [hM]) ?_
  refine lv_istore_n (lv' := [(2, .int (nI M)), (0, .ref (o i)), (1, .int (nI ex))]) hx hb d_Wh_becomeTenTo_4 rfl hl (by decide) rfl (fun ls hl => ?_)
  refine lv_iload_n hx hb d_Wh_becomeTenTo_5 rfl (lv_at hl 0 rfl) ?_
  refine lv_iconst (v := nI 1) hx hb d_Wh_becomeTenTo_6 (by decide) ?_
  refine lv_iadd hx hb d_Wh_becomeTenTo_7 ?_
  refine hw_ti (nI_add _ _) ?_
  refine hw_cS (As := [.int (nI (M + 1))]) (rest := []) S hI m_Wh_requireRoom w_385 (c_Wh_requireRoom l D t0 L _ _ (M + 1) (by omega)) hl.1 rfl rfl (Nat.le_of_ble_eq_true rfl) d_Wh_becomeTenTo_8 ⟨Nat.le_of_ble_eq_true rfl, Nat.le_of_ble_eq_true rfl⟩ ⟨Nat.le_of_ble_eq_true rfl, Nat.le_of_ble_eq_true rfl⟩ (fun v9 L9 f8 H locs hp hI => ?_)
  refine W.cs (cells' := 0) (slots' := 0) rfl rfl ?_
  obtain ⟨hv9, rfl, rfl⟩ := hp
  cases hv9
  refine hw_stk (st' := []) rfl ?_
  have loop : ∀ (g t : Nat) (h : Nat → Nat) (f1 : Nat → va_E) (H : Heap) (locs : List Loc) (ls : Array Slot), t + g = M → (∀ q, h q < nB) → (∀ q, q < t → h q = 0) → AllW D L f1 o r N (va_up v i ((v i).1, h)) → (∀ q, q ≠ o i → q ≠ r i → f1 q = f q) → hw_I D t0 (hw_A L s.heap.size) s L f1 H locs → lv_has ls 4 [(3, .int (nI t)), (2, .int (nI M)), (0, .ref (o i)), (1, .int (nI ex))] → W p l e (headSpec (Cond.code y_Wh_becomeTenTo b_Wh_becomeTenTo 4 none :: TT) ({ frames := 7, cells := 0, slots := 0, locals := 130 } : Room)).room s m ([.ref (o i), .int (nI ex)]).toArray below meth c H locs 0 0 (MQ below (hw_Q D L s.heap.size (fun oc L' f' => oc = .returned none ∧ L = L' ∧ AllN D L f' o r N (va_up x i (10 ^ ex)) ∧ ∀ q, q ≠ o i → q ≠ r i → f' q = f q)) ([.ref (o i), .int (nI ex)]).toArray s 0 0 (hw_A L s.heap.size)) (F0 m 13 ls []) := by
    intro g
    induction g with
    | zero =>
      intro t h f1 H locs ls htg hB hz hV hF hI hl
      refine lv_iload_n hx hb d_Wh_becomeTenTo_13 rfl (lv_at hl 0 rfl) ?_
      refine lv_iload_n hx hb d_Wh_becomeTenTo_14 rfl (lv_at hl 1 rfl) ?_
      refine hw_icmp_ge (tgt := 31) hx hb d_Wh_becomeTenTo_15 (by decide) (by omega) (by omega) (fun c9 => ?_) (fun c9 => ?_)
      · have ht := ten9 (Nat.mod_lt ex (show 0 < 9 by decide))
        have hm9 := Nat.mod_lt ex (show 0 < 9 by decide)
        refine lv_aload_n hx hb d_Wh_becomeTenTo_31 rfl (lv_at hl 2 rfl) ?_
        refine wh_limbs S hI hV hi d_Wh_becomeTenTo_32 ?_
        refine lv_iload_n hx hb d_Wh_becomeTenTo_35 rfl (lv_at hl 1 rfl) ?_
        refine hw_tens S hI (by decide) d_Wh_becomeTenTo_36 ?_
        refine lv_iload_n hx hb d_Wh_becomeTenTo_39 rfl (lv_at hl 3 rfl) ?_
        refine lv_bipush (v := nI 9) hx hb d_Wh_becomeTenTo_40 (by decide) ?_
        refine lv_irem hx hb d_Wh_becomeTenTo_42 (by intro h9; have h8 := (nI_eq (b := 0) (by omega) (by decide)).mp h9; omega) ?_
        refine hw_ti (pk_rem (by omega) (by omega) (by omega)) ?_
        refine hw_tld S hI (by omega) d_Wh_becomeTenTo_43 ?_
        refine wh_st S hI hV hY hi (by omega) d_Wh_becomeTenTo_44 (fun f10 H locs hI hV hf10 => ?_)
        have hF := fun q (h1 : q ≠ o i) (h2 : q ≠ r i) => (hf10 q h2).trans (hF q h1 h2)
        have hV : AllW D L f10 o r N (va_up v i ((v i).1, va_up h M (10 ^ (ex % 9)))) := by simpa only [hw_up_eq, bx_uu] using hV
        refine lv_aload_n hx hb d_Wh_becomeTenTo_45 rfl (lv_at hl 2 rfl) ?_
        refine lv_iload_n hx hb d_Wh_becomeTenTo_46 rfl (lv_at hl 1 rfl) ?_
        refine lv_iconst (v := nI 1) hx hb d_Wh_becomeTenTo_47 (by decide) ?_
        refine lv_iadd hx hb d_Wh_becomeTenTo_48 ?_
        refine hw_ti (nI_add _ _) ?_
        refine wh_psize S hI hV hY hi d_Wh_becomeTenTo_49 (fun f11 H locs hI hV hf11 => ?_)
        have hF := fun q (h1 : q ≠ o i) (h2 : q ≠ r i) => (hf11 q h1).trans (hF q h1 h2)
        have hV : AllW D L f11 o r N (va_up v i (M + 1, va_up h M (10 ^ (ex % 9)))) := by simpa only [hw_up_eq, bx_uu] using hV
        exact hw_vret hx hb hr hlocks hI d_Wh_becomeTenTo_52 ⟨rfl, rfl, AllN.mk hO hV (by omega) ⟨(fun q => by by_cases e9 : q = M; (subst e9; rw [hw_up_eq]; exact ht.1); (rw [hw_up_ne e9]; exact hB q)), fun _ => by rw [Nat.add_sub_cancel, hw_up_eq]; exact ht.2, by rw [nvb_upS, nvb_zeros (n := 0) (Nat.zero_le _) (fun q _ hq => hz q (by omega)), nvb_zero, Nat.zero_add, hM, ten_num]⟩, hF⟩
      · exact absurd c9 (by omega)
    | succ g ih =>
      intro t h f1 H locs ls htg hB hz hV hF hI hl
      refine lv_iload_n hx hb d_Wh_becomeTenTo_13 rfl (lv_at hl 0 rfl) ?_
      refine lv_iload_n hx hb d_Wh_becomeTenTo_14 rfl (lv_at hl 1 rfl) ?_
      refine hw_icmp_ge (tgt := 31) hx hb d_Wh_becomeTenTo_15 (by decide) (by omega) (by omega) (fun c12 => ?_) (fun c12 => ?_)
      · exact absurd c12 (by omega)
      · refine lv_aload_n hx hb d_Wh_becomeTenTo_18 rfl (lv_at hl 2 rfl) ?_
        refine wh_limbs S hI hV hi d_Wh_becomeTenTo_19 ?_
        refine lv_iload_n hx hb d_Wh_becomeTenTo_22 rfl (lv_at hl 0 rfl) ?_
        refine lv_lconst (v := lN 0) hx hb d_Wh_becomeTenTo_23 rfl ?_
        refine wh_st S hI hV hY hi (by omega) d_Wh_becomeTenTo_24 (fun f13 H locs hI hV hf13 => ?_)
        have hF := fun q (h1 : q ≠ o i) (h2 : q ≠ r i) => (hf13 q h2).trans (hF q h1 h2)
        have hV : AllW D L f13 o r N (va_up v i ((v i).1, va_up h t 0)) := by simpa only [hw_up_eq, bx_uu] using hV
        refine lv_iinc (v := nI (t + 1)) (lv' := [(3, .int (nI (t + 1))), (2, .int (nI M)), (0, .ref (o i)), (1, .int (nI ex))]) hx hb d_Wh_becomeTenTo_25 hl (k := 0) rfl (nI_1 _) (by decide) rfl (fun ls hl => ?_)
        refine lv_goto (tgt := 13) hx hb d_Wh_becomeTenTo_28 (by decide) ?_
        exact ih (t + 1) (va_up h t 0) _ _ _ _ (by omega) (fun q => by by_cases e9 : q = t; (subst e9; rw [hw_up_eq]; exact nB_pos); (rw [hw_up_ne e9]; exact hB q)) (fun q hq => by by_cases e9 : q = t; (subst e9; rw [hw_up_eq]); (rw [hw_up_ne e9]; exact hz q (by omega))) hV hF hI hl
  refine lv_iconst (v := nI 0) hx hb d_Wh_becomeTenTo_11 (by decide) ?_
  refine lv_istore_n (lv' := [(3, .int (nI 0)), (2, .int (nI M)), (0, .ref (o i)), (1, .int (nI ex))]) hx hb d_Wh_becomeTenTo_12 rfl hl (by decide) rfl (fun ls hl => ?_)
  exact loop M 0 (v i).2 _ _ _ _ (by omega) (hO i hi).2.1 (fun q hq => absurd hq (by omega)) (fun z hz => by by_cases e9 : z = i; (subst e9; rw [hw_up_eq]; exact hV z hz); (rw [hw_up_ne e9]; exact hV z hz)) (fun _ _ _ => rfl) hI hl

set_option maxHeartbeats 4000000 in
set_option maxRecDepth 100000 in
theorem c_Mo_cell (l : Launch) (D : va_G) (t0 : Nat) (L : List Nat) (f : Nat → va_E) (sz : Nat) (mm mc ml mg mw mr : Nat) (th : Int32) (cs ns : Nat → Nat) (sn : Nat → Int32) (wt rr : Nat → Nat) (i k : Nat) (hm : Mb D L f mm mc ml mg mw mr th cs ns sn wt rr) (hi : i < 50) (hk : k < 2 ^ 31) (hni : ns i ≤ 128) : Met l y_Mo_cell (Cond.code y_Mo_cell b_Mo_cell 3 (some .int) :: TT) ({ frames := 0, cells := 0, slots := 0, locals := 0 } : Room) (hw_Pc t0 [.ref (mm), .int (nI i), .int (nI k)] D L f sz) (hw_Q D L sz (fun oc L' f' => oc = .returned (some (.int (nI (pcl cs ns i k)))) ∧ L = L' ∧ f = f')) 0 0 (hw_A L sz) := by
  refine Met.ofW (cc := b_Mo_cell) (maxL := 3) (ret := (some .int)) (by decide) rfl ?_
  intro p e s m args below meth c s₁ B hml hv
  obtain ⟨rfl, rfl, hI⟩ := hw_start hv
  clear hv
  have hx := B.exec
  have hb := B.bytes
  have hr := B.returns
  have hlocks := B.notSynchronized
  have hown : s.vm.findClass "WallFractionsModel" = some m.cls := findClass_of_methodNamed B.named
  have hT : ∀ w ∈ TT, w.before ([.ref (mm), .int (nI i), .int (nI k)]).toArray s = true := fun w h => atoms_spec (ws := (Cond.code y_Mo_cell b_Mo_cell 3 (some .int) :: TT)) B.pre w (List.mem_cons_of_mem _ h)
  have S : CallFix p m c b_Mo_cell 3 s ([.ref (mm), .int (nI i), .int (nI k)]).toArray TT "WallFractionsModel" := ⟨hx, hb, hml, hown, hT⟩
  have hl := lv_entry ([.ref (mm), .int (nI i), .int (nI k)]) (n := 3) (Nat.le_of_ble_eq_true rfl)
  rw [lg_entry_eq]
  generalize (lg_sl ([.ref (mm), .int (nI i), .int (nI k)]) ++ List.replicate (3 - (lg_sl ([.ref (mm), .int (nI i), .int (nI k)])).length) Slot.unset).toArray = ls at hl ⊢
  have hl : lv_has ls 3 [(0, .ref (mm)), (1, .int (nI i)), (2, .int (nI k))] := hl
  skip
  refine lv_iload_n hx hb d_Mo_cell_0 rfl (lv_at hl 2 rfl) ?_
  refine hw_if_lt (tgt := 29) hx hb d_Mo_cell_1 (by decide) hk ?_
  refine lv_iload_n hx hb d_Mo_cell_4 rfl (lv_at hl 2 rfl) ?_
  refine lv_aload_n hx hb d_Mo_cell_5 rfl (lv_at hl 0 rfl) ?_
  refine ob_get S hI hm.1 (C := R_Mo) (T := F_Mo) (N := 6) (ref := "WallFractionsModel") rfl i_Mo 2 (by decide) rfl w_773 rfl d_Mo_cell_6 ?_
  refine lv_iload_n hx hb d_Mo_cell_9 rfl (lv_at hl 1 rfl) ?_
  refine ia_ld S hI hm.2.2.1 (by decide) (by omega) d_Mo_cell_10 ?_
  refine hw_icmp_ge (tgt := 29) hx hb d_Mo_cell_11 (by decide) (by omega) (by omega) (fun c1 => ?_) (fun c1 => ?_)
  · refine lv_iconst (v := nI 0) hx hb d_Mo_cell_29 (by decide) ?_
    exact hw_iret hx hb hr hlocks hI d_Mo_cell_30 ⟨by unfold pcl; rw [if_neg (by omega)], rfl, rfl⟩
  · refine lv_aload_n hx hb d_Mo_cell_14 rfl (lv_at hl 0 rfl) ?_
    refine ob_get S hI hm.1 (C := R_Mo) (T := F_Mo) (N := 6) (ref := "WallFractionsModel") rfl i_Mo 1 (by decide) rfl w_772 rfl d_Mo_cell_15 ?_
    refine lv_sipush (v := nI 128) hx hb d_Mo_cell_18 (by decide) ?_
    refine lv_iload_n hx hb d_Mo_cell_21 rfl (lv_at hl 1 rfl) ?_
    refine lv_imul hx hb d_Mo_cell_22 ?_
    refine hw_ti (pk_mul _ _) ?_
    refine lv_iload_n hx hb d_Mo_cell_23 rfl (lv_at hl 2 rfl) ?_
    refine lv_iadd hx hb d_Mo_cell_24 ?_
    refine hw_ti (nI_add _ _) ?_
    refine ia_ld S hI hm.2.1 (by decide) (by omega) d_Mo_cell_25 ?_
    refine lv_goto (tgt := 30) hx hb d_Mo_cell_26 (by decide) ?_
    exact hw_iret hx hb hr hlocks hI d_Mo_cell_30 ⟨by unfold pcl; rw [if_pos c1], rfl, rfl⟩
set_option maxHeartbeats 4000000 in
set_option maxRecDepth 100000 in
theorem c_Mo_cell_neg (l : Launch) (D : va_G) (t0 : Nat) (L : List Nat) (f : Nat → va_E) (sz : Nat) (mm mc ml mg mw mr : Nat) (th : Int32) (cs ns : Nat → Nat) (sn : Nat → Int32) (wt rr : Nat → Nat) (i : Nat) (k0 : Int32) (hm : Mb D L f mm mc ml mg mw mr th cs ns sn wt rr) (hi : i < 50) (hk : k0 < 0) : Met l y_Mo_cell (Cond.code y_Mo_cell b_Mo_cell 3 (some .int) :: TT) ({ frames := 0, cells := 0, slots := 0, locals := 0 } : Room) (hw_Pc t0 [.ref (mm), .int (nI i), .int (k0)] D L f sz) (hw_Q D L sz (fun oc L' f' => oc = .returned (some (.int (nI 0))) ∧ L = L' ∧ f = f')) 0 0 (hw_A L sz) := by
  refine Met.ofW (cc := b_Mo_cell) (maxL := 3) (ret := (some .int)) (by decide) rfl ?_
  intro p e s m args below meth c s₁ B hml hv
  obtain ⟨rfl, rfl, hI⟩ := hw_start hv
  clear hv
  have hx := B.exec
  have hb := B.bytes
  have hr := B.returns
  have hlocks := B.notSynchronized
  have hown : s.vm.findClass "WallFractionsModel" = some m.cls := findClass_of_methodNamed B.named
  have hT : ∀ w ∈ TT, w.before ([.ref (mm), .int (nI i), .int (k0)]).toArray s = true := fun w h => atoms_spec (ws := (Cond.code y_Mo_cell b_Mo_cell 3 (some .int) :: TT)) B.pre w (List.mem_cons_of_mem _ h)
  have S : CallFix p m c b_Mo_cell 3 s ([.ref (mm), .int (nI i), .int (k0)]).toArray TT "WallFractionsModel" := ⟨hx, hb, hml, hown, hT⟩
  have hl := lv_entry ([.ref (mm), .int (nI i), .int (k0)]) (n := 3) (Nat.le_of_ble_eq_true rfl)
  rw [lg_entry_eq]
  generalize (lg_sl ([.ref (mm), .int (nI i), .int (k0)]) ++ List.replicate (3 - (lg_sl ([.ref (mm), .int (nI i), .int (k0)])).length) Slot.unset).toArray = ls at hl ⊢
  have hl : lv_has ls 3 [(0, .ref (mm)), (1, .int (nI i)), (2, .int (k0))] := hl
  skip
  refine lv_iload_n hx hb d_Mo_cell_0 rfl (lv_at hl 2 rfl) ?_
  refine lv_if_lt (tgt := 29) hx hb d_Mo_cell_1 (by decide) (fun c2 => ?_) (fun c2 => ?_)
  · refine lv_iconst (v := nI 0) hx hb d_Mo_cell_29 (by decide) ?_
    exact hw_iret hx hb hr hlocks hI d_Mo_cell_30 ⟨rfl, rfl, rfl⟩
  · exact absurd hk c2
set_option maxHeartbeats 4000000 in
set_option maxRecDepth 100000 in
theorem c_Mo_trim (l : Launch) (D : va_G) (t0 : Nat) (L : List Nat) (f : Nat → va_E) (sz : Nat) (mm mc ml mg mw mr : Nat) (th : Int32) (cs ns : Nat → Nat) (sn : Nat → Int32) (wt rr : Nat → Nat) (i n0 : Nat) (hm : Mb D L f mm mc ml mg mw mr th cs ns sn wt rr) (hi : i < 50) (h0 : n0 ≤ 128) (hB : ∀ q, cs q < 10000) : Met l y_Mo_trim (Cond.code y_Mo_trim b_Mo_trim 4 none :: TT) ({ frames := 0, cells := 0, slots := 0, locals := 0 } : Room) (hw_Pc t0 [.ref (mm), .int (nI i), .int (nI n0)] D L f sz) (hw_Q D L sz (fun oc L' f' => oc = .returned none ∧ L = L' ∧ ∃ n', n' ≤ n0 ∧ nOk 10000 n' (nsh cs (128 * i)) (nvb 10000 (nsh cs (128 * i)) n0) ∧ Mb D L f' mm mc ml mg mw mr th cs (va_up ns i n') sn wt rr ∧ Fo mm mc ml mg mw mr f f')) 0 0 (hw_A L sz) := by
  refine Met.ofW (cc := b_Mo_trim) (maxL := 4) (ret := none) (by decide) rfl ?_
  intro p e s m args below meth c s₁ B hml hv
  obtain ⟨rfl, rfl, hI⟩ := hw_start hv
  clear hv
  have hx := B.exec
  have hb := B.bytes
  have hr := B.returns
  have hlocks := B.notSynchronized
  have hown : s.vm.findClass "WallFractionsModel" = some m.cls := findClass_of_methodNamed B.named
  have hT : ∀ w ∈ TT, w.before ([.ref (mm), .int (nI i), .int (nI n0)]).toArray s = true := fun w h => atoms_spec (ws := (Cond.code y_Mo_trim b_Mo_trim 4 none :: TT)) B.pre w (List.mem_cons_of_mem _ h)
  have S : CallFix p m c b_Mo_trim 4 s ([.ref (mm), .int (nI i), .int (nI n0)]).toArray TT "WallFractionsModel" := ⟨hx, hb, hml, hown, hT⟩
  have hl := lv_entry ([.ref (mm), .int (nI i), .int (nI n0)]) (n := 4) (Nat.le_of_ble_eq_true rfl)
  rw [lg_entry_eq]
  generalize (lg_sl ([.ref (mm), .int (nI i), .int (nI n0)]) ++ List.replicate (4 - (lg_sl ([.ref (mm), .int (nI i), .int (nI n0)])).length) Slot.unset).toArray = ls at hl ⊢
  have hl : lv_has ls 4 [(0, .ref (mm)), (1, .int (nI i)), (2, .int (nI n0))] := hl
  skip
  have hF : Fo mm mc ml mg mw mr f f := Fo.refl
  have loop : ∀ (t : Nat) (f1 : Nat → va_E) (H : Heap) (locs : List Loc) (ls : Array Slot), t ≤ n0 → (∀ j, t ≤ j → j < n0 → cs (128 * i + j) = 0) → f = f1 → hw_I D t0 (hw_A L s.heap.size) s L f1 H locs → lv_has ls 4 [(3, .int (nI t)), (1, .int (nI i)), (0, .ref (mm))] → W p l e (headSpec (Cond.code y_Mo_trim b_Mo_trim 4 none :: TT) ({ frames := 0, cells := 0, slots := 0, locals := 0 } : Room)).room s m ([.ref (mm), .int (nI i), .int (nI n0)]).toArray below meth c H locs 0 0 (MQ below (hw_Q D L s.heap.size (fun oc L' f' => oc = .returned none ∧ L = L' ∧ ∃ n', n' ≤ n0 ∧ nOk 10000 n' (nsh cs (128 * i)) (nvb 10000 (nsh cs (128 * i)) n0) ∧ Mb D L f' mm mc ml mg mw mr th cs (va_up ns i n') sn wt rr ∧ Fo mm mc ml mg mw mr f f')) ([.ref (mm), .int (nI i), .int (nI n0)]).toArray s 0 0 (hw_A L s.heap.size)) (F0 m 2 ls []) := by
    intro t
    induction t with
    | zero =>
      intro f1 H locs ls ht hz hf hI hl
      subst hf
      refine lv_iload_n hx hb d_Mo_trim_2 rfl (lv_at hl 0 rfl) ?_
      refine hw_if_le (tgt := 29) hx hb d_Mo_trim_3 (by decide) (by omega) (fun c3 => ?_) (fun c3 => ?_)
      · refine lv_aload_n hx hb d_Mo_trim_29 rfl (lv_at hl 2 rfl) ?_
        refine ob_get S hI hm.1 (C := R_Mo) (T := F_Mo) (N := 6) (ref := "WallFractionsModel") rfl i_Mo 2 (by decide) rfl w_773 rfl d_Mo_trim_30 ?_
        refine lv_iload_n hx hb d_Mo_trim_33 rfl (lv_at hl 1 rfl) ?_
        refine lv_iload_n hx hb d_Mo_trim_34 rfl (lv_at hl 0 rfl) ?_
        refine ia_st S hI hm.2.2.1 (by decide) (by omega) d_Mo_trim_35 (fun f4 H locs hI hR9 hf4 => ?_)
        have hm := hm.uml hf4 hR9
        have hF := hF.uml hf4
        exact hw_vret hx hb hr hlocks hI d_Mo_trim_36 ⟨rfl, rfl, _, ht, nOk_settleM hB ht (fun h => absurd h (by omega)) hz, hm, hF⟩
      · exact absurd c3 (by omega)
    | succ t ih =>
      intro f1 H locs ls ht hz hf hI hl
      subst hf
      refine lv_iload_n hx hb d_Mo_trim_2 rfl (lv_at hl 0 rfl) ?_
      refine hw_if_le (tgt := 29) hx hb d_Mo_trim_3 (by decide) (by omega) (fun c5 => ?_) (fun c5 => ?_)
      · exact absurd c5 (by omega)
      · have hbt := hB (128 * i + (t + 1) - 1)
        refine lv_aload_n hx hb d_Mo_trim_6 rfl (lv_at hl 2 rfl) ?_
        refine ob_get S hI hm.1 (C := R_Mo) (T := F_Mo) (N := 6) (ref := "WallFractionsModel") rfl i_Mo 1 (by decide) rfl w_772 rfl d_Mo_trim_7 ?_
        refine lv_sipush (v := nI 128) hx hb d_Mo_trim_10 (by decide) ?_
        refine lv_iload_n hx hb d_Mo_trim_13 rfl (lv_at hl 1 rfl) ?_
        refine lv_imul hx hb d_Mo_trim_14 ?_
        refine hw_ti (pk_mul _ _) ?_
        refine lv_iload_n hx hb d_Mo_trim_15 rfl (lv_at hl 0 rfl) ?_
        refine lv_iadd hx hb d_Mo_trim_16 ?_
        refine hw_ti (nI_add _ _) ?_
        refine lv_iconst (v := nI 1) hx hb d_Mo_trim_17 (by decide) ?_
        refine lv_isub hx hb d_Mo_trim_18 ?_
        refine hw_ti (pk_sub (by omega)) ?_
        refine ia_ld S hI hm.2.1 (by decide) (by omega) d_Mo_trim_19 ?_
        refine hw_if_ne (tgt := 29) hx hb d_Mo_trim_20 (by decide) (by omega) (fun c6 => ?_) (fun c6 => ?_)
        · refine lv_aload_n hx hb d_Mo_trim_29 rfl (lv_at hl 2 rfl) ?_
          refine ob_get S hI hm.1 (C := R_Mo) (T := F_Mo) (N := 6) (ref := "WallFractionsModel") rfl i_Mo 2 (by decide) rfl w_773 rfl d_Mo_trim_30 ?_
          refine lv_iload_n hx hb d_Mo_trim_33 rfl (lv_at hl 1 rfl) ?_
          refine lv_iload_n hx hb d_Mo_trim_34 rfl (lv_at hl 0 rfl) ?_
          refine ia_st S hI hm.2.2.1 (by decide) (by omega) d_Mo_trim_35 (fun f7 H locs hI hR9 hf7 => ?_)
          have hm := hm.uml hf7 hR9
          have hF := hF.uml hf7
          exact hw_vret hx hb hr hlocks hI d_Mo_trim_36 ⟨rfl, rfl, _, ht, nOk_settleM hB ht (fun _ => by rw [show 128 * i + (t + 1 - 1) = 128 * i + (t + 1) - 1 by omega]; omega) hz, hm, hF⟩
        · refine lv_iinc (v := nI t) (lv' := [(3, .int (nI t)), (1, .int (nI i)), (0, .ref (mm))]) hx hb d_Mo_trim_23 hl (k := 0) rfl (show nI (t + 1) + Int32.ofInt (-1) = nI t from mI_d (t + 1) |>.trans (mI_s t)) (by decide) rfl (fun ls hl => ?_)
          refine lv_goto (tgt := 2) hx hb d_Mo_trim_26 (by decide) ?_
          exact ih _ _ _ _ (by omega) (fun j h1 h2 => by rcases Nat.eq_or_lt_of_le h1 with e9 | e9; (rw [← e9, show 128 * i + t = 128 * i + (t + 1) - 1 by omega]; exact c6); exact hz j e9 h2) rfl hI hl
  refine lv_iload_n hx hb d_Mo_trim_0 rfl (lv_at hl 2 rfl) ?_
  refine lv_istore_n (lv' := [(3, .int (nI n0)), (0, .ref (mm)), (1, .int (nI i)), (2, .int (nI n0))]) hx hb d_Mo_trim_1 rfl hl (by decide) rfl (fun ls hl => ?_)
  exact loop n0 _ _ _ _ (Nat.le_refl _) (fun j h1 h2 => absurd h2 (by omega)) rfl hI (lv_sub hl [0, 2, 1] rfl)
set_option maxHeartbeats 4000000 in
set_option maxRecDepth 100000 in
theorem c_Mo_isZero (l : Launch) (D : va_G) (t0 : Nat) (L : List Nat) (f : Nat → va_E) (sz : Nat) (mm mc ml mg mw mr : Nat) (th : Int32) (y : Nat → Nat) (sn : Nat → Int32) (wt rr : Nat → Nat) (i : Nat) (hn : Mn D L f mm mc ml mg mw mr th y sn wt rr) (hi : i < 50) : Met l y_Mo_isZero (Cond.code y_Mo_isZero b_Mo_isZero 2 (some .boolean) :: TT) ({ frames := 0, cells := 0, slots := 0, locals := 0 } : Room) (hw_Pc t0 [.ref (mm), .int (nI i)] D L f sz) (hw_Q D L sz (fun oc L' f' => oc = .returned (some (.int (if y i = 0 then nI 1 else nI 0))) ∧ L = L' ∧ f = f')) 0 0 (hw_A L sz) := by
  refine Met.ofW (cc := b_Mo_isZero) (maxL := 2) (ret := (some .boolean)) (by decide) rfl ?_
  intro p e s m args below meth c s₁ B hml hv
  obtain ⟨rfl, rfl, hI⟩ := hw_start hv
  clear hv
  have hx := B.exec
  have hb := B.bytes
  have hr := B.returns
  have hlocks := B.notSynchronized
  have hown : s.vm.findClass "WallFractionsModel" = some m.cls := findClass_of_methodNamed B.named
  have hT : ∀ w ∈ TT, w.before ([.ref (mm), .int (nI i)]).toArray s = true := fun w h => atoms_spec (ws := (Cond.code y_Mo_isZero b_Mo_isZero 2 (some .boolean) :: TT)) B.pre w (List.mem_cons_of_mem _ h)
  have S : CallFix p m c b_Mo_isZero 2 s ([.ref (mm), .int (nI i)]).toArray TT "WallFractionsModel" := ⟨hx, hb, hml, hown, hT⟩
  have hl := lv_entry ([.ref (mm), .int (nI i)]) (n := 2) (Nat.le_of_ble_eq_true rfl)
  rw [lg_entry_eq]
  generalize (lg_sl ([.ref (mm), .int (nI i)]) ++ List.replicate (2 - (lg_sl ([.ref (mm), .int (nI i)])).length) Slot.unset).toArray = ls at hl ⊢
  have hl : lv_has ls 2 [(0, .ref (mm)), (1, .int (nI i))] := hl
  skip
  obtain ⟨cs, ns, hm, hc⟩ := hn
  have hz := (hc.2 i hi).2.zero (by decide)
  have h128 := (hc.2 i hi).1
  refine lv_aload_n hx hb d_Mo_isZero_0 rfl (lv_at hl 0 rfl) ?_
  refine ob_get S hI hm.1 (C := R_Mo) (T := F_Mo) (N := 6) (ref := "WallFractionsModel") rfl i_Mo 2 (by decide) rfl w_773 rfl d_Mo_isZero_1 ?_
  refine lv_iload_n hx hb d_Mo_isZero_4 rfl (lv_at hl 1 rfl) ?_
  refine ia_ld S hI hm.2.2.1 (by decide) (by omega) d_Mo_isZero_5 ?_
  refine hw_if_ne (tgt := 13) hx hb d_Mo_isZero_6 (by decide) (by omega) (fun c8 => ?_) (fun c8 => ?_)
  · refine lv_iconst (v := nI 0) hx hb d_Mo_isZero_13 (by decide) ?_
    exact hw_zret hx hb hr hlocks hI rfl d_Mo_isZero_14 ⟨by rw [if_neg (fun h => c8 (hz.mpr h))], rfl, rfl⟩
  · refine lv_iconst (v := nI 1) hx hb d_Mo_isZero_9 (by decide) ?_
    refine lv_goto (tgt := 14) hx hb d_Mo_isZero_10 (by decide) ?_
    exact hw_zret hx hb hr hlocks hI rfl d_Mo_isZero_14 ⟨by rw [if_pos (hz.mp c8)], rfl, rfl⟩
theorem m20 : (2 : Nat) ^ 63 < 10000 ^ 5 := by decide
set_option maxHeartbeats 4000000 in
set_option maxRecDepth 100000 in
theorem c_Mo_setLong (l : Launch) (D : va_G) (t0 : Nat) (L : List Nat) (f : Nat → va_E) (sz : Nat) (mm mc ml mg mw mr : Nat) (th : Int32) (y : Nat → Nat) (sn : Nat → Int32) (wt rr : Nat → Nat) (i v0 : Nat) (hn : Mn D L f mm mc ml mg mw mr th y sn wt rr) (hi : i < 50) (hv0 : v0 < 2 ^ 63) : Met l y_Mo_setLong (Cond.code y_Mo_setLong b_Mo_setLong 7 none :: TT) ({ frames := 0, cells := 0, slots := 0, locals := 0 } : Room) (hw_Pc t0 [.ref (mm), .int (nI i), .long (lN v0)] D L f sz) (hw_Q D L sz (fun oc L' f' => oc = .returned none ∧ L = L' ∧ Mn D L f' mm mc ml mg mw mr th (va_up y i (v0)) sn wt rr ∧ Fo mm mc ml mg mw mr f f')) 0 0 (hw_A L sz) := by
  refine Met.ofW (cc := b_Mo_setLong) (maxL := 7) (ret := none) (by decide) rfl ?_
  intro p e s m args below meth c s₁ B hml hv
  obtain ⟨rfl, rfl, hI⟩ := hw_start hv
  clear hv
  have hx := B.exec
  have hb := B.bytes
  have hr := B.returns
  have hlocks := B.notSynchronized
  have hown : s.vm.findClass "WallFractionsModel" = some m.cls := findClass_of_methodNamed B.named
  have hT : ∀ w ∈ TT, w.before ([.ref (mm), .int (nI i), .long (lN v0)]).toArray s = true := fun w h => atoms_spec (ws := (Cond.code y_Mo_setLong b_Mo_setLong 7 none :: TT)) B.pre w (List.mem_cons_of_mem _ h)
  have S : CallFix p m c b_Mo_setLong 7 s ([.ref (mm), .int (nI i), .long (lN v0)]).toArray TT "WallFractionsModel" := ⟨hx, hb, hml, hown, hT⟩
  have hl := lv_entry ([.ref (mm), .int (nI i), .long (lN v0)]) (n := 7) (Nat.le_of_ble_eq_true rfl)
  rw [lg_entry_eq]
  generalize (lg_sl ([.ref (mm), .int (nI i), .long (lN v0)]) ++ List.replicate (7 - (lg_sl ([.ref (mm), .int (nI i), .long (lN v0)])).length) Slot.unset).toArray = ls at hl ⊢
  have hl : lv_has ls 7 [(0, .ref (mm)), (1, .int (nI i)), (2, .long (lN v0))] := hl
  skip
  obtain ⟨cs, ns, hm, hc⟩ := hn
  have hF : Fo mm mc ml mg mw mr f f := Fo.refl
  have h5 := m20
  have loop : ∀ (g k lf : Nat) (c1 : Nat → Nat) (f1 : Nat → va_E) (H : Heap) (locs : List Loc) (ls : Array Slot), k + g = 5 → lf < 10000 ^ g → lf < 2 ^ 63 → (∀ q, c1 q < 10000) → (∀ q, q < 128 * i ∨ 128 * i + 128 ≤ q → c1 q = cs q) → nvb 10000 (nsh c1 (128 * i)) k + lf * 10000 ^ k = v0 → (lf = 0 → 0 < k → 0 < c1 (128 * i + (k - 1))) → Mb D L f1 mm mc ml mg mw mr th c1 ns sn wt rr → Fo mm mc ml mg mw mr f f1 → hw_I D t0 (hw_A L s.heap.size) s L f1 H locs → lv_has ls 7 [(5, .long (lN lf)), (4, .int (nI k)), (1, .int (nI i)), (0, .ref (mm))] → W p l e (headSpec (Cond.code y_Mo_setLong b_Mo_setLong 7 none :: TT) ({ frames := 0, cells := 0, slots := 0, locals := 0 } : Room)).room s m ([.ref (mm), .int (nI i), .long (lN v0)]).toArray below meth c H locs 0 0 (MQ below (hw_Q D L s.heap.size (fun oc L' f' => oc = .returned none ∧ L = L' ∧ Mn D L f' mm mc ml mg mw mr th (va_up y i (v0)) sn wt rr ∧ Fo mm mc ml mg mw mr f f')) ([.ref (mm), .int (nI i), .long (lN v0)]).toArray s 0 0 (hw_A L s.heap.size)) (F0 m 6 ls []) := by
    intro g
    induction g with
    | zero =>
      intro k lf c1 f1 H locs ls hkg hlt h63 hB ho hS htop hm hF hI hl
      refine lv_lload hx hb d_Mo_setLong_6 (lv_at hl 0 rfl) ?_
      refine lv_lconst (v := lN 0) hx hb d_Mo_setLong_8 rfl ?_
      refine hw_l_le (tgt := 47) hx hb d_Mo_setLong_9 d_Mo_setLong_10 (by decide) (fun c9 => ?_) (fun c9 => ?_)
      · have hl0 : lf = 0 := Nat.le_zero.mp ((pk_lLE h63 (by decide)).mp c9)
        refine lv_aload_n hx hb d_Mo_setLong_47 rfl (lv_at hl 3 rfl) ?_
        refine ob_get S hI hm.1 (C := R_Mo) (T := F_Mo) (N := 6) (ref := "WallFractionsModel") rfl i_Mo 2 (by decide) rfl w_773 rfl d_Mo_setLong_48 ?_
        refine lv_iload_n hx hb d_Mo_setLong_51 rfl (lv_at hl 2 rfl) ?_
        refine lv_iload hx hb d_Mo_setLong_52 (lv_at hl 1 rfl) ?_
        refine ia_st S hI hm.2.2.1 (by decide) (by omega) d_Mo_setLong_54 (fun f10 H locs hI hR9 hf10 => ?_)
        have hm := hm.uml hf10 hR9
        have hF := hF.uml hf10
        exact hw_vret hx hb hr hlocks hI d_Mo_setLong_55 ⟨rfl, rfl, ⟨_, _, hm, hc.up hi hB ho (by omega) ⟨fun q => hB _, htop hl0, by rw [hl0, Nat.zero_mul, Nat.add_zero] at hS; exact hS⟩⟩, hF⟩
      · have hlp : 0 < lf := (pk_lLT (by decide) h63).mp c9
        exact absurd hlt (by rw [Nat.pow_zero]; omega)
    | succ g ih =>
      intro k lf c1 f1 H locs ls hkg hlt h63 hB ho hS htop hm hF hI hl
      refine lv_lload hx hb d_Mo_setLong_6 (lv_at hl 0 rfl) ?_
      refine lv_lconst (v := lN 0) hx hb d_Mo_setLong_8 rfl ?_
      refine hw_l_le (tgt := 47) hx hb d_Mo_setLong_9 d_Mo_setLong_10 (by decide) (fun c11 => ?_) (fun c11 => ?_)
      · have hl0 : lf = 0 := Nat.le_zero.mp ((pk_lLE h63 (by decide)).mp c11)
        refine lv_aload_n hx hb d_Mo_setLong_47 rfl (lv_at hl 3 rfl) ?_
        refine ob_get S hI hm.1 (C := R_Mo) (T := F_Mo) (N := 6) (ref := "WallFractionsModel") rfl i_Mo 2 (by decide) rfl w_773 rfl d_Mo_setLong_48 ?_
        refine lv_iload_n hx hb d_Mo_setLong_51 rfl (lv_at hl 2 rfl) ?_
        refine lv_iload hx hb d_Mo_setLong_52 (lv_at hl 1 rfl) ?_
        refine ia_st S hI hm.2.2.1 (by decide) (by omega) d_Mo_setLong_54 (fun f12 H locs hI hR9 hf12 => ?_)
        have hm := hm.uml hf12 hR9
        have hF := hF.uml hf12
        exact hw_vret hx hb hr hlocks hI d_Mo_setLong_55 ⟨rfl, rfl, ⟨_, _, hm, hc.up hi hB ho (by omega) ⟨fun q => hB _, htop hl0, by rw [hl0, Nat.zero_mul, Nat.add_zero] at hS; exact hS⟩⟩, hF⟩
      · have hlp : 0 < lf := (pk_lLT (by decide) h63).mp c11
        have hml9 := Nat.mod_lt lf (show 0 < 10000 by decide)
        have hdm := Nat.div_add_mod lf 10000
        have hdl := Nat.div_le_self lf 10000
        refine lv_aload_n hx hb d_Mo_setLong_13 rfl (lv_at hl 3 rfl) ?_
        refine ob_get S hI hm.1 (C := R_Mo) (T := F_Mo) (N := 6) (ref := "WallFractionsModel") rfl i_Mo 1 (by decide) rfl w_772 rfl d_Mo_setLong_14 ?_
        refine lv_sipush (v := nI 128) hx hb d_Mo_setLong_17 (by decide) ?_
        refine lv_iload_n hx hb d_Mo_setLong_20 rfl (lv_at hl 2 rfl) ?_
        refine lv_imul hx hb d_Mo_setLong_21 ?_
        refine hw_ti (pk_mul _ _) ?_
        refine lv_iload hx hb d_Mo_setLong_22 (lv_at hl 1 rfl) ?_
        refine lv_iadd hx hb d_Mo_setLong_24 ?_
        refine hw_ti (nI_add _ _) ?_
        refine lv_lload hx hb d_Mo_setLong_25 (lv_at hl 0 rfl) ?_
        refine hw_ldc2 (v := lN 10000) hx hb hown (hT _ w_770) d_Mo_setLong_27 ?_
        refine lv_lrem hx hb d_Mo_setLong_30 (by intro h9; have h8 := (pk_lEQ (b := 0) (by omega) (by decide)).mp h9; omega) ?_
        refine hw_tl (pk_lRem (by omega) (by omega) (by omega)) ?_
        refine lv_l2i (v := nI (lf % 10000)) hx hb d_Mo_setLong_31 (lN_i _) ?_
        refine ia_st S hI hm.2.1 (by decide) (by omega) d_Mo_setLong_32 (fun f13 H locs hI hR9 hf13 => ?_)
        have hm := hm.umc hf13 hR9
        have hF := hF.umc hf13
        refine lv_iinc (v := nI (k + 1)) (lv' := [(4, .int (nI (k + 1))), (5, .long (lN lf)), (1, .int (nI i)), (0, .ref (mm))]) hx hb d_Mo_setLong_33 hl (k := 1) rfl (nI_1 _) (by decide) rfl (fun ls hl => ?_)
        refine lv_lload hx hb d_Mo_setLong_36 (lv_at hl 1 rfl) ?_
        refine hw_ldc2 (v := lN 10000) hx hb hown (hT _ w_770) d_Mo_setLong_38 ?_
        refine lv_ldiv hx hb d_Mo_setLong_41 (by intro h9; have h8 := (pk_lEQ (b := 0) (by omega) (by decide)).mp h9; omega) ?_
        refine hw_tl (pk_lDiv (by omega) (by omega) (by omega)) ?_
        refine lv_lstore (lv' := [(5, .long (lN (lf / 10000))), (4, .int (nI (k + 1))), (1, .int (nI i)), (0, .ref (mm))]) hx hb d_Mo_setLong_42 hl (by decide) rfl (fun ls hl => ?_)
        refine lv_goto (tgt := 6) hx hb d_Mo_setLong_44 (by decide) ?_
        exact ih (k + 1) (lf / 10000) _ _ _ _ _ (by omega) ((Nat.div_lt_iff_lt_mul (by decide)).mpr (by rw [← Nat.pow_succ]; exact hlt)) (by omega) (upB hB hml9) (fun q hq => by rw [hw_up_ne (by omega)]; exact ho q hq) (by rw [nsh_upc]; rw [nvb_digit (w := lf) (cr := 0) (S := nvb 10000 (nsh c1 (128 * i)) k) (by rw [Nat.zero_mul, Nat.add_zero]) (by omega)]; exact hS) (fun h1 _ => by rw [show k + 1 - 1 = k by omega, hw_up_eq]; have := Nat.div_add_mod lf 10000; omega) hm hF hI hl
  refine lv_iconst (v := nI 0) hx hb d_Mo_setLong_0 (by decide) ?_
  refine lv_istore (lv' := [(4, .int (nI 0)), (0, .ref (mm)), (1, .int (nI i)), (2, .long (lN v0))]) hx hb d_Mo_setLong_1 hl (by decide) rfl (fun ls hl => ?_)
  refine lv_lload_n hx hb d_Mo_setLong_3 rfl (lv_at hl 3 rfl) ?_
  refine lv_lstore (lv' := [(5, .long (lN v0)), (4, .int (nI 0)), (0, .ref (mm)), (1, .int (nI i)), (2, .long (lN v0))]) hx hb d_Mo_setLong_4 hl (by decide) rfl (fun ls hl => ?_)
  exact loop 5 0 v0 cs _ _ _ _ (by omega) (by omega) hv0 hc.1 (fun _ _ => rfl) (by rw [nvb_zero]; simp) (fun _ h => absurd h (by omega)) hm hF hI (lv_sub hl [0, 1, 3, 2] rfl)
set_option maxHeartbeats 4000000 in
set_option maxRecDepth 100000 in
theorem c_Mo_copy (l : Launch) (D : va_G) (t0 : Nat) (L : List Nat) (f : Nat → va_E) (sz : Nat) (mm mc ml mg mw mr : Nat) (th : Int32) (y : Nat → Nat) (sn : Nat → Int32) (wt rr : Nat → Nat) (i j : Nat) (hn : Mn D L f mm mc ml mg mw mr th y sn wt rr) (hi : i < 50) (hj : j < 50) : Met l y_Mo_copy (Cond.code y_Mo_copy b_Mo_copy 4 none :: TT) ({ frames := 0, cells := 0, slots := 0, locals := 0 } : Room) (hw_Pc t0 [.ref (mm), .int (nI i), .int (nI j)] D L f sz) (hw_Q D L sz (fun oc L' f' => oc = .returned none ∧ L = L' ∧ Mn D L f' mm mc ml mg mw mr th (va_up y i (y j)) sn wt rr ∧ Fo mm mc ml mg mw mr f f')) 0 0 (hw_A L sz) := by
  refine Met.ofW (cc := b_Mo_copy) (maxL := 4) (ret := none) (by decide) rfl ?_
  intro p e s m args below meth c s₁ B hml hv
  obtain ⟨rfl, rfl, hI⟩ := hw_start hv
  clear hv
  have hx := B.exec
  have hb := B.bytes
  have hr := B.returns
  have hlocks := B.notSynchronized
  have hown : s.vm.findClass "WallFractionsModel" = some m.cls := findClass_of_methodNamed B.named
  have hT : ∀ w ∈ TT, w.before ([.ref (mm), .int (nI i), .int (nI j)]).toArray s = true := fun w h => atoms_spec (ws := (Cond.code y_Mo_copy b_Mo_copy 4 none :: TT)) B.pre w (List.mem_cons_of_mem _ h)
  have S : CallFix p m c b_Mo_copy 4 s ([.ref (mm), .int (nI i), .int (nI j)]).toArray TT "WallFractionsModel" := ⟨hx, hb, hml, hown, hT⟩
  have hl := lv_entry ([.ref (mm), .int (nI i), .int (nI j)]) (n := 4) (Nat.le_of_ble_eq_true rfl)
  rw [lg_entry_eq]
  generalize (lg_sl ([.ref (mm), .int (nI i), .int (nI j)]) ++ List.replicate (4 - (lg_sl ([.ref (mm), .int (nI i), .int (nI j)])).length) Slot.unset).toArray = ls at hl ⊢
  have hl : lv_has ls 4 [(0, .ref (mm)), (1, .int (nI i)), (2, .int (nI j))] := hl
  skip
  obtain ⟨cs, ns, hm, hc⟩ := hn
  have hF : Fo mm mc ml mg mw mr f f := Fo.refl
  have h128 := (hc.2 j hj).1
  have loop : ∀ (g t : Nat) (c1 : Nat → Nat) (f1 : Nat → va_E) (H : Heap) (locs : List Loc) (ls : Array Slot), t + g = ns j → (∀ q, c1 q < 10000) → (∀ q, q < 128 * i ∨ 128 * i + t ≤ q → c1 q = cs q) → (∀ q, q < t → c1 (128 * i + q) = cs (128 * j + q)) → Mb D L f1 mm mc ml mg mw mr th c1 ns sn wt rr → Fo mm mc ml mg mw mr f f1 → hw_I D t0 (hw_A L s.heap.size) s L f1 H locs → lv_has ls 4 [(3, .int (nI t)), (2, .int (nI j)), (1, .int (nI i)), (0, .ref (mm))] → W p l e (headSpec (Cond.code y_Mo_copy b_Mo_copy 4 none :: TT) ({ frames := 0, cells := 0, slots := 0, locals := 0 } : Room)).room s m ([.ref (mm), .int (nI i), .int (nI j)]).toArray below meth c H locs 0 0 (MQ below (hw_Q D L s.heap.size (fun oc L' f' => oc = .returned none ∧ L = L' ∧ Mn D L f' mm mc ml mg mw mr th (va_up y i (y j)) sn wt rr ∧ Fo mm mc ml mg mw mr f f')) ([.ref (mm), .int (nI i), .int (nI j)]).toArray s 0 0 (hw_A L s.heap.size)) (F0 m 2 ls []) := by
    intro g
    induction g with
    | zero =>
      intro t c1 f1 H locs ls htg hB ho he hm hF hI hl
      refine lv_iload_n hx hb d_Mo_copy_2 rfl (lv_at hl 0 rfl) ?_
      refine lv_aload_n hx hb d_Mo_copy_3 rfl (lv_at hl 3 rfl) ?_
      refine ob_get S hI hm.1 (C := R_Mo) (T := F_Mo) (N := 6) (ref := "WallFractionsModel") rfl i_Mo 2 (by decide) rfl w_773 rfl d_Mo_copy_4 ?_
      refine lv_iload_n hx hb d_Mo_copy_7 rfl (lv_at hl 1 rfl) ?_
      refine ia_ld S hI hm.2.2.1 (by decide) (by omega) d_Mo_copy_8 ?_
      refine hw_icmp_ge (tgt := 42) hx hb d_Mo_copy_9 (by decide) (by omega) (by omega) (fun c14 => ?_) (fun c14 => ?_)
      · refine lv_aload_n hx hb d_Mo_copy_42 rfl (lv_at hl 3 rfl) ?_
        refine ob_get S hI hm.1 (C := R_Mo) (T := F_Mo) (N := 6) (ref := "WallFractionsModel") rfl i_Mo 2 (by decide) rfl w_773 rfl d_Mo_copy_43 ?_
        refine lv_iload_n hx hb d_Mo_copy_46 rfl (lv_at hl 2 rfl) ?_
        refine lv_aload_n hx hb d_Mo_copy_47 rfl (lv_at hl 3 rfl) ?_
        refine ob_get S hI hm.1 (C := R_Mo) (T := F_Mo) (N := 6) (ref := "WallFractionsModel") rfl i_Mo 2 (by decide) rfl w_773 rfl d_Mo_copy_48 ?_
        refine lv_iload_n hx hb d_Mo_copy_51 rfl (lv_at hl 1 rfl) ?_
        refine ia_ld S hI hm.2.2.1 (by decide) (by omega) d_Mo_copy_52 ?_
        refine ia_st S hI hm.2.2.1 (by decide) (by omega) d_Mo_copy_53 (fun f15 H locs hI hR9 hf15 => ?_)
        have hm := hm.uml hf15 hR9
        have hF := hF.uml hf15
        obtain ⟨h1, h2, h3, h4⟩ := hc.2 j hj
        have ht : t = ns j := by omega
        subst ht
        exact hw_vret hx hb hr hlocks hI d_Mo_copy_54 ⟨rfl, rfl, ⟨_, _, hm, hc.up hi hB (fun q hq => ho q (by omega)) h1 ⟨fun q => hB _, fun hp => (show 0 < c1 (128 * i + (ns j - 1)) by rw [he _ (by omega)]; exact h3 hp), by rw [← h4]; exact nvb_congr (fun q hq => he q hq)⟩⟩, hF⟩
      · exact absurd c14 (by omega)
    | succ g ih =>
      intro t c1 f1 H locs ls htg hB ho he hm hF hI hl
      refine lv_iload_n hx hb d_Mo_copy_2 rfl (lv_at hl 0 rfl) ?_
      refine lv_aload_n hx hb d_Mo_copy_3 rfl (lv_at hl 3 rfl) ?_
      refine ob_get S hI hm.1 (C := R_Mo) (T := F_Mo) (N := 6) (ref := "WallFractionsModel") rfl i_Mo 2 (by decide) rfl w_773 rfl d_Mo_copy_4 ?_
      refine lv_iload_n hx hb d_Mo_copy_7 rfl (lv_at hl 1 rfl) ?_
      refine ia_ld S hI hm.2.2.1 (by decide) (by omega) d_Mo_copy_8 ?_
      refine hw_icmp_ge (tgt := 42) hx hb d_Mo_copy_9 (by decide) (by omega) (by omega) (fun c16 => ?_) (fun c16 => ?_)
      · exact absurd c16 (by omega)
      · have hrd : c1 (128 * j + t) = cs (128 * j + t) := ho _ (by omega)
        have hbt := hc.1 (128 * j + t)
        refine lv_aload_n hx hb d_Mo_copy_12 rfl (lv_at hl 3 rfl) ?_
        refine ob_get S hI hm.1 (C := R_Mo) (T := F_Mo) (N := 6) (ref := "WallFractionsModel") rfl i_Mo 1 (by decide) rfl w_772 rfl d_Mo_copy_13 ?_
        refine lv_sipush (v := nI 128) hx hb d_Mo_copy_16 (by decide) ?_
        refine lv_iload_n hx hb d_Mo_copy_19 rfl (lv_at hl 2 rfl) ?_
        refine lv_imul hx hb d_Mo_copy_20 ?_
        refine hw_ti (pk_mul _ _) ?_
        refine lv_iload_n hx hb d_Mo_copy_21 rfl (lv_at hl 0 rfl) ?_
        refine lv_iadd hx hb d_Mo_copy_22 ?_
        refine hw_ti (nI_add _ _) ?_
        refine lv_aload_n hx hb d_Mo_copy_23 rfl (lv_at hl 3 rfl) ?_
        refine ob_get S hI hm.1 (C := R_Mo) (T := F_Mo) (N := 6) (ref := "WallFractionsModel") rfl i_Mo 1 (by decide) rfl w_772 rfl d_Mo_copy_24 ?_
        refine lv_sipush (v := nI 128) hx hb d_Mo_copy_27 (by decide) ?_
        refine lv_iload_n hx hb d_Mo_copy_30 rfl (lv_at hl 1 rfl) ?_
        refine lv_imul hx hb d_Mo_copy_31 ?_
        refine hw_ti (pk_mul _ _) ?_
        refine lv_iload_n hx hb d_Mo_copy_32 rfl (lv_at hl 0 rfl) ?_
        refine lv_iadd hx hb d_Mo_copy_33 ?_
        refine hw_ti (nI_add _ _) ?_
        refine ia_ld S hI hm.2.1 (by decide) (by omega) d_Mo_copy_34 ?_
        refine hw_ti (show _ = nI (cs (128 * j + t)) from by rw [hrd]) ?_
        refine ia_st S hI hm.2.1 (by decide) (by omega) d_Mo_copy_35 (fun f17 H locs hI hR9 hf17 => ?_)
        have hm := hm.umc hf17 hR9
        have hF := hF.umc hf17
        refine lv_iinc (v := nI (t + 1)) (lv' := [(3, .int (nI (t + 1))), (2, .int (nI j)), (1, .int (nI i)), (0, .ref (mm))]) hx hb d_Mo_copy_36 hl (k := 0) rfl (nI_1 _) (by decide) rfl (fun ls hl => ?_)
        refine lv_goto (tgt := 2) hx hb d_Mo_copy_39 (by decide) ?_
        exact ih (t + 1) _ _ _ _ _ (by omega) (upB hB hbt) (fun q hq => by rw [hw_up_ne (by omega)]; exact ho q (by omega)) (fun q hq => by by_cases e9 : q = t; (subst e9; rw [hw_up_eq]); (rw [hw_up_ne (by omega)]; exact he q (by omega))) hm hF hI hl
  refine lv_iconst (v := nI 0) hx hb d_Mo_copy_0 (by decide) ?_
  refine lv_istore_n (lv' := [(3, .int (nI 0)), (0, .ref (mm)), (1, .int (nI i)), (2, .int (nI j))]) hx hb d_Mo_copy_1 rfl hl (by decide) rfl (fun ls hl => ?_)
  exact loop (ns j) 0 cs _ _ _ _ (by omega) hc.1 (fun _ _ => rfl) (fun q h => absurd h (by omega)) hm hF hI (lv_sub hl [0, 3, 2, 1] rfl)

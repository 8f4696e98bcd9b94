theorem m_La_set : hw_mW y_La_set b_La_set 7 (some .int) [(0, 8, 11, 13), (0, 8, 15, 15)] 4 := ⟨w_198, w_0, by decide +kernel, by decide +kernel, w_197⟩
set_option maxHeartbeats 4000000 in
set_option maxRecDepth 100000 in
theorem c_La_set (l : Launch) (hlt : l.stackTraces = false) (D : va_G) (t0 : Nat) (L : List Nat) (f : Nat → va_E) (sz : Nat) (o r fr : Nat → Nat) (ad al ab am ak ah aw ar rg wf : Nat) (σ : Sg) (wt : Nat → Nat) (i0 : Int32) (p1 : Int) (p2 : Int) (hg : Gl o r fr ad al ab am ak ah aw ar rg wf) (hS : Sd D L f o r fr ad al ab am ak ah aw ar rg wf σ wt) (hok : Ok σ wt) (hp1 : -2 ^ 63 ≤ p1 ∧ p1 < 2 ^ 63) (hp2 : -2 ^ 63 ≤ p2 ∧ p2 < 2 ^ 63) : vx_Met l y_La_set (Cond.codeWith y_La_set b_La_set 7 (some .int) [(0, 8, 11, 13), (0, 8, 15, 15)] :: TT) ({ frames := 9, cells := 1, slots := 6, locals := 176 } : Room) (hw_Pc t0 [.ref (wf), .int (i0), .long (zL p1), .long (zL p2)] D L f sz) (hw_Q D L sz (fun oc L' f' => oc = .returned (some (.int (nI (opSet σ i0 p1 p2).1))) ∧ L = L' ∧ Sd D L f' o r fr ad al ab am ak ah aw ar rg wf (opSet σ i0 p1 p2).2 wt ∧ Fm o r fr ad al ab am ak ah aw ar rg wf f f')) (hw_X D L sz (fun _ _ _ => False)) 1 6 (hw_A L sz) := by
  refine vx_ofWH (cc := b_La_set) (maxL := 7) (ret := (some .int)) (hh := [(0, 8, 11, 13), (0, 8, 15, 15)]) (by decide) rfl ?_
  intro p e s m args below meth c s₁ B hml hv
  obtain ⟨rfl, rfl, hI⟩ := hw_start hv
  clear hv
  have hx := B.exec
  have hb := B.bytes
  have hr := B.returns
  have hlocks := B.notSynchronized
  have hown : s.vm.findClass "WallFractionsLaw" = some m.cls := findClass_of_methodNamed B.named
  have hT : ∀ w ∈ TT, w.before ([.ref (wf), .int (i0), .long (zL p1), .long (zL p2)]).toArray s = true := fun w h => atoms_spec (ws := (Cond.codeWith y_La_set b_La_set 7 (some .int) [(0, 8, 11, 13), (0, 8, 15, 15)] :: TT)) B.pre w (List.mem_cons_of_mem _ h)
  have S : CallFix p m c b_La_set 7 s ([.ref (wf), .int (i0), .long (zL p1), .long (zL p2)]).toArray TT "WallFractionsLaw" := ⟨hx, hb, hml, hown, hT⟩
  have htab : c.exceptionTable.toList = tableOf [(0, 8, 11, 13), (0, 8, 15, 15)] := vx_table (x := y_La_set) B (atoms_spec (ws := (Cond.codeWith y_La_set b_La_set 7 (some .int) [(0, 8, 11, 13), (0, 8, 15, 15)] :: TT)) B.pre _ List.mem_cons_self)
  have hl := lv_entry ([.ref (wf), .int (i0), .long (zL p1), .long (zL p2)]) (n := 7) (Nat.le_of_ble_eq_true rfl)
  rw [lg_entry_eq]
  generalize (lg_sl ([.ref (wf), .int (i0), .long (zL p1), .long (zL p2)]) ++ List.replicate (7 - (lg_sl ([.ref (wf), .int (i0), .long (zL p1), .long (zL p2)])).length) Slot.unset).toArray = ls at hl ⊢
  have hl : lv_has ls 7 [(0, .ref (wf)), (1, .int (i0)), (2, .long (zL p1)), (4, .long (zL p2))] := hl
  refine lv_aload_n hx hb d_La_set_0 rfl (lv_at hl 0 rfl) ?_
  refine lv_iload_n hx hb d_La_set_1 rfl (lv_at hl 1 rfl) ?_
  refine lv_lload_n hx hb d_La_set_2 rfl (lv_at hl 2 rfl) ?_
  refine lv_lload hx hb d_La_set_3 (lv_at hl 3 rfl) ?_
  refine hw_xV (As := [.int (i0), .long (zL p1), .long (zL p2)]) (rest := []) S hI m_Wf_set w_201 (c_Wf_set l hlt D t0 L _ _ o r fr ad al ab am ak ah aw ar rg wf σ wt i0 p1 p2 hg hS hok hp1 hp2) hS.wfc rfl hl.1 rfl rfl (Nat.le_of_ble_eq_true rfl) d_La_set_5 ⟨Nat.le_of_ble_eq_true rfl, Nat.le_of_ble_eq_true rfl⟩ ⟨Nat.le_of_ble_eq_true rfl, Nat.le_of_ble_eq_true rfl⟩ (fun v9 L9 f101 H locs hp hI => ?_) (fun E9 ce9 q9 L9 f101 H locs hp hI hc9 hv9 hl9 => ?_)
  · obtain ⟨hv9, rfl, h0, hS, hF⟩ := hp
    cases hv9
    refine hw_stk (st' := []) rfl ?_
    refine lv_goto (tgt := 19) hx hb d_La_set_8 (by decide) ?_
    refine lv_iconst (v := nI 0) hx hb d_La_set_19 (by decide) ?_
    exact W.widen (k := 1) (n := 6) (Nat.le_of_ble_eq_true rfl) (Nat.le_of_ble_eq_true rfl) (vx_ret (hw_iret hx hb hr hlocks hI d_La_set_20 ⟨by rw [h0], rfl, hS, hF⟩))
  · obtain ⟨hE, rfl, hS, hF⟩ := hp
    rcases hE with ⟨rfl, hk⟩ | ⟨rfl, hk⟩
    · refine hw_catch S hI htab [] (0, 8, 11, 13) [(0, 8, 15, 15)] rfl (fun z hz => absurd hz List.not_mem_nil) (by decide) (by decide) w_199 (by decide +kernel) hc9 hv9 hl9 ?_
      refine lv_astore (lv' := [(6, .ref (q9)), (0, .ref (wf)), (1, .int (i0)), (2, .long (zL p1)), (4, .long (zL p2))]) hx hb d_La_set_11 hl (by decide) rfl (fun ls hl => ?_)
      refine lv_iconst (v := nI 1) hx hb d_La_set_13 (by decide) ?_
      exact W.widen (k := 1) (n := 6) (Nat.le_of_ble_eq_true rfl) (Nat.le_of_ble_eq_true rfl) (vx_ret (hw_iret hx hb hr hlocks hI d_La_set_14 ⟨by rw [hk], rfl, by rw [opSet_ne (by rw [hk]; decide)]; exact hS, hF⟩))
    · refine hw_catch S hI htab [(0, 8, 11, 13)] (0, 8, 15, 15) [] rfl (fun z hz => by obtain rfl := List.mem_singleton.mp hz; exact ⟨by decide, "java/lang/IllegalArgumentException", w_199, by decide +kernel⟩) (by decide) (by decide) w_200 (by decide +kernel) hc9 hv9 hl9 ?_
      refine lv_astore (lv' := [(6, .ref (q9)), (0, .ref (wf)), (1, .int (i0)), (2, .long (zL p1)), (4, .long (zL p2))]) hx hb d_La_set_15 hl (by decide) rfl (fun ls hl => ?_)
      refine lv_iconst (v := nI 2) hx hb d_La_set_17 (by decide) ?_
      exact W.widen (k := 1) (n := 6) (Nat.le_of_ble_eq_true rfl) (Nat.le_of_ble_eq_true rfl) (vx_ret (hw_iret hx hb hr hlocks hI d_La_set_18 ⟨by rw [hk], rfl, by rw [opSet_ne (by rw [hk]; decide)]; exact hS, hF⟩))
theorem m_La_more : hw_mW y_La_more b_La_more 4 (some .int) [(0, 6, 9, 13), (0, 6, 12, 21)] 3 := ⟨w_358, w_0, by decide +kernel, by decide +kernel, w_357⟩
set_option maxHeartbeats 4000000 in
set_option maxRecDepth 100000 in
theorem c_La_more (l : Launch) (hlt : l.stackTraces = false) (D : va_G) (t0 : Nat) (L : List Nat) (f : Nat → va_E) (sz : Nat) (o r fr : Nat → Nat) (ad al ab am ak ah aw ar rg wf : Nat) (σ : Sg) (wt : Nat → Nat) (i0 : Int32) (i1 : Int32) (hg : Gl o r fr ad al ab am ak ah aw ar rg wf) (hS : Sd D L f o r fr ad al ab am ak ah aw ar rg wf σ wt) (hok : Ok σ wt) : vx_Met l y_La_more (Cond.codeWith y_La_more b_La_more 4 (some .int) [(0, 6, 9, 13), (0, 6, 12, 21)] :: TT) ({ frames := 10, cells := 1, slots := 6, locals := 203 } : Room) (hw_Pc t0 [.ref (wf), .int (i0), .int (i1)] D L f sz) (hw_Q D L sz (fun oc L' f' => oc = .returned (some (.int (nI (opMore σ i0 i1).1))) ∧ L = L' ∧ Sd D L f' o r fr ad al ab am ak ah aw ar rg wf (opMore σ i0 i1).2 wt ∧ Fm o r fr ad al ab am ak ah aw ar rg wf f f')) (hw_X D L sz (fun _ _ _ => False)) 1 6 (hw_A L sz) := by
  refine vx_ofWH (cc := b_La_more) (maxL := 4) (ret := (some .int)) (hh := [(0, 6, 9, 13), (0, 6, 12, 21)]) (by decide) rfl ?_
  intro p e s m args below meth c s₁ B hml hv
  obtain ⟨rfl, rfl, hI⟩ := hw_start hv
  clear hv
  have hx := B.exec
  have hb := B.bytes
  have hr := B.returns
  have hlocks := B.notSynchronized
  have hown : s.vm.findClass "WallFractionsLaw" = some m.cls := findClass_of_methodNamed B.named
  have hT : ∀ w ∈ TT, w.before ([.ref (wf), .int (i0), .int (i1)]).toArray s = true := fun w h => atoms_spec (ws := (Cond.codeWith y_La_more b_La_more 4 (some .int) [(0, 6, 9, 13), (0, 6, 12, 21)] :: TT)) B.pre w (List.mem_cons_of_mem _ h)
  have S : CallFix p m c b_La_more 4 s ([.ref (wf), .int (i0), .int (i1)]).toArray TT "WallFractionsLaw" := ⟨hx, hb, hml, hown, hT⟩
  have htab : c.exceptionTable.toList = tableOf [(0, 6, 9, 13), (0, 6, 12, 21)] := vx_table (x := y_La_more) B (atoms_spec (ws := (Cond.codeWith y_La_more b_La_more 4 (some .int) [(0, 6, 9, 13), (0, 6, 12, 21)] :: TT)) B.pre _ List.mem_cons_self)
  have hl := lv_entry ([.ref (wf), .int (i0), .int (i1)]) (n := 4) (Nat.le_of_ble_eq_true rfl)
  rw [lg_entry_eq]
  generalize (lg_sl ([.ref (wf), .int (i0), .int (i1)]) ++ List.replicate (4 - (lg_sl ([.ref (wf), .int (i0), .int (i1)])).length) Slot.unset).toArray = ls at hl ⊢
  have hl : lv_has ls 4 [(0, .ref (wf)), (1, .int (i0)), (2, .int (i1))] := hl
  refine lv_aload_n hx hb d_La_more_0 rfl (lv_at hl 0 rfl) ?_
  refine lv_iload_n hx hb d_La_more_1 rfl (lv_at hl 1 rfl) ?_
  refine lv_iload_n hx hb d_La_more_2 rfl (lv_at hl 2 rfl) ?_
  refine hw_xV (As := [.int (i0), .int (i1)]) (rest := []) S hI m_Wf_more w_360 (c_Wf_more l hlt D t0 L _ _ o r fr ad al ab am ak ah aw ar rg wf σ wt i0 i1 hg hS hok) hS.wfc rfl hl.1 rfl rfl (Nat.le_of_ble_eq_true rfl) d_La_more_3 ⟨Nat.le_of_ble_eq_true rfl, Nat.le_of_ble_eq_true rfl⟩ ⟨Nat.le_of_ble_eq_true rfl, Nat.le_of_ble_eq_true rfl⟩ (fun v9 L9 f102 H locs hp hI => ?_) (fun E9 ce9 q9 L9 f102 H locs hp hI hc9 hv9 hl9 => ?_)
  · obtain ⟨hv9, rfl, h0, hS, hF⟩ := hp
    cases hv9
    refine hw_stk (st' := []) rfl ?_
    refine lv_goto (tgt := 15) hx hb d_La_more_6 (by decide) ?_
    refine lv_iconst (v := nI 0) hx hb d_La_more_15 (by decide) ?_
    exact W.widen (k := 1) (n := 6) (Nat.le_of_ble_eq_true rfl) (Nat.le_of_ble_eq_true rfl) (vx_ret (hw_iret hx hb hr hlocks hI d_La_more_16 ⟨by rw [h0], rfl, hS, hF⟩))
  · obtain ⟨hE, rfl, hS, hF⟩ := hp
    rcases hE with ⟨rfl, hk⟩ | ⟨rfl, hk⟩
    · refine hw_catch S hI htab [] (0, 6, 9, 13) [(0, 6, 12, 21)] rfl (fun z hz => absurd hz List.not_mem_nil) (by decide) (by decide) w_199 (by decide +kernel) hc9 hv9 hl9 ?_
      refine lv_astore_n (lv' := [(3, .ref (q9)), (0, .ref (wf)), (1, .int (i0)), (2, .int (i1))]) hx hb d_La_more_9 rfl hl (by decide) rfl (fun ls hl => ?_)
      refine lv_iconst (v := nI 1) hx hb d_La_more_10 (by decide) ?_
      exact W.widen (k := 1) (n := 6) (Nat.le_of_ble_eq_true rfl) (Nat.le_of_ble_eq_true rfl) (vx_ret (hw_iret hx hb hr hlocks hI d_La_more_11 ⟨by rw [hk], rfl, by rw [opMore_ne (by rw [hk]; decide)]; exact hS, hF⟩))
    · refine hw_catch S hI htab [(0, 6, 9, 13)] (0, 6, 12, 21) [] rfl (fun z hz => by obtain rfl := List.mem_singleton.mp hz; exact ⟨by decide, "java/lang/IllegalArgumentException", w_199, by decide +kernel⟩) (by decide) (by decide) w_359 (by decide +kernel) hc9 hv9 hl9 ?_
      refine lv_astore_n (lv' := [(3, .ref (q9)), (0, .ref (wf)), (1, .int (i0)), (2, .int (i1))]) hx hb d_La_more_12 rfl hl (by decide) rfl (fun ls hl => ?_)
      refine lv_iconst (v := nI 2) hx hb d_La_more_13 (by decide) ?_
      exact W.widen (k := 1) (n := 6) (Nat.le_of_ble_eq_true rfl) (Nat.le_of_ble_eq_true rfl) (vx_ret (hw_iret hx hb hr hlocks hI d_La_more_14 ⟨by rw [hk], rfl, by rw [opMore_ne (by rw [hk]; decide)]; exact hS, hF⟩))
theorem m_La_add : hw_mW y_La_add b_La_add 5 (some .int) [(0, 7, 10, 13), (0, 7, 14, 21)] 4 := ⟨w_395, w_0, by decide +kernel, by decide +kernel, w_394⟩
set_option maxHeartbeats 4000000 in
set_option maxRecDepth 100000 in
theorem c_La_add (l : Launch) (hlt : l.stackTraces = false) (D : va_G) (t0 : Nat) (L : List Nat) (f : Nat → va_E) (sz : Nat) (o r fr : Nat → Nat) (ad al ab am ak ah aw ar rg wf : Nat) (σ : Sg) (wt : Nat → Nat) (i0 : Int32) (i1 : Int32) (i2 : Int32) (hg : Gl o r fr ad al ab am ak ah aw ar rg wf) (hS : Sd D L f o r fr ad al ab am ak ah aw ar rg wf σ wt) (hok : Ok σ wt) : vx_Met l y_La_add (Cond.codeWith y_La_add b_La_add 5 (some .int) [(0, 7, 10, 13), (0, 7, 14, 21)] :: TT) ({ frames := 12, cells := 1, slots := 6, locals := 260 } : Room) (hw_Pc t0 [.ref (wf), .int (i0), .int (i1), .int (i2)] D L f sz) (hw_Q D L sz (fun oc L' f' => oc = .returned (some (.int (nI (opAdd σ i0 i1 i2).1))) ∧ L = L' ∧ Sd D L f' o r fr ad al ab am ak ah aw ar rg wf (opAdd σ i0 i1 i2).2 wt ∧ Fm o r fr ad al ab am ak ah aw ar rg wf f f')) (hw_X D L sz (fun _ _ _ => False)) 1 6 (hw_A L sz) := by
  refine vx_ofWH (cc := b_La_add) (maxL := 5) (ret := (some .int)) (hh := [(0, 7, 10, 13), (0, 7, 14, 21)]) (by decide) rfl ?_
  intro p e s m args below meth c s₁ B hml hv
  obtain ⟨rfl, rfl, hI⟩ := hw_start hv
  clear hv
  have hx := B.exec
  have hb := B.bytes
  have hr := B.returns
  have hlocks := B.notSynchronized
  have hown : s.vm.findClass "WallFractionsLaw" = some m.cls := findClass_of_methodNamed B.named
  have hT : ∀ w ∈ TT, w.before ([.ref (wf), .int (i0), .int (i1), .int (i2)]).toArray s = true := fun w h => atoms_spec (ws := (Cond.codeWith y_La_add b_La_add 5 (some .int) [(0, 7, 10, 13), (0, 7, 14, 21)] :: TT)) B.pre w (List.mem_cons_of_mem _ h)
  have S : CallFix p m c b_La_add 5 s ([.ref (wf), .int (i0), .int (i1), .int (i2)]).toArray TT "WallFractionsLaw" := ⟨hx, hb, hml, hown, hT⟩
  have htab : c.exceptionTable.toList = tableOf [(0, 7, 10, 13), (0, 7, 14, 21)] := vx_table (x := y_La_add) B (atoms_spec (ws := (Cond.codeWith y_La_add b_La_add 5 (some .int) [(0, 7, 10, 13), (0, 7, 14, 21)] :: TT)) B.pre _ List.mem_cons_self)
  have hl := lv_entry ([.ref (wf), .int (i0), .int (i1), .int (i2)]) (n := 5) (Nat.le_of_ble_eq_true rfl)
  rw [lg_entry_eq]
  generalize (lg_sl ([.ref (wf), .int (i0), .int (i1), .int (i2)]) ++ List.replicate (5 - (lg_sl ([.ref (wf), .int (i0), .int (i1), .int (i2)])).length) Slot.unset).toArray = ls at hl ⊢
  have hl : lv_has ls 5 [(0, .ref (wf)), (1, .int (i0)), (2, .int (i1)), (3, .int (i2))] := hl
  refine lv_aload_n hx hb d_La_add_0 rfl (lv_at hl 0 rfl) ?_
  refine lv_iload_n hx hb d_La_add_1 rfl (lv_at hl 1 rfl) ?_
  refine lv_iload_n hx hb d_La_add_2 rfl (lv_at hl 2 rfl) ?_
  refine lv_iload_n hx hb d_La_add_3 rfl (lv_at hl 3 rfl) ?_
  refine hw_xV (As := [.int (i0), .int (i1), .int (i2)]) (rest := []) S hI m_Wf_add w_396 (c_Wf_add l hlt D t0 L _ _ o r fr ad al ab am ak ah aw ar rg wf σ wt i0 i1 i2 hg hS hok) hS.wfc rfl hl.1 rfl rfl (Nat.le_of_ble_eq_true rfl) d_La_add_4 ⟨Nat.le_of_ble_eq_true rfl, Nat.le_of_ble_eq_true rfl⟩ ⟨Nat.le_of_ble_eq_true rfl, Nat.le_of_ble_eq_true rfl⟩ (fun v9 L9 f103 H locs hp hI => ?_) (fun E9 ce9 q9 L9 f103 H locs hp hI hc9 hv9 hl9 => ?_)
  · obtain ⟨hv9, rfl, h0, hS, hF⟩ := hp
    cases hv9
    refine hw_stk (st' := []) rfl ?_
    refine lv_goto (tgt := 18) hx hb d_La_add_7 (by decide) ?_
    refine lv_iconst (v := nI 0) hx hb d_La_add_18 (by decide) ?_
    exact W.widen (k := 1) (n := 6) (Nat.le_of_ble_eq_true rfl) (Nat.le_of_ble_eq_true rfl) (vx_ret (hw_iret hx hb hr hlocks hI d_La_add_19 ⟨by rw [h0], rfl, hS, hF⟩))
  · obtain ⟨hE, rfl, hS, hF⟩ := hp
    rcases hE with ⟨rfl, hk⟩ | ⟨rfl, hk⟩
    · refine hw_catch S hI htab [] (0, 7, 10, 13) [(0, 7, 14, 21)] rfl (fun z hz => absurd hz List.not_mem_nil) (by decide) (by decide) w_199 (by decide +kernel) hc9 hv9 hl9 ?_
      refine lv_astore (lv' := [(4, .ref (q9)), (0, .ref (wf)), (1, .int (i0)), (2, .int (i1)), (3, .int (i2))]) hx hb d_La_add_10 hl (by decide) rfl (fun ls hl => ?_)
      refine lv_iconst (v := nI 1) hx hb d_La_add_12 (by decide) ?_
      exact W.widen (k := 1) (n := 6) (Nat.le_of_ble_eq_true rfl) (Nat.le_of_ble_eq_true rfl) (vx_ret (hw_iret hx hb hr hlocks hI d_La_add_13 ⟨by rw [hk], rfl, by rw [opAdd_ne (by rw [hk]; decide)]; exact hS, hF⟩))
    · refine hw_catch S hI htab [(0, 7, 10, 13)] (0, 7, 14, 21) [] rfl (fun z hz => by obtain rfl := List.mem_singleton.mp hz; exact ⟨by decide, "java/lang/IllegalArgumentException", w_199, by decide +kernel⟩) (by decide) (by decide) w_359 (by decide +kernel) hc9 hv9 hl9 ?_
      refine lv_astore (lv' := [(4, .ref (q9)), (0, .ref (wf)), (1, .int (i0)), (2, .int (i1)), (3, .int (i2))]) hx hb d_La_add_14 hl (by decide) rfl (fun ls hl => ?_)
      refine lv_iconst (v := nI 2) hx hb d_La_add_16 (by decide) ?_
      exact W.widen (k := 1) (n := 6) (Nat.le_of_ble_eq_true rfl) (Nat.le_of_ble_eq_true rfl) (vx_ret (hw_iret hx hb hr hlocks hI d_La_add_17 ⟨by rw [hk], rfl, by rw [opAdd_ne (by rw [hk]; decide)]; exact hS, hF⟩))
theorem m_La_subtract : hw_mW y_La_subtract b_La_subtract 5 (some .int) [(0, 7, 10, 13), (0, 7, 14, 21)] 4 := ⟨w_524, w_0, by decide +kernel, by decide +kernel, w_523⟩
set_option maxHeartbeats 4000000 in
set_option maxRecDepth 100000 in
theorem c_La_subtract (l : Launch) (hlt : l.stackTraces = false) (D : va_G) (t0 : Nat) (L : List Nat) (f : Nat → va_E) (sz : Nat) (o r fr : Nat → Nat) (ad al ab am ak ah aw ar rg wf : Nat) (σ : Sg) (wt : Nat → Nat) (i0 : Int32) (i1 : Int32) (i2 : Int32) (hg : Gl o r fr ad al ab am ak ah aw ar rg wf) (hS : Sd D L f o r fr ad al ab am ak ah aw ar rg wf σ wt) (hok : Ok σ wt) : vx_Met l y_La_subtract (Cond.codeWith y_La_subtract b_La_subtract 5 (some .int) [(0, 7, 10, 13), (0, 7, 14, 21)] :: TT) ({ frames := 12, cells := 1, slots := 6, locals := 260 } : Room) (hw_Pc t0 [.ref (wf), .int (i0), .int (i1), .int (i2)] D L f sz) (hw_Q D L sz (fun oc L' f' => oc = .returned (some (.int (nI (opSub σ i0 i1 i2).1))) ∧ L = L' ∧ Sd D L f' o r fr ad al ab am ak ah aw ar rg wf (opSub σ i0 i1 i2).2 wt ∧ Fm o r fr ad al ab am ak ah aw ar rg wf f f')) (hw_X D L sz (fun _ _ _ => False)) 1 6 (hw_A L sz) := by
  refine vx_ofWH (cc := b_La_subtract) (maxL := 5) (ret := (some .int)) (hh := [(0, 7, 10, 13), (0, 7, 14, 21)]) (by decide) rfl ?_
  intro p e s m args below meth c s₁ B hml hv
  obtain ⟨rfl, rfl, hI⟩ := hw_start hv
  clear hv
  have hx := B.exec
  have hb := B.bytes
  have hr := B.returns
  have hlocks := B.notSynchronized
  have hown : s.vm.findClass "WallFractionsLaw" = some m.cls := findClass_of_methodNamed B.named
  have hT : ∀ w ∈ TT, w.before ([.ref (wf), .int (i0), .int (i1), .int (i2)]).toArray s = true := fun w h => atoms_spec (ws := (Cond.codeWith y_La_subtract b_La_subtract 5 (some .int) [(0, 7, 10, 13), (0, 7, 14, 21)] :: TT)) B.pre w (List.mem_cons_of_mem _ h)
  have S : CallFix p m c b_La_subtract 5 s ([.ref (wf), .int (i0), .int (i1), .int (i2)]).toArray TT "WallFractionsLaw" := ⟨hx, hb, hml, hown, hT⟩
  have htab : c.exceptionTable.toList = tableOf [(0, 7, 10, 13), (0, 7, 14, 21)] := vx_table (x := y_La_subtract) B (atoms_spec (ws := (Cond.codeWith y_La_subtract b_La_subtract 5 (some .int) [(0, 7, 10, 13), (0, 7, 14, 21)] :: TT)) B.pre _ List.mem_cons_self)
  have hl := lv_entry ([.ref (wf), .int (i0), .int (i1), .int (i2)]) (n := 5) (Nat.le_of_ble_eq_true rfl)
  rw [lg_entry_eq]
  generalize (lg_sl ([.ref (wf), .int (i0), .int (i1), .int (i2)]) ++ List.replicate (5 - (lg_sl ([.ref (wf), .int (i0), .int (i1), .int (i2)])).length) Slot.unset).toArray = ls at hl ⊢
  have hl : lv_has ls 5 [(0, .ref (wf)), (1, .int (i0)), (2, .int (i1)), (3, .int (i2))] := hl
  refine lv_aload_n hx hb d_La_subtract_0 rfl (lv_at hl 0 rfl) ?_
  refine lv_iload_n hx hb d_La_subtract_1 rfl (lv_at hl 1 rfl) ?_
  refine lv_iload_n hx hb d_La_subtract_2 rfl (lv_at hl 2 rfl) ?_
  refine lv_iload_n hx hb d_La_subtract_3 rfl (lv_at hl 3 rfl) ?_
  refine hw_xV (As := [.int (i0), .int (i1), .int (i2)]) (rest := []) S hI m_Wf_subtract w_525 (c_Wf_subtract l hlt D t0 L _ _ o r fr ad al ab am ak ah aw ar rg wf σ wt i0 i1 i2 hg hS hok) hS.wfc rfl hl.1 rfl rfl (Nat.le_of_ble_eq_true rfl) d_La_subtract_4 ⟨Nat.le_of_ble_eq_true rfl, Nat.le_of_ble_eq_true rfl⟩ ⟨Nat.le_of_ble_eq_true rfl, Nat.le_of_ble_eq_true rfl⟩ (fun v9 L9 f104 H locs hp hI => ?_) (fun E9 ce9 q9 L9 f104 H locs hp hI hc9 hv9 hl9 => ?_)
  · obtain ⟨hv9, rfl, h0, hS, hF⟩ := hp
    cases hv9
    refine hw_stk (st' := []) rfl ?_
    refine lv_goto (tgt := 18) hx hb d_La_subtract_7 (by decide) ?_
    refine lv_iconst (v := nI 0) hx hb d_La_subtract_18 (by decide) ?_
    exact W.widen (k := 1) (n := 6) (Nat.le_of_ble_eq_true rfl) (Nat.le_of_ble_eq_true rfl) (vx_ret (hw_iret hx hb hr hlocks hI d_La_subtract_19 ⟨by rw [h0], rfl, hS, hF⟩))
  · obtain ⟨hE, rfl, hS, hF⟩ := hp
    rcases hE with ⟨rfl, hk⟩ | ⟨rfl, hk⟩
    · refine hw_catch S hI htab [] (0, 7, 10, 13) [(0, 7, 14, 21)] rfl (fun z hz => absurd hz List.not_mem_nil) (by decide) (by decide) w_199 (by decide +kernel) hc9 hv9 hl9 ?_
      refine lv_astore (lv' := [(4, .ref (q9)), (0, .ref (wf)), (1, .int (i0)), (2, .int (i1)), (3, .int (i2))]) hx hb d_La_subtract_10 hl (by decide) rfl (fun ls hl => ?_)
      refine lv_iconst (v := nI 1) hx hb d_La_subtract_12 (by decide) ?_
      exact W.widen (k := 1) (n := 6) (Nat.le_of_ble_eq_true rfl) (Nat.le_of_ble_eq_true rfl) (vx_ret (hw_iret hx hb hr hlocks hI d_La_subtract_13 ⟨by rw [hk], rfl, by rw [opSub_ne (by rw [hk]; decide)]; exact hS, hF⟩))
    · refine hw_catch S hI htab [(0, 7, 10, 13)] (0, 7, 14, 21) [] rfl (fun z hz => by obtain rfl := List.mem_singleton.mp hz; exact ⟨by decide, "java/lang/IllegalArgumentException", w_199, by decide +kernel⟩) (by decide) (by decide) w_359 (by decide +kernel) hc9 hv9 hl9 ?_
      refine lv_astore (lv' := [(4, .ref (q9)), (0, .ref (wf)), (1, .int (i0)), (2, .int (i1)), (3, .int (i2))]) hx hb d_La_subtract_14 hl (by decide) rfl (fun ls hl => ?_)
      refine lv_iconst (v := nI 2) hx hb d_La_subtract_16 (by decide) ?_
      exact W.widen (k := 1) (n := 6) (Nat.le_of_ble_eq_true rfl) (Nat.le_of_ble_eq_true rfl) (vx_ret (hw_iret hx hb hr hlocks hI d_La_subtract_17 ⟨by rw [hk], rfl, by rw [opSub_ne (by rw [hk]; decide)]; exact hS, hF⟩))
theorem m_La_multiply : hw_mW y_La_multiply b_La_multiply 5 (some .int) [(0, 7, 10, 13), (0, 7, 14, 21)] 4 := ⟨w_531, w_0, by decide +kernel, by decide +kernel, w_530⟩
set_option maxHeartbeats 4000000 in
set_option maxRecDepth 100000 in
theorem c_La_multiply (l : Launch) (hlt : l.stackTraces = false) (D : va_G) (t0 : Nat) (L : List Nat) (f : Nat → va_E) (sz : Nat) (o r fr : Nat → Nat) (ad al ab am ak ah aw ar rg wf : Nat) (σ : Sg) (wt : Nat → Nat) (i0 : Int32) (i1 : Int32) (i2 : Int32) (hg : Gl o r fr ad al ab am ak ah aw ar rg wf) (hS : Sd D L f o r fr ad al ab am ak ah aw ar rg wf σ wt) (hok : Ok σ wt) : vx_Met l y_La_multiply (Cond.codeWith y_La_multiply b_La_multiply 5 (some .int) [(0, 7, 10, 13), (0, 7, 14, 21)] :: TT) ({ frames := 12, cells := 1, slots := 6, locals := 260 } : Room) (hw_Pc t0 [.ref (wf), .int (i0), .int (i1), .int (i2)] D L f sz) (hw_Q D L sz (fun oc L' f' => oc = .returned (some (.int (nI (opMul σ i0 i1 i2).1))) ∧ L = L' ∧ Sd D L f' o r fr ad al ab am ak ah aw ar rg wf (opMul σ i0 i1 i2).2 wt ∧ Fm o r fr ad al ab am ak ah aw ar rg wf f f')) (hw_X D L sz (fun _ _ _ => False)) 1 6 (hw_A L sz) := by
  refine vx_ofWH (cc := b_La_multiply) (maxL := 5) (ret := (some .int)) (hh := [(0, 7, 10, 13), (0, 7, 14, 21)]) (by decide) rfl ?_
  intro p e s m args below meth c s₁ B hml hv
  obtain ⟨rfl, rfl, hI⟩ := hw_start hv
  clear hv
  have hx := B.exec
  have hb := B.bytes
  have hr := B.returns
  have hlocks := B.notSynchronized
  have hown : s.vm.findClass "WallFractionsLaw" = some m.cls := findClass_of_methodNamed B.named
  have hT : ∀ w ∈ TT, w.before ([.ref (wf), .int (i0), .int (i1), .int (i2)]).toArray s = true := fun w h => atoms_spec (ws := (Cond.codeWith y_La_multiply b_La_multiply 5 (some .int) [(0, 7, 10, 13), (0, 7, 14, 21)] :: TT)) B.pre w (List.mem_cons_of_mem _ h)
  have S : CallFix p m c b_La_multiply 5 s ([.ref (wf), .int (i0), .int (i1), .int (i2)]).toArray TT "WallFractionsLaw" := ⟨hx, hb, hml, hown, hT⟩
  have htab : c.exceptionTable.toList = tableOf [(0, 7, 10, 13), (0, 7, 14, 21)] := vx_table (x := y_La_multiply) B (atoms_spec (ws := (Cond.codeWith y_La_multiply b_La_multiply 5 (some .int) [(0, 7, 10, 13), (0, 7, 14, 21)] :: TT)) B.pre _ List.mem_cons_self)
  have hl := lv_entry ([.ref (wf), .int (i0), .int (i1), .int (i2)]) (n := 5) (Nat.le_of_ble_eq_true rfl)
  rw [lg_entry_eq]
  generalize (lg_sl ([.ref (wf), .int (i0), .int (i1), .int (i2)]) ++ List.replicate (5 - (lg_sl ([.ref (wf), .int (i0), .int (i1), .int (i2)])).length) Slot.unset).toArray = ls at hl ⊢
  have hl : lv_has ls 5 [(0, .ref (wf)), (1, .int (i0)), (2, .int (i1)), (3, .int (i2))] := hl
  refine lv_aload_n hx hb d_La_multiply_0 rfl (lv_at hl 0 rfl) ?_
  refine lv_iload_n hx hb d_La_multiply_1 rfl (lv_at hl 1 rfl) ?_
  refine lv_iload_n hx hb d_La_multiply_2 rfl (lv_at hl 2 rfl) ?_
  refine lv_iload_n hx hb d_La_multiply_3 rfl (lv_at hl 3 rfl) ?_
  refine hw_xV (As := [.int (i0), .int (i1), .int (i2)]) (rest := []) S hI m_Wf_multiply w_532 (c_Wf_multiply l hlt D t0 L _ _ o r fr ad al ab am ak ah aw ar rg wf σ wt i0 i1 i2 hg hS hok) hS.wfc rfl hl.1 rfl rfl (Nat.le_of_ble_eq_true rfl) d_La_multiply_4 ⟨Nat.le_of_ble_eq_true rfl, Nat.le_of_ble_eq_true rfl⟩ ⟨Nat.le_of_ble_eq_true rfl, Nat.le_of_ble_eq_true rfl⟩ (fun v9 L9 f105 H locs hp hI => ?_) (fun E9 ce9 q9 L9 f105 H locs hp hI hc9 hv9 hl9 => ?_)
  · obtain ⟨hv9, rfl, h0, hS, hF⟩ := hp
    cases hv9
    refine hw_stk (st' := []) rfl ?_
    refine lv_goto (tgt := 18) hx hb d_La_multiply_7 (by decide) ?_
    refine lv_iconst (v := nI 0) hx hb d_La_multiply_18 (by decide) ?_
    exact W.widen (k := 1) (n := 6) (Nat.le_of_ble_eq_true rfl) (Nat.le_of_ble_eq_true rfl) (vx_ret (hw_iret hx hb hr hlocks hI d_La_multiply_19 ⟨by rw [h0], rfl, hS, hF⟩))
  · obtain ⟨hE, rfl, hS, hF⟩ := hp
    rcases hE with ⟨rfl, hk⟩ | ⟨rfl, hk⟩
    · refine hw_catch S hI htab [] (0, 7, 10, 13) [(0, 7, 14, 21)] rfl (fun z hz => absurd hz List.not_mem_nil) (by decide) (by decide) w_199 (by decide +kernel) hc9 hv9 hl9 ?_
      refine lv_astore (lv' := [(4, .ref (q9)), (0, .ref (wf)), (1, .int (i0)), (2, .int (i1)), (3, .int (i2))]) hx hb d_La_multiply_10 hl (by decide) rfl (fun ls hl => ?_)
      refine lv_iconst (v := nI 1) hx hb d_La_multiply_12 (by decide) ?_
      exact W.widen (k := 1) (n := 6) (Nat.le_of_ble_eq_true rfl) (Nat.le_of_ble_eq_true rfl) (vx_ret (hw_iret hx hb hr hlocks hI d_La_multiply_13 ⟨by rw [hk], rfl, by rw [opMul_ne (by rw [hk]; decide)]; exact hS, hF⟩))
    · refine hw_catch S hI htab [(0, 7, 10, 13)] (0, 7, 14, 21) [] rfl (fun z hz => by obtain rfl := List.mem_singleton.mp hz; exact ⟨by decide, "java/lang/IllegalArgumentException", w_199, by decide +kernel⟩) (by decide) (by decide) w_359 (by decide +kernel) hc9 hv9 hl9 ?_
      refine lv_astore (lv' := [(4, .ref (q9)), (0, .ref (wf)), (1, .int (i0)), (2, .int (i1)), (3, .int (i2))]) hx hb d_La_multiply_14 hl (by decide) rfl (fun ls hl => ?_)
      refine lv_iconst (v := nI 2) hx hb d_La_multiply_16 (by decide) ?_
      exact W.widen (k := 1) (n := 6) (Nat.le_of_ble_eq_true rfl) (Nat.le_of_ble_eq_true rfl) (vx_ret (hw_iret hx hb hr hlocks hI d_La_multiply_17 ⟨by rw [hk], rfl, by rw [opMul_ne (by rw [hk]; decide)]; exact hS, hF⟩))
theorem m_La_divide : hw_mW y_La_divide b_La_divide 5 (some .int) [(0, 7, 10, 13), (0, 7, 14, 15), (0, 7, 18, 21)] 4 := ⟨w_542, w_0, by decide +kernel, by decide +kernel, w_541⟩
set_option maxHeartbeats 4000000 in
set_option maxRecDepth 100000 in
theorem c_La_divide (l : Launch) (hlt : l.stackTraces = false) (D : va_G) (t0 : Nat) (L : List Nat) (f : Nat → va_E) (sz : Nat) (o r fr : Nat → Nat) (ad al ab am ak ah aw ar rg wf : Nat) (σ : Sg) (wt : Nat → Nat) (i0 : Int32) (i1 : Int32) (i2 : Int32) (hg : Gl o r fr ad al ab am ak ah aw ar rg wf) (hS : Sd D L f o r fr ad al ab am ak ah aw ar rg wf σ wt) (hok : Ok σ wt) : vx_Met l y_La_divide (Cond.codeWith y_La_divide b_La_divide 5 (some .int) [(0, 7, 10, 13), (0, 7, 14, 15), (0, 7, 18, 21)] :: TT) ({ frames := 12, cells := 1, slots := 6, locals := 260 } : Room) (hw_Pc t0 [.ref (wf), .int (i0), .int (i1), .int (i2)] D L f sz) (hw_Q D L sz (fun oc L' f' => oc = .returned (some (.int (nI (opDiv σ i0 i1 i2).1))) ∧ L = L' ∧ Sd D L f' o r fr ad al ab am ak ah aw ar rg wf (opDiv σ i0 i1 i2).2 wt ∧ Fm o r fr ad al ab am ak ah aw ar rg wf f f')) (hw_X D L sz (fun _ _ _ => False)) 1 6 (hw_A L sz) := by
  refine vx_ofWH (cc := b_La_divide) (maxL := 5) (ret := (some .int)) (hh := [(0, 7, 10, 13), (0, 7, 14, 15), (0, 7, 18, 21)]) (by decide) rfl ?_
  intro p e s m args below meth c s₁ B hml hv
  obtain ⟨rfl, rfl, hI⟩ := hw_start hv
  clear hv
  have hx := B.exec
  have hb := B.bytes
  have hr := B.returns
  have hlocks := B.notSynchronized
  have hown : s.vm.findClass "WallFractionsLaw" = some m.cls := findClass_of_methodNamed B.named
  have hT : ∀ w ∈ TT, w.before ([.ref (wf), .int (i0), .int (i1), .int (i2)]).toArray s = true := fun w h => atoms_spec (ws := (Cond.codeWith y_La_divide b_La_divide 5 (some .int) [(0, 7, 10, 13), (0, 7, 14, 15), (0, 7, 18, 21)] :: TT)) B.pre w (List.mem_cons_of_mem _ h)
  have S : CallFix p m c b_La_divide 5 s ([.ref (wf), .int (i0), .int (i1), .int (i2)]).toArray TT "WallFractionsLaw" := ⟨hx, hb, hml, hown, hT⟩
  have htab : c.exceptionTable.toList = tableOf [(0, 7, 10, 13), (0, 7, 14, 15), (0, 7, 18, 21)] := vx_table (x := y_La_divide) B (atoms_spec (ws := (Cond.codeWith y_La_divide b_La_divide 5 (some .int) [(0, 7, 10, 13), (0, 7, 14, 15), (0, 7, 18, 21)] :: TT)) B.pre _ List.mem_cons_self)
  have hl := lv_entry ([.ref (wf), .int (i0), .int (i1), .int (i2)]) (n := 5) (Nat.le_of_ble_eq_true rfl)
  rw [lg_entry_eq]
  generalize (lg_sl ([.ref (wf), .int (i0), .int (i1), .int (i2)]) ++ List.replicate (5 - (lg_sl ([.ref (wf), .int (i0), .int (i1), .int (i2)])).length) Slot.unset).toArray = ls at hl ⊢
  have hl : lv_has ls 5 [(0, .ref (wf)), (1, .int (i0)), (2, .int (i1)), (3, .int (i2))] := hl
  refine lv_aload_n hx hb d_La_divide_0 rfl (lv_at hl 0 rfl) ?_
  refine lv_iload_n hx hb d_La_divide_1 rfl (lv_at hl 1 rfl) ?_
  refine lv_iload_n hx hb d_La_divide_2 rfl (lv_at hl 2 rfl) ?_
  refine lv_iload_n hx hb d_La_divide_3 rfl (lv_at hl 3 rfl) ?_
  refine hw_xV (As := [.int (i0), .int (i1), .int (i2)]) (rest := []) S hI m_Wf_divide w_543 (c_Wf_divide l hlt D t0 L _ _ o r fr ad al ab am ak ah aw ar rg wf σ wt i0 i1 i2 hg hS hok) hS.wfc rfl hl.1 rfl rfl (Nat.le_of_ble_eq_true rfl) d_La_divide_4 ⟨Nat.le_of_ble_eq_true rfl, Nat.le_of_ble_eq_true rfl⟩ ⟨Nat.le_of_ble_eq_true rfl, Nat.le_of_ble_eq_true rfl⟩ (fun v9 L9 f106 H locs hp hI => ?_) (fun E9 ce9 q9 L9 f106 H locs hp hI hc9 hv9 hl9 => ?_)
  · obtain ⟨hv9, rfl, h0, hS, hF⟩ := hp
    cases hv9
    refine hw_stk (st' := []) rfl ?_
    refine lv_goto (tgt := 22) hx hb d_La_divide_7 (by decide) ?_
    refine lv_iconst (v := nI 0) hx hb d_La_divide_22 (by decide) ?_
    exact W.widen (k := 1) (n := 6) (Nat.le_of_ble_eq_true rfl) (Nat.le_of_ble_eq_true rfl) (vx_ret (hw_iret hx hb hr hlocks hI d_La_divide_23 ⟨by rw [h0], rfl, hS, hF⟩))
  · obtain ⟨hE, rfl, hS, hF⟩ := hp
    rcases hE with ⟨rfl, hk⟩ | ⟨rfl, hk⟩ | ⟨rfl, hk⟩
    · refine hw_catch S hI htab [] (0, 7, 10, 13) [(0, 7, 14, 15), (0, 7, 18, 21)] rfl (fun z hz => absurd hz List.not_mem_nil) (by decide) (by decide) w_199 (by decide +kernel) hc9 hv9 hl9 ?_
      refine lv_astore (lv' := [(4, .ref (q9)), (0, .ref (wf)), (1, .int (i0)), (2, .int (i1)), (3, .int (i2))]) hx hb d_La_divide_10 hl (by decide) rfl (fun ls hl => ?_)
      refine lv_iconst (v := nI 1) hx hb d_La_divide_12 (by decide) ?_
      exact W.widen (k := 1) (n := 6) (Nat.le_of_ble_eq_true rfl) (Nat.le_of_ble_eq_true rfl) (vx_ret (hw_iret hx hb hr hlocks hI d_La_divide_13 ⟨by rw [hk], rfl, by rw [opDiv_ne (by rw [hk]; decide)]; exact hS, hF⟩))
    · refine hw_catch S hI htab [(0, 7, 10, 13)] (0, 7, 14, 15) [(0, 7, 18, 21)] rfl (fun z hz => by obtain rfl := List.mem_singleton.mp hz; exact ⟨by decide, "java/lang/IllegalArgumentException", w_199, by decide +kernel⟩) (by decide) (by decide) w_200 (by decide +kernel) hc9 hv9 hl9 ?_
      refine lv_astore (lv' := [(4, .ref (q9)), (0, .ref (wf)), (1, .int (i0)), (2, .int (i1)), (3, .int (i2))]) hx hb d_La_divide_14 hl (by decide) rfl (fun ls hl => ?_)
      refine lv_iconst (v := nI 2) hx hb d_La_divide_16 (by decide) ?_
      exact W.widen (k := 1) (n := 6) (Nat.le_of_ble_eq_true rfl) (Nat.le_of_ble_eq_true rfl) (vx_ret (hw_iret hx hb hr hlocks hI d_La_divide_17 ⟨by rw [hk], rfl, by rw [opDiv_ne (by rw [hk]; decide)]; exact hS, hF⟩))
    · refine hw_catch S hI htab [(0, 7, 10, 13), (0, 7, 14, 15)] (0, 7, 18, 21) [] rfl (fun z hz => by rcases List.mem_cons.mp hz with rfl | hz; exact ⟨by decide, "java/lang/IllegalArgumentException", w_199, by decide +kernel⟩; obtain rfl := List.mem_singleton.mp hz; exact ⟨by decide, "java/lang/ArithmeticException", w_200, by decide +kernel⟩) (by decide) (by decide) w_359 (by decide +kernel) hc9 hv9 hl9 ?_
      refine lv_astore (lv' := [(4, .ref (q9)), (0, .ref (wf)), (1, .int (i0)), (2, .int (i1)), (3, .int (i2))]) hx hb d_La_divide_18 hl (by decide) rfl (fun ls hl => ?_)
      refine lv_iconst (v := nI 3) hx hb d_La_divide_20 (by decide) ?_
      exact W.widen (k := 1) (n := 6) (Nat.le_of_ble_eq_true rfl) (Nat.le_of_ble_eq_true rfl) (vx_ret (hw_iret hx hb hr hlocks hI d_La_divide_21 ⟨by rw [hk], rfl, by rw [opDiv_ne (by rw [hk]; decide)]; exact hS, hF⟩))
theorem m_La_power : hw_mW y_La_power b_La_power 5 (some .int) [(0, 7, 10, 13), (0, 7, 14, 21)] 4 := ⟨w_551, w_0, by decide +kernel, by decide +kernel, w_550⟩
set_option maxHeartbeats 4000000 in
set_option maxRecDepth 100000 in
theorem c_La_power (l : Launch) (hlt : l.stackTraces = false) (D : va_G) (t0 : Nat) (L : List Nat) (f : Nat → va_E) (sz : Nat) (o r fr : Nat → Nat) (ad al ab am ak ah aw ar rg wf : Nat) (σ : Sg) (wt : Nat → Nat) (i0 : Int32) (i1 : Int32) (i2 : Int32) (hg : Gl o r fr ad al ab am ak ah aw ar rg wf) (hS : Sd D L f o r fr ad al ab am ak ah aw ar rg wf σ wt) (hok : Ok σ wt) : vx_Met l y_La_power (Cond.codeWith y_La_power b_La_power 5 (some .int) [(0, 7, 10, 13), (0, 7, 14, 21)] :: TT) ({ frames := 11, cells := 1, slots := 6, locals := 228 } : Room) (hw_Pc t0 [.ref (wf), .int (i0), .int (i1), .int (i2)] D L f sz) (hw_Q D L sz (fun oc L' f' => oc = .returned (some (.int (nI (opPow σ i0 i1 i2).1))) ∧ L = L' ∧ Sd D L f' o r fr ad al ab am ak ah aw ar rg wf (opPow σ i0 i1 i2).2 wt ∧ Fm o r fr ad al ab am ak ah aw ar rg wf f f')) (hw_X D L sz (fun _ _ _ => False)) 1 6 (hw_A L sz) := by
  refine vx_ofWH (cc := b_La_power) (maxL := 5) (ret := (some .int)) (hh := [(0, 7, 10, 13), (0, 7, 14, 21)]) (by decide) rfl ?_
  intro p e s m args below meth c s₁ B hml hv
  obtain ⟨rfl, rfl, hI⟩ := hw_start hv
  clear hv
  have hx := B.exec
  have hb := B.bytes
  have hr := B.returns
  have hlocks := B.notSynchronized
  have hown : s.vm.findClass "WallFractionsLaw" = some m.cls := findClass_of_methodNamed B.named
  have hT : ∀ w ∈ TT, w.before ([.ref (wf), .int (i0), .int (i1), .int (i2)]).toArray s = true := fun w h => atoms_spec (ws := (Cond.codeWith y_La_power b_La_power 5 (some .int) [(0, 7, 10, 13), (0, 7, 14, 21)] :: TT)) B.pre w (List.mem_cons_of_mem _ h)
  have S : CallFix p m c b_La_power 5 s ([.ref (wf), .int (i0), .int (i1), .int (i2)]).toArray TT "WallFractionsLaw" := ⟨hx, hb, hml, hown, hT⟩
  have htab : c.exceptionTable.toList = tableOf [(0, 7, 10, 13), (0, 7, 14, 21)] := vx_table (x := y_La_power) B (atoms_spec (ws := (Cond.codeWith y_La_power b_La_power 5 (some .int) [(0, 7, 10, 13), (0, 7, 14, 21)] :: TT)) B.pre _ List.mem_cons_self)
  have hl := lv_entry ([.ref (wf), .int (i0), .int (i1), .int (i2)]) (n := 5) (Nat.le_of_ble_eq_true rfl)
  rw [lg_entry_eq]
  generalize (lg_sl ([.ref (wf), .int (i0), .int (i1), .int (i2)]) ++ List.replicate (5 - (lg_sl ([.ref (wf), .int (i0), .int (i1), .int (i2)])).length) Slot.unset).toArray = ls at hl ⊢
  have hl : lv_has ls 5 [(0, .ref (wf)), (1, .int (i0)), (2, .int (i1)), (3, .int (i2))] := hl
  refine lv_aload_n hx hb d_La_power_0 rfl (lv_at hl 0 rfl) ?_
  refine lv_iload_n hx hb d_La_power_1 rfl (lv_at hl 1 rfl) ?_
  refine lv_iload_n hx hb d_La_power_2 rfl (lv_at hl 2 rfl) ?_
  refine lv_iload_n hx hb d_La_power_3 rfl (lv_at hl 3 rfl) ?_
  refine hw_xV (As := [.int (i0), .int (i1), .int (i2)]) (rest := []) S hI m_Wf_power w_552 (c_Wf_power l hlt D t0 L _ _ o r fr ad al ab am ak ah aw ar rg wf σ wt i0 i1 i2 hg hS hok) hS.wfc rfl hl.1 rfl rfl (Nat.le_of_ble_eq_true rfl) d_La_power_4 ⟨Nat.le_of_ble_eq_true rfl, Nat.le_of_ble_eq_true rfl⟩ ⟨Nat.le_of_ble_eq_true rfl, Nat.le_of_ble_eq_true rfl⟩ (fun v9 L9 f107 H locs hp hI => ?_) (fun E9 ce9 q9 L9 f107 H locs hp hI hc9 hv9 hl9 => ?_)
  · obtain ⟨hv9, rfl, h0, hS, hF⟩ := hp
    cases hv9
    refine hw_stk (st' := []) rfl ?_
    refine lv_goto (tgt := 18) hx hb d_La_power_7 (by decide) ?_
    refine lv_iconst (v := nI 0) hx hb d_La_power_18 (by decide) ?_
    exact W.widen (k := 1) (n := 6) (Nat.le_of_ble_eq_true rfl) (Nat.le_of_ble_eq_true rfl) (vx_ret (hw_iret hx hb hr hlocks hI d_La_power_19 ⟨by rw [h0], rfl, hS, hF⟩))
  · obtain ⟨hE, rfl, hS, hF⟩ := hp
    rcases hE with ⟨rfl, hk⟩ | ⟨rfl, hk⟩
    · refine hw_catch S hI htab [] (0, 7, 10, 13) [(0, 7, 14, 21)] rfl (fun z hz => absurd hz List.not_mem_nil) (by decide) (by decide) w_199 (by decide +kernel) hc9 hv9 hl9 ?_
      refine lv_astore (lv' := [(4, .ref (q9)), (0, .ref (wf)), (1, .int (i0)), (2, .int (i1)), (3, .int (i2))]) hx hb d_La_power_10 hl (by decide) rfl (fun ls hl => ?_)
      refine lv_iconst (v := nI 1) hx hb d_La_power_12 (by decide) ?_
      exact W.widen (k := 1) (n := 6) (Nat.le_of_ble_eq_true rfl) (Nat.le_of_ble_eq_true rfl) (vx_ret (hw_iret hx hb hr hlocks hI d_La_power_13 ⟨by rw [hk], rfl, by rw [opPow_ne (by rw [hk]; decide)]; exact hS, hF⟩))
    · refine hw_catch S hI htab [(0, 7, 10, 13)] (0, 7, 14, 21) [] rfl (fun z hz => by obtain rfl := List.mem_singleton.mp hz; exact ⟨by decide, "java/lang/IllegalArgumentException", w_199, by decide +kernel⟩) (by decide) (by decide) w_359 (by decide +kernel) hc9 hv9 hl9 ?_
      refine lv_astore (lv' := [(4, .ref (q9)), (0, .ref (wf)), (1, .int (i0)), (2, .int (i1)), (3, .int (i2))]) hx hb d_La_power_14 hl (by decide) rfl (fun ls hl => ?_)
      refine lv_iconst (v := nI 2) hx hb d_La_power_16 (by decide) ?_
      exact W.widen (k := 1) (n := 6) (Nat.le_of_ble_eq_true rfl) (Nat.le_of_ble_eq_true rfl) (vx_ret (hw_iret hx hb hr hlocks hI d_La_power_17 ⟨by rw [hk], rfl, by rw [opPow_ne (by rw [hk]; decide)]; exact hS, hF⟩))
theorem m_La_binomial : hw_mW y_La_binomial b_La_binomial 5 (some .int) [(0, 7, 10, 13), (0, 7, 14, 21)] 4 := ⟨w_569, w_0, by decide +kernel, by decide +kernel, w_568⟩
set_option maxHeartbeats 4000000 in
set_option maxRecDepth 100000 in
theorem c_La_binomial (l : Launch) (hlt : l.stackTraces = false) (D : va_G) (t0 : Nat) (L : List Nat) (f : Nat → va_E) (sz : Nat) (o r fr : Nat → Nat) (ad al ab am ak ah aw ar rg wf : Nat) (σ : Sg) (wt : Nat → Nat) (i0 : Int32) (i1 : Int32) (i2 : Int32) (hg : Gl o r fr ad al ab am ak ah aw ar rg wf) (hS : Sd D L f o r fr ad al ab am ak ah aw ar rg wf σ wt) (hok : Ok σ wt) : vx_Met l y_La_binomial (Cond.codeWith y_La_binomial b_La_binomial 5 (some .int) [(0, 7, 10, 13), (0, 7, 14, 21)] :: TT) ({ frames := 10, cells := 1, slots := 6, locals := 206 } : Room) (hw_Pc t0 [.ref (wf), .int (i0), .int (i1), .int (i2)] D L f sz) (hw_Q D L sz (fun oc L' f' => oc = .returned (some (.int (nI (opBin σ i0 i1 i2).1))) ∧ L = L' ∧ Sd D L f' o r fr ad al ab am ak ah aw ar rg wf (opBin σ i0 i1 i2).2 wt ∧ Fm o r fr ad al ab am ak ah aw ar rg wf f f')) (hw_X D L sz (fun _ _ _ => False)) 1 6 (hw_A L sz) := by
  refine vx_ofWH (cc := b_La_binomial) (maxL := 5) (ret := (some .int)) (hh := [(0, 7, 10, 13), (0, 7, 14, 21)]) (by decide) rfl ?_
  intro p e s m args below meth c s₁ B hml hv
  obtain ⟨rfl, rfl, hI⟩ := hw_start hv
  clear hv
  have hx := B.exec
  have hb := B.bytes
  have hr := B.returns
  have hlocks := B.notSynchronized
  have hown : s.vm.findClass "WallFractionsLaw" = some m.cls := findClass_of_methodNamed B.named
  have hT : ∀ w ∈ TT, w.before ([.ref (wf), .int (i0), .int (i1), .int (i2)]).toArray s = true := fun w h => atoms_spec (ws := (Cond.codeWith y_La_binomial b_La_binomial 5 (some .int) [(0, 7, 10, 13), (0, 7, 14, 21)] :: TT)) B.pre w (List.mem_cons_of_mem _ h)
  have S : CallFix p m c b_La_binomial 5 s ([.ref (wf), .int (i0), .int (i1), .int (i2)]).toArray TT "WallFractionsLaw" := ⟨hx, hb, hml, hown, hT⟩
  have htab : c.exceptionTable.toList = tableOf [(0, 7, 10, 13), (0, 7, 14, 21)] := vx_table (x := y_La_binomial) B (atoms_spec (ws := (Cond.codeWith y_La_binomial b_La_binomial 5 (some .int) [(0, 7, 10, 13), (0, 7, 14, 21)] :: TT)) B.pre _ List.mem_cons_self)
  have hl := lv_entry ([.ref (wf), .int (i0), .int (i1), .int (i2)]) (n := 5) (Nat.le_of_ble_eq_true rfl)
  rw [lg_entry_eq]
  generalize (lg_sl ([.ref (wf), .int (i0), .int (i1), .int (i2)]) ++ List.replicate (5 - (lg_sl ([.ref (wf), .int (i0), .int (i1), .int (i2)])).length) Slot.unset).toArray = ls at hl ⊢
  have hl : lv_has ls 5 [(0, .ref (wf)), (1, .int (i0)), (2, .int (i1)), (3, .int (i2))] := hl
  refine lv_aload_n hx hb d_La_binomial_0 rfl (lv_at hl 0 rfl) ?_
  refine lv_iload_n hx hb d_La_binomial_1 rfl (lv_at hl 1 rfl) ?_
  refine lv_iload_n hx hb d_La_binomial_2 rfl (lv_at hl 2 rfl) ?_
  refine lv_iload_n hx hb d_La_binomial_3 rfl (lv_at hl 3 rfl) ?_
  refine hw_xV (As := [.int (i0), .int (i1), .int (i2)]) (rest := []) S hI m_Wf_binomial w_570 (c_Wf_binomial l hlt D t0 L _ _ o r fr ad al ab am ak ah aw ar rg wf σ wt i0 i1 i2 hg hS hok) hS.wfc rfl hl.1 rfl rfl (Nat.le_of_ble_eq_true rfl) d_La_binomial_4 ⟨Nat.le_of_ble_eq_true rfl, Nat.le_of_ble_eq_true rfl⟩ ⟨Nat.le_of_ble_eq_true rfl, Nat.le_of_ble_eq_true rfl⟩ (fun v9 L9 f108 H locs hp hI => ?_) (fun E9 ce9 q9 L9 f108 H locs hp hI hc9 hv9 hl9 => ?_)
  · obtain ⟨hv9, rfl, h0, hS, hF⟩ := hp
    cases hv9
    refine hw_stk (st' := []) rfl ?_
    refine lv_goto (tgt := 18) hx hb d_La_binomial_7 (by decide) ?_
    refine lv_iconst (v := nI 0) hx hb d_La_binomial_18 (by decide) ?_
    exact W.widen (k := 1) (n := 6) (Nat.le_of_ble_eq_true rfl) (Nat.le_of_ble_eq_true rfl) (vx_ret (hw_iret hx hb hr hlocks hI d_La_binomial_19 ⟨by rw [h0], rfl, hS, hF⟩))
  · obtain ⟨hE, rfl, hS, hF⟩ := hp
    rcases hE with ⟨rfl, hk⟩ | ⟨rfl, hk⟩
    · refine hw_catch S hI htab [] (0, 7, 10, 13) [(0, 7, 14, 21)] rfl (fun z hz => absurd hz List.not_mem_nil) (by decide) (by decide) w_199 (by decide +kernel) hc9 hv9 hl9 ?_
      refine lv_astore (lv' := [(4, .ref (q9)), (0, .ref (wf)), (1, .int (i0)), (2, .int (i1)), (3, .int (i2))]) hx hb d_La_binomial_10 hl (by decide) rfl (fun ls hl => ?_)
      refine lv_iconst (v := nI 1) hx hb d_La_binomial_12 (by decide) ?_
      exact W.widen (k := 1) (n := 6) (Nat.le_of_ble_eq_true rfl) (Nat.le_of_ble_eq_true rfl) (vx_ret (hw_iret hx hb hr hlocks hI d_La_binomial_13 ⟨by rw [hk], rfl, by rw [opBin_ne (by rw [hk]; decide)]; exact hS, hF⟩))
    · refine hw_catch S hI htab [(0, 7, 10, 13)] (0, 7, 14, 21) [] rfl (fun z hz => by obtain rfl := List.mem_singleton.mp hz; exact ⟨by decide, "java/lang/IllegalArgumentException", w_199, by decide +kernel⟩) (by decide) (by decide) w_359 (by decide +kernel) hc9 hv9 hl9 ?_
      refine lv_astore (lv' := [(4, .ref (q9)), (0, .ref (wf)), (1, .int (i0)), (2, .int (i1)), (3, .int (i2))]) hx hb d_La_binomial_14 hl (by decide) rfl (fun ls hl => ?_)
      refine lv_iconst (v := nI 2) hx hb d_La_binomial_16 (by decide) ?_
      exact W.widen (k := 1) (n := 6) (Nat.le_of_ble_eq_true rfl) (Nat.le_of_ble_eq_true rfl) (vx_ret (hw_iret hx hb hr hlocks hI d_La_binomial_17 ⟨by rw [hk], rfl, by rw [opBin_ne (by rw [hk]; decide)]; exact hS, hF⟩))
theorem m_La_round : hw_mW y_La_round b_La_round 6 (some .int) [(0, 9, 12, 13), (0, 9, 16, 21)] 5 := ⟨w_585, w_0, by decide +kernel, by decide +kernel, w_584⟩
set_option maxHeartbeats 4000000 in
set_option maxRecDepth 100000 in
theorem c_La_round (l : Launch) (hlt : l.stackTraces = false) (D : va_G) (t0 : Nat) (L : List Nat) (f : Nat → va_E) (sz : Nat) (o r fr : Nat → Nat) (ad al ab am ak ah aw ar rg wf : Nat) (σ : Sg) (wt : Nat → Nat) (i0 : Int32) (i1 : Int32) (i2 : Int32) (i3 : Int32) (hg : Gl o r fr ad al ab am ak ah aw ar rg wf) (hS : Sd D L f o r fr ad al ab am ak ah aw ar rg wf σ wt) (hok : Ok σ wt) : vx_Met l y_La_round (Cond.codeWith y_La_round b_La_round 6 (some .int) [(0, 9, 12, 13), (0, 9, 16, 21)] :: TT) ({ frames := 12, cells := 1, slots := 6, locals := 261 } : Room) (hw_Pc t0 [.ref (wf), .int (i0), .int (i1), .int (i2), .int (i3)] D L f sz) (hw_Q D L sz (fun oc L' f' => oc = .returned (some (.int (nI (opRnd σ i0 i1 i2 i3).1))) ∧ L = L' ∧ Sd D L f' o r fr ad al ab am ak ah aw ar rg wf (opRnd σ i0 i1 i2 i3).2 wt ∧ Fm o r fr ad al ab am ak ah aw ar rg wf f f')) (hw_X D L sz (fun _ _ _ => False)) 1 6 (hw_A L sz) := by
  refine vx_ofWH (cc := b_La_round) (maxL := 6) (ret := (some .int)) (hh := [(0, 9, 12, 13), (0, 9, 16, 21)]) (by decide) rfl ?_
  intro p e s m args below meth c s₁ B hml hv
  obtain ⟨rfl, rfl, hI⟩ := hw_start hv
  clear hv
  have hx := B.exec
  have hb := B.bytes
  have hr := B.returns
  have hlocks := B.notSynchronized
  have hown : s.vm.findClass "WallFractionsLaw" = some m.cls := findClass_of_methodNamed B.named
  have hT : ∀ w ∈ TT, w.before ([.ref (wf), .int (i0), .int (i1), .int (i2), .int (i3)]).toArray s = true := fun w h => atoms_spec (ws := (Cond.codeWith y_La_round b_La_round 6 (some .int) [(0, 9, 12, 13), (0, 9, 16, 21)] :: TT)) B.pre w (List.mem_cons_of_mem _ h)
  have S : CallFix p m c b_La_round 6 s ([.ref (wf), .int (i0), .int (i1), .int (i2), .int (i3)]).toArray TT "WallFractionsLaw" := ⟨hx, hb, hml, hown, hT⟩
  have htab : c.exceptionTable.toList = tableOf [(0, 9, 12, 13), (0, 9, 16, 21)] := vx_table (x := y_La_round) B (atoms_spec (ws := (Cond.codeWith y_La_round b_La_round 6 (some .int) [(0, 9, 12, 13), (0, 9, 16, 21)] :: TT)) B.pre _ List.mem_cons_self)
  have hl := lv_entry ([.ref (wf), .int (i0), .int (i1), .int (i2), .int (i3)]) (n := 6) (Nat.le_of_ble_eq_true rfl)
  rw [lg_entry_eq]
  generalize (lg_sl ([.ref (wf), .int (i0), .int (i1), .int (i2), .int (i3)]) ++ List.replicate (6 - (lg_sl ([.ref (wf), .int (i0), .int (i1), .int (i2), .int (i3)])).length) Slot.unset).toArray = ls at hl ⊢
  have hl : lv_has ls 6 [(0, .ref (wf)), (1, .int (i0)), (2, .int (i1)), (3, .int (i2)), (4, .int (i3))] := hl
  refine lv_aload_n hx hb d_La_round_0 rfl (lv_at hl 0 rfl) ?_
  refine lv_iload_n hx hb d_La_round_1 rfl (lv_at hl 1 rfl) ?_
  refine lv_iload_n hx hb d_La_round_2 rfl (lv_at hl 2 rfl) ?_
  refine lv_iload_n hx hb d_La_round_3 rfl (lv_at hl 3 rfl) ?_
  refine lv_iload hx hb d_La_round_4 (lv_at hl 4 rfl) ?_
  refine hw_xV (As := [.int (i0), .int (i1), .int (i2), .int (i3)]) (rest := []) S hI m_Wf_round w_586 (c_Wf_round l hlt D t0 L _ _ o r fr ad al ab am ak ah aw ar rg wf σ wt i0 i1 i2 i3 hg hS hok) hS.wfc rfl hl.1 rfl rfl (Nat.le_of_ble_eq_true rfl) d_La_round_6 ⟨Nat.le_of_ble_eq_true rfl, Nat.le_of_ble_eq_true rfl⟩ ⟨Nat.le_of_ble_eq_true rfl, Nat.le_of_ble_eq_true rfl⟩ (fun v9 L9 f109 H locs hp hI => ?_) (fun E9 ce9 q9 L9 f109 H locs hp hI hc9 hv9 hl9 => ?_)
  · obtain ⟨hv9, rfl, h0, hS, hF⟩ := hp
    cases hv9
    refine hw_stk (st' := []) rfl ?_
    refine lv_goto (tgt := 20) hx hb d_La_round_9 (by decide) ?_
    refine lv_iconst (v := nI 0) hx hb d_La_round_20 (by decide) ?_
    exact W.widen (k := 1) (n := 6) (Nat.le_of_ble_eq_true rfl) (Nat.le_of_ble_eq_true rfl) (vx_ret (hw_iret hx hb hr hlocks hI d_La_round_21 ⟨by rw [h0], rfl, hS, hF⟩))
  · obtain ⟨hE, rfl, hS, hF⟩ := hp
    rcases hE with ⟨rfl, hk⟩ | ⟨rfl, hk⟩
    · refine hw_catch S hI htab [] (0, 9, 12, 13) [(0, 9, 16, 21)] rfl (fun z hz => absurd hz List.not_mem_nil) (by decide) (by decide) w_199 (by decide +kernel) hc9 hv9 hl9 ?_
      refine lv_astore (lv' := [(5, .ref (q9)), (0, .ref (wf)), (1, .int (i0)), (2, .int (i1)), (3, .int (i2)), (4, .int (i3))]) hx hb d_La_round_12 hl (by decide) rfl (fun ls hl => ?_)
      refine lv_iconst (v := nI 1) hx hb d_La_round_14 (by decide) ?_
      exact W.widen (k := 1) (n := 6) (Nat.le_of_ble_eq_true rfl) (Nat.le_of_ble_eq_true rfl) (vx_ret (hw_iret hx hb hr hlocks hI d_La_round_15 ⟨by rw [hk], rfl, by rw [opRnd_ne (by rw [hk]; decide)]; exact hS, hF⟩))
    · refine hw_catch S hI htab [(0, 9, 12, 13)] (0, 9, 16, 21) [] rfl (fun z hz => by obtain rfl := List.mem_singleton.mp hz; exact ⟨by decide, "java/lang/IllegalArgumentException", w_199, by decide +kernel⟩) (by decide) (by decide) w_359 (by decide +kernel) hc9 hv9 hl9 ?_
      refine lv_astore (lv' := [(5, .ref (q9)), (0, .ref (wf)), (1, .int (i0)), (2, .int (i1)), (3, .int (i2)), (4, .int (i3))]) hx hb d_La_round_16 hl (by decide) rfl (fun ls hl => ?_)
      refine lv_iconst (v := nI 2) hx hb d_La_round_18 (by decide) ?_
      exact W.widen (k := 1) (n := 6) (Nat.le_of_ble_eq_true rfl) (Nat.le_of_ble_eq_true rfl) (vx_ret (hw_iret hx hb hr hlocks hI d_La_round_19 ⟨by rw [hk], rfl, by rw [opRnd_ne (by rw [hk]; decide)]; exact hS, hF⟩))
theorem m_La_root : hw_mW y_La_root b_La_root 5 (some .int) [(0, 7, 10, 13), (0, 7, 14, 15), (0, 7, 18, 21)] 4 := ⟨w_611, w_0, by decide +kernel, by decide +kernel, w_610⟩
set_option maxHeartbeats 4000000 in
set_option maxRecDepth 100000 in
theorem c_La_root (l : Launch) (hlt : l.stackTraces = false) (D : va_G) (t0 : Nat) (L : List Nat) (f : Nat → va_E) (sz : Nat) (o r fr : Nat → Nat) (ad al ab am ak ah aw ar rg wf : Nat) (σ : Sg) (wt : Nat → Nat) (i0 : Int32) (i1 : Int32) (i2 : Int32) (hg : Gl o r fr ad al ab am ak ah aw ar rg wf) (hS : Sd D L f o r fr ad al ab am ak ah aw ar rg wf σ wt) (hok : Ok σ wt) : vx_Met l y_La_root (Cond.codeWith y_La_root b_La_root 5 (some .int) [(0, 7, 10, 13), (0, 7, 14, 15), (0, 7, 18, 21)] :: TT) ({ frames := 12, cells := 1, slots := 6, locals := 261 } : Room) (hw_Pc t0 [.ref (wf), .int (i0), .int (i1), .int (i2)] D L f sz) (hw_Q D L sz (fun oc L' f' => oc = .returned (some (.int (nI (opRoot σ i0 i1 i2).1))) ∧ L = L' ∧ Sd D L f' o r fr ad al ab am ak ah aw ar rg wf (opRoot σ i0 i1 i2).2 wt ∧ Fm o r fr ad al ab am ak ah aw ar rg wf f f')) (hw_X D L sz (fun _ _ _ => False)) 1 6 (hw_A L sz) := by
  refine vx_ofWH (cc := b_La_root) (maxL := 5) (ret := (some .int)) (hh := [(0, 7, 10, 13), (0, 7, 14, 15), (0, 7, 18, 21)]) (by decide) rfl ?_
  intro p e s m args below meth c s₁ B hml hv
  obtain ⟨rfl, rfl, hI⟩ := hw_start hv
  clear hv
  have hx := B.exec
  have hb := B.bytes
  have hr := B.returns
  have hlocks := B.notSynchronized
  have hown : s.vm.findClass "WallFractionsLaw" = some m.cls := findClass_of_methodNamed B.named
  have hT : ∀ w ∈ TT, w.before ([.ref (wf), .int (i0), .int (i1), .int (i2)]).toArray s = true := fun w h => atoms_spec (ws := (Cond.codeWith y_La_root b_La_root 5 (some .int) [(0, 7, 10, 13), (0, 7, 14, 15), (0, 7, 18, 21)] :: TT)) B.pre w (List.mem_cons_of_mem _ h)
  have S : CallFix p m c b_La_root 5 s ([.ref (wf), .int (i0), .int (i1), .int (i2)]).toArray TT "WallFractionsLaw" := ⟨hx, hb, hml, hown, hT⟩
  have htab : c.exceptionTable.toList = tableOf [(0, 7, 10, 13), (0, 7, 14, 15), (0, 7, 18, 21)] := vx_table (x := y_La_root) B (atoms_spec (ws := (Cond.codeWith y_La_root b_La_root 5 (some .int) [(0, 7, 10, 13), (0, 7, 14, 15), (0, 7, 18, 21)] :: TT)) B.pre _ List.mem_cons_self)
  have hl := lv_entry ([.ref (wf), .int (i0), .int (i1), .int (i2)]) (n := 5) (Nat.le_of_ble_eq_true rfl)
  rw [lg_entry_eq]
  generalize (lg_sl ([.ref (wf), .int (i0), .int (i1), .int (i2)]) ++ List.replicate (5 - (lg_sl ([.ref (wf), .int (i0), .int (i1), .int (i2)])).length) Slot.unset).toArray = ls at hl ⊢
  have hl : lv_has ls 5 [(0, .ref (wf)), (1, .int (i0)), (2, .int (i1)), (3, .int (i2))] := hl
  refine lv_aload_n hx hb d_La_root_0 rfl (lv_at hl 0 rfl) ?_
  refine lv_iload_n hx hb d_La_root_1 rfl (lv_at hl 1 rfl) ?_
  refine lv_iload_n hx hb d_La_root_2 rfl (lv_at hl 2 rfl) ?_
  refine lv_iload_n hx hb d_La_root_3 rfl (lv_at hl 3 rfl) ?_
  refine hw_xV (As := [.int (i0), .int (i1), .int (i2)]) (rest := []) S hI m_Wf_root w_612 (c_Wf_root l hlt D t0 L _ _ o r fr ad al ab am ak ah aw ar rg wf σ wt i0 i1 i2 hg hS hok) hS.wfc rfl hl.1 rfl rfl (Nat.le_of_ble_eq_true rfl) d_La_root_4 ⟨Nat.le_of_ble_eq_true rfl, Nat.le_of_ble_eq_true rfl⟩ ⟨Nat.le_of_ble_eq_true rfl, Nat.le_of_ble_eq_true rfl⟩ (fun v9 L9 f110 H locs hp hI => ?_) (fun E9 ce9 q9 L9 f110 H locs hp hI hc9 hv9 hl9 => ?_)
  · obtain ⟨hv9, rfl, h0, hS, hF⟩ := hp
    cases hv9
    refine hw_stk (st' := []) rfl ?_
    refine lv_goto (tgt := 22) hx hb d_La_root_7 (by decide) ?_
    refine lv_iconst (v := nI 0) hx hb d_La_root_22 (by decide) ?_
    exact W.widen (k := 1) (n := 6) (Nat.le_of_ble_eq_true rfl) (Nat.le_of_ble_eq_true rfl) (vx_ret (hw_iret hx hb hr hlocks hI d_La_root_23 ⟨by rw [h0], rfl, hS, hF⟩))
  · obtain ⟨hE, rfl, hS, hF⟩ := hp
    rcases hE with ⟨rfl, hk⟩ | ⟨rfl, hk⟩ | ⟨rfl, hk⟩
    · refine hw_catch S hI htab [] (0, 7, 10, 13) [(0, 7, 14, 15), (0, 7, 18, 21)] rfl (fun z hz => absurd hz List.not_mem_nil) (by decide) (by decide) w_199 (by decide +kernel) hc9 hv9 hl9 ?_
      refine lv_astore (lv' := [(4, .ref (q9)), (0, .ref (wf)), (1, .int (i0)), (2, .int (i1)), (3, .int (i2))]) hx hb d_La_root_10 hl (by decide) rfl (fun ls hl => ?_)
      refine lv_iconst (v := nI 1) hx hb d_La_root_12 (by decide) ?_
      exact W.widen (k := 1) (n := 6) (Nat.le_of_ble_eq_true rfl) (Nat.le_of_ble_eq_true rfl) (vx_ret (hw_iret hx hb hr hlocks hI d_La_root_13 ⟨by rw [hk], rfl, by rw [opRoot_ne (by rw [hk]; decide)]; exact hS, hF⟩))
    · refine hw_catch S hI htab [(0, 7, 10, 13)] (0, 7, 14, 15) [(0, 7, 18, 21)] rfl (fun z hz => by obtain rfl := List.mem_singleton.mp hz; exact ⟨by decide, "java/lang/IllegalArgumentException", w_199, by decide +kernel⟩) (by decide) (by decide) w_200 (by decide +kernel) hc9 hv9 hl9 ?_
      refine lv_astore (lv' := [(4, .ref (q9)), (0, .ref (wf)), (1, .int (i0)), (2, .int (i1)), (3, .int (i2))]) hx hb d_La_root_14 hl (by decide) rfl (fun ls hl => ?_)
      refine lv_iconst (v := nI 2) hx hb d_La_root_16 (by decide) ?_
      exact W.widen (k := 1) (n := 6) (Nat.le_of_ble_eq_true rfl) (Nat.le_of_ble_eq_true rfl) (vx_ret (hw_iret hx hb hr hlocks hI d_La_root_17 ⟨by rw [hk], rfl, by rw [opRoot_ne (by rw [hk]; decide)]; exact hS, hF⟩))
    · refine hw_catch S hI htab [(0, 7, 10, 13), (0, 7, 14, 15)] (0, 7, 18, 21) [] rfl (fun z hz => by rcases List.mem_cons.mp hz with rfl | hz; exact ⟨by decide, "java/lang/IllegalArgumentException", w_199, by decide +kernel⟩; obtain rfl := List.mem_singleton.mp hz; exact ⟨by decide, "java/lang/ArithmeticException", w_200, by decide +kernel⟩) (by decide) (by decide) w_359 (by decide +kernel) hc9 hv9 hl9 ?_
      refine lv_astore (lv' := [(4, .ref (q9)), (0, .ref (wf)), (1, .int (i0)), (2, .int (i1)), (3, .int (i2))]) hx hb d_La_root_18 hl (by decide) rfl (fun ls hl => ?_)
      refine lv_iconst (v := nI 3) hx hb d_La_root_20 (by decide) ?_
      exact W.widen (k := 1) (n := 6) (Nat.le_of_ble_eq_true rfl) (Nat.le_of_ble_eq_true rfl) (vx_ret (hw_iret hx hb hr hlocks hI d_La_root_21 ⟨by rw [hk], rfl, by rw [opRoot_ne (by rw [hk]; decide)]; exact hS, hF⟩))
theorem m_La_share : hw_mW y_La_share b_La_share 5 (some .int) [(0, 7, 10, 13), (0, 7, 14, 15), (0, 7, 18, 21)] 4 := ⟨w_735, w_0, by decide +kernel, by decide +kernel, w_734⟩
set_option maxHeartbeats 4000000 in
set_option maxRecDepth 100000 in
theorem c_La_share (l : Launch) (hlt : l.stackTraces = false) (D : va_G) (t0 : Nat) (L : List Nat) (f : Nat → va_E) (sz : Nat) (o r fr : Nat → Nat) (ad al ab am ak ah aw ar rg wf : Nat) (σ : Sg) (wt : Nat → Nat) (i0 : Int32) (i1 : Int32) (i2 : Int32) (hg : Gl o r fr ad al ab am ak ah aw ar rg wf) (hS : Sd D L f o r fr ad al ab am ak ah aw ar rg wf σ wt) (hok : Ok σ wt) : vx_Met l y_La_share (Cond.codeWith y_La_share b_La_share 5 (some .int) [(0, 7, 10, 13), (0, 7, 14, 15), (0, 7, 18, 21)] :: TT) ({ frames := 11, cells := 1, slots := 6, locals := 242 } : Room) (hw_Pc t0 [.ref (wf), .int (i0), .int (i1), .int (i2)] D L f sz) (hw_Q D L sz (fun oc L' f' => oc = .returned (some (.int (nI (opShr σ wt i0 i1 i2).1))) ∧ L = L' ∧ Sd D L f' o r fr ad al ab am ak ah aw ar rg wf (opShr σ wt i0 i1 i2).2 wt ∧ Fm o r fr ad al ab am ak ah aw ar rg wf f f')) (hw_X D L sz (fun _ _ _ => False)) 1 6 (hw_A L sz) := by
  refine vx_ofWH (cc := b_La_share) (maxL := 5) (ret := (some .int)) (hh := [(0, 7, 10, 13), (0, 7, 14, 15), (0, 7, 18, 21)]) (by decide) rfl ?_
  intro p e s m args below meth c s₁ B hml hv
  obtain ⟨rfl, rfl, hI⟩ := hw_start hv
  clear hv
  have hx := B.exec
  have hb := B.bytes
  have hr := B.returns
  have hlocks := B.notSynchronized
  have hown : s.vm.findClass "WallFractionsLaw" = some m.cls := findClass_of_methodNamed B.named
  have hT : ∀ w ∈ TT, w.before ([.ref (wf), .int (i0), .int (i1), .int (i2)]).toArray s = true := fun w h => atoms_spec (ws := (Cond.codeWith y_La_share b_La_share 5 (some .int) [(0, 7, 10, 13), (0, 7, 14, 15), (0, 7, 18, 21)] :: TT)) B.pre w (List.mem_cons_of_mem _ h)
  have S : CallFix p m c b_La_share 5 s ([.ref (wf), .int (i0), .int (i1), .int (i2)]).toArray TT "WallFractionsLaw" := ⟨hx, hb, hml, hown, hT⟩
  have htab : c.exceptionTable.toList = tableOf [(0, 7, 10, 13), (0, 7, 14, 15), (0, 7, 18, 21)] := vx_table (x := y_La_share) B (atoms_spec (ws := (Cond.codeWith y_La_share b_La_share 5 (some .int) [(0, 7, 10, 13), (0, 7, 14, 15), (0, 7, 18, 21)] :: TT)) B.pre _ List.mem_cons_self)
  have hl := lv_entry ([.ref (wf), .int (i0), .int (i1), .int (i2)]) (n := 5) (Nat.le_of_ble_eq_true rfl)
  rw [lg_entry_eq]
  generalize (lg_sl ([.ref (wf), .int (i0), .int (i1), .int (i2)]) ++ List.replicate (5 - (lg_sl ([.ref (wf), .int (i0), .int (i1), .int (i2)])).length) Slot.unset).toArray = ls at hl ⊢
  have hl : lv_has ls 5 [(0, .ref (wf)), (1, .int (i0)), (2, .int (i1)), (3, .int (i2))] := hl
  refine lv_aload_n hx hb d_La_share_0 rfl (lv_at hl 0 rfl) ?_
  refine lv_iload_n hx hb d_La_share_1 rfl (lv_at hl 1 rfl) ?_
  refine lv_iload_n hx hb d_La_share_2 rfl (lv_at hl 2 rfl) ?_
  refine lv_iload_n hx hb d_La_share_3 rfl (lv_at hl 3 rfl) ?_
  refine hw_xV (As := [.int (i0), .int (i1), .int (i2)]) (rest := []) S hI m_Wf_share w_736 (c_Wf_share l hlt D t0 L _ _ o r fr ad al ab am ak ah aw ar rg wf σ wt i0 i1 i2 hg hS hok) hS.wfc rfl hl.1 rfl rfl (Nat.le_of_ble_eq_true rfl) d_La_share_4 ⟨Nat.le_of_ble_eq_true rfl, Nat.le_of_ble_eq_true rfl⟩ ⟨Nat.le_of_ble_eq_true rfl, Nat.le_of_ble_eq_true rfl⟩ (fun v9 L9 f111 H locs hp hI => ?_) (fun E9 ce9 q9 L9 f111 H locs hp hI hc9 hv9 hl9 => ?_)
  · obtain ⟨hv9, rfl, h0, hS, hF⟩ := hp
    cases hv9
    refine hw_stk (st' := []) rfl ?_
    refine lv_goto (tgt := 22) hx hb d_La_share_7 (by decide) ?_
    refine lv_iconst (v := nI 0) hx hb d_La_share_22 (by decide) ?_
    exact W.widen (k := 1) (n := 6) (Nat.le_of_ble_eq_true rfl) (Nat.le_of_ble_eq_true rfl) (vx_ret (hw_iret hx hb hr hlocks hI d_La_share_23 ⟨by rw [h0], rfl, hS, hF⟩))
  · obtain ⟨hE, rfl, hS, hF⟩ := hp
    rcases hE with ⟨rfl, hk⟩ | ⟨rfl, hk⟩ | ⟨rfl, hk⟩
    · refine hw_catch S hI htab [] (0, 7, 10, 13) [(0, 7, 14, 15), (0, 7, 18, 21)] rfl (fun z hz => absurd hz List.not_mem_nil) (by decide) (by decide) w_199 (by decide +kernel) hc9 hv9 hl9 ?_
      refine lv_astore (lv' := [(4, .ref (q9)), (0, .ref (wf)), (1, .int (i0)), (2, .int (i1)), (3, .int (i2))]) hx hb d_La_share_10 hl (by decide) rfl (fun ls hl => ?_)
      refine lv_iconst (v := nI 1) hx hb d_La_share_12 (by decide) ?_
      exact W.widen (k := 1) (n := 6) (Nat.le_of_ble_eq_true rfl) (Nat.le_of_ble_eq_true rfl) (vx_ret (hw_iret hx hb hr hlocks hI d_La_share_13 ⟨by rw [hk], rfl, by rw [opShr_ne (by rw [hk]; decide)]; exact hS, hF⟩))
    · refine hw_catch S hI htab [(0, 7, 10, 13)] (0, 7, 14, 15) [(0, 7, 18, 21)] rfl (fun z hz => by obtain rfl := List.mem_singleton.mp hz; exact ⟨by decide, "java/lang/IllegalArgumentException", w_199, by decide +kernel⟩) (by decide) (by decide) w_200 (by decide +kernel) hc9 hv9 hl9 ?_
      refine lv_astore (lv' := [(4, .ref (q9)), (0, .ref (wf)), (1, .int (i0)), (2, .int (i1)), (3, .int (i2))]) hx hb d_La_share_14 hl (by decide) rfl (fun ls hl => ?_)
      refine lv_iconst (v := nI 2) hx hb d_La_share_16 (by decide) ?_
      exact W.widen (k := 1) (n := 6) (Nat.le_of_ble_eq_true rfl) (Nat.le_of_ble_eq_true rfl) (vx_ret (hw_iret hx hb hr hlocks hI d_La_share_17 ⟨by rw [hk], rfl, by rw [opShr_ne (by rw [hk]; decide)]; exact hS, hF⟩))
    · refine hw_catch S hI htab [(0, 7, 10, 13), (0, 7, 14, 15)] (0, 7, 18, 21) [] rfl (fun z hz => by rcases List.mem_cons.mp hz with rfl | hz; exact ⟨by decide, "java/lang/IllegalArgumentException", w_199, by decide +kernel⟩; obtain rfl := List.mem_singleton.mp hz; exact ⟨by decide, "java/lang/ArithmeticException", w_200, by decide +kernel⟩) (by decide) (by decide) w_359 (by decide +kernel) hc9 hv9 hl9 ?_
      refine lv_astore (lv' := [(4, .ref (q9)), (0, .ref (wf)), (1, .int (i0)), (2, .int (i1)), (3, .int (i2))]) hx hb d_La_share_18 hl (by decide) rfl (fun ls hl => ?_)
      refine lv_iconst (v := nI 3) hx hb d_La_share_20 (by decide) ?_
      exact W.widen (k := 1) (n := 6) (Nat.le_of_ble_eq_true rfl) (Nat.le_of_ble_eq_true rfl) (vx_ret (hw_iret hx hb hr hlocks hI d_La_share_21 ⟨by rw [hk], rfl, by rw [opShr_ne (by rw [hk]; decide)]; exact hS, hF⟩))
theorem m_La_compare : hw_mW y_La_compare b_La_compare 5 (some .int) [(0, 10, 13, 13)] 4 := ⟨w_633, w_0, by decide +kernel, by decide +kernel, w_632⟩
set_option maxHeartbeats 4000000 in
set_option maxRecDepth 100000 in
theorem c_La_compare (l : Launch) (hlt : l.stackTraces = false) (D : va_G) (t0 : Nat) (L : List Nat) (f : Nat → va_E) (sz : Nat) (o r fr : Nat → Nat) (ad al ab am ak ah aw ar rg wf : Nat) (σ : Sg) (wt : Nat → Nat) (i0 : Int32) (i1 : Int32) (ao : Nat) (g : Nat → Int64) (hg : Gl o r fr ad al ab am ak ah aw ar rg wf) (hS : Sd D L f o r fr ad al ab am ak ah aw ar rg wf σ wt) (hok : Ok σ wt) (hao : hw_c L f ao (.inl (D.1 100, 1, .inr (.inl g)))) (hna : ¬ Al o r fr ad al ab am ak ah aw ar rg wf ao) : vx_Met l y_La_compare (Cond.codeWith y_La_compare b_La_compare 5 (some .int) [(0, 10, 13, 13)] :: TT) ({ frames := 10, cells := 1, slots := 6, locals := 205 } : Room) (hw_Pc t0 [.ref (wf), .int (i0), .int (i1), .ref (ao)] D L f sz) (hw_Q D L sz (fun oc L' f' => oc = .returned (some (.int (nI (if (aCmp σ i0 i1).isSome then 0 else 1)))) ∧ L = L' ∧ Sd D L f' o r fr ad al ab am ak ah aw ar rg wf σ wt ∧ (∃ g', hw_c L f' ao (.inl (D.1 100, 1, .inr (.inl g'))) ∧ (∀ v0, aCmp σ i0 i1 = some v0 → g' 0 = v0.toInt64)) ∧ ∀ q, ¬ Own o r fr ad al ab am ak ah aw ar rg wf q → q ≠ ao → f' q = f q)) (hw_X D L sz (fun _ _ _ => False)) 1 6 (hw_A L sz) := by
  refine vx_ofWH (cc := b_La_compare) (maxL := 5) (ret := (some .int)) (hh := [(0, 10, 13, 13)]) (by decide) rfl ?_
  intro p e s m args below meth c s₁ B hml hv
  obtain ⟨rfl, rfl, hI⟩ := hw_start hv
  clear hv
  have hx := B.exec
  have hb := B.bytes
  have hr := B.returns
  have hlocks := B.notSynchronized
  have hown : s.vm.findClass "WallFractionsLaw" = some m.cls := findClass_of_methodNamed B.named
  have hT : ∀ w ∈ TT, w.before ([.ref (wf), .int (i0), .int (i1), .ref (ao)]).toArray s = true := fun w h => atoms_spec (ws := (Cond.codeWith y_La_compare b_La_compare 5 (some .int) [(0, 10, 13, 13)] :: TT)) B.pre w (List.mem_cons_of_mem _ h)
  have S : CallFix p m c b_La_compare 5 s ([.ref (wf), .int (i0), .int (i1), .ref (ao)]).toArray TT "WallFractionsLaw" := ⟨hx, hb, hml, hown, hT⟩
  have htab : c.exceptionTable.toList = tableOf [(0, 10, 13, 13)] := vx_table (x := y_La_compare) B (atoms_spec (ws := (Cond.codeWith y_La_compare b_La_compare 5 (some .int) [(0, 10, 13, 13)] :: TT)) B.pre _ List.mem_cons_self)
  have hl := lv_entry ([.ref (wf), .int (i0), .int (i1), .ref (ao)]) (n := 5) (Nat.le_of_ble_eq_true rfl)
  rw [lg_entry_eq]
  generalize (lg_sl ([.ref (wf), .int (i0), .int (i1), .ref (ao)]) ++ List.replicate (5 - (lg_sl ([.ref (wf), .int (i0), .int (i1), .ref (ao)])).length) Slot.unset).toArray = ls at hl ⊢
  have hl : lv_has ls 5 [(0, .ref (wf)), (1, .int (i0)), (2, .int (i1)), (3, .ref (ao))] := hl
  have hno : ¬ Own o r fr ad al ab am ak ah aw ar rg wf ao := fun h => hna (Or.inl h)
  refine lv_aload_n hx hb d_La_compare_0 rfl (lv_at hl 3 rfl) ?_
  refine lv_iconst (v := nI 0) hx hb d_La_compare_1 (by decide) ?_
  refine lv_aload_n hx hb d_La_compare_2 rfl (lv_at hl 0 rfl) ?_
  refine lv_iload_n hx hb d_La_compare_3 rfl (lv_at hl 1 rfl) ?_
  refine lv_iload_n hx hb d_La_compare_4 rfl (lv_at hl 2 rfl) ?_
  refine hw_xV (As := [.int (i0), .int (i1)]) (rest := [.int (nI 0), .ref (ao)]) S hI m_Wf_compare w_634 (c_Wf_compare l hlt D t0 L _ _ o r fr ad al ab am ak ah aw ar rg wf σ wt i0 i1 hg hS hok) hS.wfc rfl hl.1 rfl rfl (Nat.le_of_ble_eq_true rfl) d_La_compare_5 ⟨Nat.le_of_ble_eq_true rfl, Nat.le_of_ble_eq_true rfl⟩ ⟨Nat.le_of_ble_eq_true rfl, Nat.le_of_ble_eq_true rfl⟩ (fun v9 L9 f112 H locs hp hI => ?_) (fun E9 ce9 q9 L9 f112 H locs hp hI hc9 hv9 hl9 => ?_)
  · obtain ⟨⟨v0, hv9, hv0⟩, rfl, hS, hF⟩ := hp
    cases hv9
    refine hw_stk (st' := [.int (v0), .int (nI 0), .ref (ao)]) rfl ?_
    have hao := hw_c.fr hao (hF ao hno)
    refine lv_i2l hx hb d_La_compare_8 rfl ?_
    refine hw_last S.1 S.2.1 hI 0 hao rfl (vp_in_nI (show 0 < 1 by decide) (by decide)) d_La_compare_9 (fun H locs hI => ?_)
    have hS := hS.keep (f' := va_up f112 ao (.inl (D.1 100, 1, .inr (.inl (vp_updL g (nI 0).toNatClampNeg v0.toInt64))))) (fun q hq => ⟨hS.mem q hq, hw_up_ne (fun e => hna (e ▸ hq))⟩)
    refine lv_goto (tgt := 17) hx hb d_La_compare_10 (by decide) ?_
    refine lv_iconst (v := nI 0) hx hb d_La_compare_17 (by decide) ?_
    exact W.widen (k := 1) (n := 6) (Nat.le_of_ble_eq_true rfl) (Nat.le_of_ble_eq_true rfl) (vx_ret (hw_iret hx hb hr hlocks hI d_La_compare_18 ⟨by rw [hv0]; rfl, rfl, hS, ⟨_, hao.self, fun v1 h1 => by cases hv0.symm.trans h1; rfl⟩, fun q h1 h2 => (hw_up_ne h2).trans (hF q h1)⟩))
  · obtain ⟨hE, rfl, hS, hF⟩ := hp
    have hao := hw_c.fr hao (hF ao hno)
    obtain ⟨rfl, hk⟩ := hE
    refine hw_catch S hI htab [] (0, 10, 13, 13) [] rfl (fun z hz => absurd hz List.not_mem_nil) (by decide) (by decide) w_199 (by decide +kernel) hc9 hv9 hl9 ?_
    refine lv_astore (lv' := [(4, .ref (q9)), (0, .ref (wf)), (1, .int (i0)), (2, .int (i1)), (3, .ref (ao))]) hx hb d_La_compare_13 hl (by decide) rfl (fun ls hl => ?_)
    refine lv_iconst (v := nI 1) hx hb d_La_compare_15 (by decide) ?_
    exact W.widen (k := 1) (n := 6) (Nat.le_of_ble_eq_true rfl) (Nat.le_of_ble_eq_true rfl) (vx_ret (hw_iret hx hb hr hlocks hI d_La_compare_16 ⟨by rw [hk]; rfl, rfl, hS, ⟨g, hao, fun v1 h1 => by rw [hk] at h1; cases h1⟩, fun q h1 _ => hF q h1⟩))
theorem m_La_sign : hw_mW y_La_sign b_La_sign 4 (some .int) [(0, 9, 12, 13)] 3 := ⟨w_644, w_0, by decide +kernel, by decide +kernel, w_643⟩
set_option maxHeartbeats 4000000 in
set_option maxRecDepth 100000 in
theorem c_La_sign (l : Launch) (hlt : l.stackTraces = false) (D : va_G) (t0 : Nat) (L : List Nat) (f : Nat → va_E) (sz : Nat) (o r fr : Nat → Nat) (ad al ab am ak ah aw ar rg wf : Nat) (σ : Sg) (wt : Nat → Nat) (i0 : Int32) (ao : Nat) (g : Nat → Int64) (hg : Gl o r fr ad al ab am ak ah aw ar rg wf) (hS : Sd D L f o r fr ad al ab am ak ah aw ar rg wf σ wt) (hok : Ok σ wt) (hao : hw_c L f ao (.inl (D.1 100, 1, .inr (.inl g)))) (hna : ¬ Al o r fr ad al ab am ak ah aw ar rg wf ao) : vx_Met l y_La_sign (Cond.codeWith y_La_sign b_La_sign 4 (some .int) [(0, 9, 12, 13)] :: TT) ({ frames := 8, cells := 1, slots := 6, locals := 151 } : Room) (hw_Pc t0 [.ref (wf), .int (i0), .ref (ao)] D L f sz) (hw_Q D L sz (fun oc L' f' => oc = .returned (some (.int (nI (if (aSgn σ i0).isSome then 0 else 1)))) ∧ L = L' ∧ Sd D L f' o r fr ad al ab am ak ah aw ar rg wf σ wt ∧ (∃ g', hw_c L f' ao (.inl (D.1 100, 1, .inr (.inl g'))) ∧ (∀ v0, aSgn σ i0 = some v0 → g' 0 = v0.toInt64)) ∧ ∀ q, ¬ Own o r fr ad al ab am ak ah aw ar rg wf q → q ≠ ao → f' q = f q)) (hw_X D L sz (fun _ _ _ => False)) 1 6 (hw_A L sz) := by
  refine vx_ofWH (cc := b_La_sign) (maxL := 4) (ret := (some .int)) (hh := [(0, 9, 12, 13)]) (by decide) rfl ?_
  intro p e s m args below meth c s₁ B hml hv
  obtain ⟨rfl, rfl, hI⟩ := hw_start hv
  clear hv
  have hx := B.exec
  have hb := B.bytes
  have hr := B.returns
  have hlocks := B.notSynchronized
  have hown : s.vm.findClass "WallFractionsLaw" = some m.cls := findClass_of_methodNamed B.named
  have hT : ∀ w ∈ TT, w.before ([.ref (wf), .int (i0), .ref (ao)]).toArray s = true := fun w h => atoms_spec (ws := (Cond.codeWith y_La_sign b_La_sign 4 (some .int) [(0, 9, 12, 13)] :: TT)) B.pre w (List.mem_cons_of_mem _ h)
  have S : CallFix p m c b_La_sign 4 s ([.ref (wf), .int (i0), .ref (ao)]).toArray TT "WallFractionsLaw" := ⟨hx, hb, hml, hown, hT⟩
  have htab : c.exceptionTable.toList = tableOf [(0, 9, 12, 13)] := vx_table (x := y_La_sign) B (atoms_spec (ws := (Cond.codeWith y_La_sign b_La_sign 4 (some .int) [(0, 9, 12, 13)] :: TT)) B.pre _ List.mem_cons_self)
  have hl := lv_entry ([.ref (wf), .int (i0), .ref (ao)]) (n := 4) (Nat.le_of_ble_eq_true rfl)
  rw [lg_entry_eq]
  generalize (lg_sl ([.ref (wf), .int (i0), .ref (ao)]) ++ List.replicate (4 - (lg_sl ([.ref (wf), .int (i0), .ref (ao)])).length) Slot.unset).toArray = ls at hl ⊢
  have hl : lv_has ls 4 [(0, .ref (wf)), (1, .int (i0)), (2, .ref (ao))] := hl
  have hno : ¬ Own o r fr ad al ab am ak ah aw ar rg wf ao := fun h => hna (Or.inl h)
  refine lv_aload_n hx hb d_La_sign_0 rfl (lv_at hl 2 rfl) ?_
  refine lv_iconst (v := nI 0) hx hb d_La_sign_1 (by decide) ?_
  refine lv_aload_n hx hb d_La_sign_2 rfl (lv_at hl 0 rfl) ?_
  refine lv_iload_n hx hb d_La_sign_3 rfl (lv_at hl 1 rfl) ?_
  refine hw_xV (As := [.int (i0)]) (rest := [.int (nI 0), .ref (ao)]) S hI m_Wf_sign w_645 (c_Wf_sign l hlt D t0 L _ _ o r fr ad al ab am ak ah aw ar rg wf σ wt i0 hg hS hok) hS.wfc rfl hl.1 rfl rfl (Nat.le_of_ble_eq_true rfl) d_La_sign_4 ⟨Nat.le_of_ble_eq_true rfl, Nat.le_of_ble_eq_true rfl⟩ ⟨Nat.le_of_ble_eq_true rfl, Nat.le_of_ble_eq_true rfl⟩ (fun v9 L9 f113 H locs hp hI => ?_) (fun E9 ce9 q9 L9 f113 H locs hp hI hc9 hv9 hl9 => ?_)
  · obtain ⟨⟨v0, hv9, hv0⟩, rfl, hS, hF⟩ := hp
    cases hv9
    refine hw_stk (st' := [.int (v0), .int (nI 0), .ref (ao)]) rfl ?_
    have hao := hw_c.fr hao (hF ao hno)
    refine lv_i2l hx hb d_La_sign_7 rfl ?_
    refine hw_last S.1 S.2.1 hI 0 hao rfl (vp_in_nI (show 0 < 1 by decide) (by decide)) d_La_sign_8 (fun H locs hI => ?_)
    have hS := hS.keep (f' := va_up f113 ao (.inl (D.1 100, 1, .inr (.inl (vp_updL g (nI 0).toNatClampNeg v0.toInt64))))) (fun q hq => ⟨hS.mem q hq, hw_up_ne (fun e => hna (e ▸ hq))⟩)
    refine lv_goto (tgt := 15) hx hb d_La_sign_9 (by decide) ?_
    refine lv_iconst (v := nI 0) hx hb d_La_sign_15 (by decide) ?_
    exact W.widen (k := 1) (n := 6) (Nat.le_of_ble_eq_true rfl) (Nat.le_of_ble_eq_true rfl) (vx_ret (hw_iret hx hb hr hlocks hI d_La_sign_16 ⟨by rw [hv0]; rfl, rfl, hS, ⟨_, hao.self, fun v1 h1 => by cases hv0.symm.trans h1; rfl⟩, fun q h1 h2 => (hw_up_ne h2).trans (hF q h1)⟩))
  · obtain ⟨hE, rfl, hS, hF⟩ := hp
    have hao := hw_c.fr hao (hF ao hno)
    obtain ⟨rfl, hk⟩ := hE
    refine hw_catch S hI htab [] (0, 9, 12, 13) [] rfl (fun z hz => absurd hz List.not_mem_nil) (by decide) (by decide) w_199 (by decide +kernel) hc9 hv9 hl9 ?_
    refine lv_astore_n (lv' := [(3, .ref (q9)), (0, .ref (wf)), (1, .int (i0)), (2, .ref (ao))]) hx hb d_La_sign_12 rfl hl (by decide) rfl (fun ls hl => ?_)
    refine lv_iconst (v := nI 1) hx hb d_La_sign_13 (by decide) ?_
    exact W.widen (k := 1) (n := 6) (Nat.le_of_ble_eq_true rfl) (Nat.le_of_ble_eq_true rfl) (vx_ret (hw_iret hx hb hr hlocks hI d_La_sign_14 ⟨by rw [hk]; rfl, rfl, hS, ⟨g, hao, fun v1 h1 => by rw [hk] at h1; cases h1⟩, fun q h1 _ => hF q h1⟩))
theorem m_La_digits : hw_mW y_La_digits b_La_digits 5 (some .int) [(0, 10, 13, 13)] 4 := ⟨w_656, w_0, by decide +kernel, by decide +kernel, w_655⟩
set_option maxHeartbeats 4000000 in
set_option maxRecDepth 100000 in
theorem c_La_digits (l : Launch) (hlt : l.stackTraces = false) (D : va_G) (t0 : Nat) (L : List Nat) (f : Nat → va_E) (sz : Nat) (o r fr : Nat → Nat) (ad al ab am ak ah aw ar rg wf : Nat) (σ : Sg) (wt : Nat → Nat) (i0 : Int32) (i1 : Int32) (ao : Nat) (g : Nat → Int64) (hg : Gl o r fr ad al ab am ak ah aw ar rg wf) (hS : Sd D L f o r fr ad al ab am ak ah aw ar rg wf σ wt) (hok : Ok σ wt) (hao : hw_c L f ao (.inl (D.1 100, 1, .inr (.inl g)))) (hna : ¬ Al o r fr ad al ab am ak ah aw ar rg wf ao) : vx_Met l y_La_digits (Cond.codeWith y_La_digits b_La_digits 5 (some .int) [(0, 10, 13, 13)] :: TT) ({ frames := 9, cells := 1, slots := 6, locals := 179 } : Room) (hw_Pc t0 [.ref (wf), .int (i0), .int (i1), .ref (ao)] D L f sz) (hw_Q D L sz (fun oc L' f' => oc = .returned (some (.int (nI (if (aDgs σ i0 i1).isSome then 0 else 1)))) ∧ L = L' ∧ Sd D L f' o r fr ad al ab am ak ah aw ar rg wf σ wt ∧ (∃ g', hw_c L f' ao (.inl (D.1 100, 1, .inr (.inl g'))) ∧ (∀ v0, aDgs σ i0 i1 = some v0 → g' 0 = v0.toInt64)) ∧ ∀ q, ¬ Own o r fr ad al ab am ak ah aw ar rg wf q → q ≠ ao → f' q = f q)) (hw_X D L sz (fun _ _ _ => False)) 1 6 (hw_A L sz) := by
  refine vx_ofWH (cc := b_La_digits) (maxL := 5) (ret := (some .int)) (hh := [(0, 10, 13, 13)]) (by decide) rfl ?_
  intro p e s m args below meth c s₁ B hml hv
  obtain ⟨rfl, rfl, hI⟩ := hw_start hv
  clear hv
  have hx := B.exec
  have hb := B.bytes
  have hr := B.returns
  have hlocks := B.notSynchronized
  have hown : s.vm.findClass "WallFractionsLaw" = some m.cls := findClass_of_methodNamed B.named
  have hT : ∀ w ∈ TT, w.before ([.ref (wf), .int (i0), .int (i1), .ref (ao)]).toArray s = true := fun w h => atoms_spec (ws := (Cond.codeWith y_La_digits b_La_digits 5 (some .int) [(0, 10, 13, 13)] :: TT)) B.pre w (List.mem_cons_of_mem _ h)
  have S : CallFix p m c b_La_digits 5 s ([.ref (wf), .int (i0), .int (i1), .ref (ao)]).toArray TT "WallFractionsLaw" := ⟨hx, hb, hml, hown, hT⟩
  have htab : c.exceptionTable.toList = tableOf [(0, 10, 13, 13)] := vx_table (x := y_La_digits) B (atoms_spec (ws := (Cond.codeWith y_La_digits b_La_digits 5 (some .int) [(0, 10, 13, 13)] :: TT)) B.pre _ List.mem_cons_self)
  have hl := lv_entry ([.ref (wf), .int (i0), .int (i1), .ref (ao)]) (n := 5) (Nat.le_of_ble_eq_true rfl)
  rw [lg_entry_eq]
  generalize (lg_sl ([.ref (wf), .int (i0), .int (i1), .ref (ao)]) ++ List.replicate (5 - (lg_sl ([.ref (wf), .int (i0), .int (i1), .ref (ao)])).length) Slot.unset).toArray = ls at hl ⊢
  have hl : lv_has ls 5 [(0, .ref (wf)), (1, .int (i0)), (2, .int (i1)), (3, .ref (ao))] := hl
  have hno : ¬ Own o r fr ad al ab am ak ah aw ar rg wf ao := fun h => hna (Or.inl h)
  refine lv_aload_n hx hb d_La_digits_0 rfl (lv_at hl 3 rfl) ?_
  refine lv_iconst (v := nI 0) hx hb d_La_digits_1 (by decide) ?_
  refine lv_aload_n hx hb d_La_digits_2 rfl (lv_at hl 0 rfl) ?_
  refine lv_iload_n hx hb d_La_digits_3 rfl (lv_at hl 1 rfl) ?_
  refine lv_iload_n hx hb d_La_digits_4 rfl (lv_at hl 2 rfl) ?_
  refine hw_xV (As := [.int (i0), .int (i1)]) (rest := [.int (nI 0), .ref (ao)]) S hI m_Wf_digits w_657 (c_Wf_digits l hlt D t0 L _ _ o r fr ad al ab am ak ah aw ar rg wf σ wt i0 i1 hg hS hok) hS.wfc rfl hl.1 rfl rfl (Nat.le_of_ble_eq_true rfl) d_La_digits_5 ⟨Nat.le_of_ble_eq_true rfl, Nat.le_of_ble_eq_true rfl⟩ ⟨Nat.le_of_ble_eq_true rfl, Nat.le_of_ble_eq_true rfl⟩ (fun v9 L9 f114 H locs hp hI => ?_) (fun E9 ce9 q9 L9 f114 H locs hp hI hc9 hv9 hl9 => ?_)
  · obtain ⟨⟨v0, hv9, hv0⟩, rfl, hS, hF⟩ := hp
    cases hv9
    refine hw_stk (st' := [.int (v0), .int (nI 0), .ref (ao)]) rfl ?_
    have hao := hw_c.fr hao (hF ao hno)
    refine lv_i2l hx hb d_La_digits_8 rfl ?_
    refine hw_last S.1 S.2.1 hI 0 hao rfl (vp_in_nI (show 0 < 1 by decide) (by decide)) d_La_digits_9 (fun H locs hI => ?_)
    have hS := hS.keep (f' := va_up f114 ao (.inl (D.1 100, 1, .inr (.inl (vp_updL g (nI 0).toNatClampNeg v0.toInt64))))) (fun q hq => ⟨hS.mem q hq, hw_up_ne (fun e => hna (e ▸ hq))⟩)
    refine lv_goto (tgt := 17) hx hb d_La_digits_10 (by decide) ?_
    refine lv_iconst (v := nI 0) hx hb d_La_digits_17 (by decide) ?_
    exact W.widen (k := 1) (n := 6) (Nat.le_of_ble_eq_true rfl) (Nat.le_of_ble_eq_true rfl) (vx_ret (hw_iret hx hb hr hlocks hI d_La_digits_18 ⟨by rw [hv0]; rfl, rfl, hS, ⟨_, hao.self, fun v1 h1 => by cases hv0.symm.trans h1; rfl⟩, fun q h1 h2 => (hw_up_ne h2).trans (hF q h1)⟩))
  · obtain ⟨hE, rfl, hS, hF⟩ := hp
    have hao := hw_c.fr hao (hF ao hno)
    obtain ⟨rfl, hk⟩ := hE
    refine hw_catch S hI htab [] (0, 10, 13, 13) [] rfl (fun z hz => absurd hz List.not_mem_nil) (by decide) (by decide) w_199 (by decide +kernel) hc9 hv9 hl9 ?_
    refine lv_astore (lv' := [(4, .ref (q9)), (0, .ref (wf)), (1, .int (i0)), (2, .int (i1)), (3, .ref (ao))]) hx hb d_La_digits_13 hl (by decide) rfl (fun ls hl => ?_)
    refine lv_iconst (v := nI 1) hx hb d_La_digits_15 (by decide) ?_
    exact W.widen (k := 1) (n := 6) (Nat.le_of_ble_eq_true rfl) (Nat.le_of_ble_eq_true rfl) (vx_ret (hw_iret hx hb hr hlocks hI d_La_digits_16 ⟨by rw [hk]; rfl, rfl, hS, ⟨g, hao, fun v1 h1 => by rw [hk] at h1; cases h1⟩, fun q h1 _ => hF q h1⟩))
theorem m_La_digit : hw_mW y_La_digit b_La_digit 6 (some .int) [(0, 12, 15, 13), (0, 12, 19, 64)] 5 := ⟨w_668, w_0, by decide +kernel, by decide +kernel, w_667⟩
set_option maxHeartbeats 4000000 in
set_option maxRecDepth 100000 in
theorem c_La_digit (l : Launch) (hlt : l.stackTraces = false) (D : va_G) (t0 : Nat) (L : List Nat) (f : Nat → va_E) (sz : Nat) (o r fr : Nat → Nat) (ad al ab am ak ah aw ar rg wf : Nat) (σ : Sg) (wt : Nat → Nat) (i0 : Int32) (i1 : Int32) (i2 : Int32) (ao : Nat) (g : Nat → Int64) (hg : Gl o r fr ad al ab am ak ah aw ar rg wf) (hS : Sd D L f o r fr ad al ab am ak ah aw ar rg wf σ wt) (hok : Ok σ wt) (hao : hw_c L f ao (.inl (D.1 100, 1, .inr (.inl g)))) (hna : ¬ Al o r fr ad al ab am ak ah aw ar rg wf ao) : vx_Met l y_La_digit (Cond.codeWith y_La_digit b_La_digit 6 (some .int) [(0, 12, 15, 13), (0, 12, 19, 64)] :: TT) ({ frames := 9, cells := 1, slots := 6, locals := 181 } : Room) (hw_Pc t0 [.ref (wf), .int (i0), .int (i1), .int (i2), .ref (ao)] D L f sz) (hw_Q D L sz (fun oc L' f' => oc = .returned (some (.int (nI (aDgt σ i0 i1 i2).1))) ∧ L = L' ∧ Sd D L f' o r fr ad al ab am ak ah aw ar rg wf σ wt ∧ (∃ g', hw_c L f' ao (.inl (D.1 100, 1, .inr (.inl g'))) ∧ ((aDgt σ i0 i1 i2).1 = 0 → g' 0 = ((aDgt σ i0 i1 i2).2).toInt64)) ∧ ∀ q, ¬ Own o r fr ad al ab am ak ah aw ar rg wf q → q ≠ ao → f' q = f q)) (hw_X D L sz (fun _ _ _ => False)) 1 6 (hw_A L sz) := by
  refine vx_ofWH (cc := b_La_digit) (maxL := 6) (ret := (some .int)) (hh := [(0, 12, 15, 13), (0, 12, 19, 64)]) (by decide) rfl ?_
  intro p e s m args below meth c s₁ B hml hv
  obtain ⟨rfl, rfl, hI⟩ := hw_start hv
  clear hv
  have hx := B.exec
  have hb := B.bytes
  have hr := B.returns
  have hlocks := B.notSynchronized
  have hown : s.vm.findClass "WallFractionsLaw" = some m.cls := findClass_of_methodNamed B.named
  have hT : ∀ w ∈ TT, w.before ([.ref (wf), .int (i0), .int (i1), .int (i2), .ref (ao)]).toArray s = true := fun w h => atoms_spec (ws := (Cond.codeWith y_La_digit b_La_digit 6 (some .int) [(0, 12, 15, 13), (0, 12, 19, 64)] :: TT)) B.pre w (List.mem_cons_of_mem _ h)
  have S : CallFix p m c b_La_digit 6 s ([.ref (wf), .int (i0), .int (i1), .int (i2), .ref (ao)]).toArray TT "WallFractionsLaw" := ⟨hx, hb, hml, hown, hT⟩
  have htab : c.exceptionTable.toList = tableOf [(0, 12, 15, 13), (0, 12, 19, 64)] := vx_table (x := y_La_digit) B (atoms_spec (ws := (Cond.codeWith y_La_digit b_La_digit 6 (some .int) [(0, 12, 15, 13), (0, 12, 19, 64)] :: TT)) B.pre _ List.mem_cons_self)
  have hl := lv_entry ([.ref (wf), .int (i0), .int (i1), .int (i2), .ref (ao)]) (n := 6) (Nat.le_of_ble_eq_true rfl)
  rw [lg_entry_eq]
  generalize (lg_sl ([.ref (wf), .int (i0), .int (i1), .int (i2), .ref (ao)]) ++ List.replicate (6 - (lg_sl ([.ref (wf), .int (i0), .int (i1), .int (i2), .ref (ao)])).length) Slot.unset).toArray = ls at hl ⊢
  have hl : lv_has ls 6 [(0, .ref (wf)), (1, .int (i0)), (2, .int (i1)), (3, .int (i2)), (4, .ref (ao))] := hl
  have hno : ¬ Own o r fr ad al ab am ak ah aw ar rg wf ao := fun h => hna (Or.inl h)
  refine lv_aload hx hb d_La_digit_0 (lv_at hl 4 rfl) ?_
  refine lv_iconst (v := nI 0) hx hb d_La_digit_2 (by decide) ?_
  refine lv_aload_n hx hb d_La_digit_3 rfl (lv_at hl 0 rfl) ?_
  refine lv_iload_n hx hb d_La_digit_4 rfl (lv_at hl 1 rfl) ?_
  refine lv_iload_n hx hb d_La_digit_5 rfl (lv_at hl 2 rfl) ?_
  refine lv_iload_n hx hb d_La_digit_6 rfl (lv_at hl 3 rfl) ?_
  refine hw_xV (As := [.int (i0), .int (i1), .int (i2)]) (rest := [.int (nI 0), .ref (ao)]) S hI m_Wf_digit w_670 (c_Wf_digit l hlt D t0 L _ _ o r fr ad al ab am ak ah aw ar rg wf σ wt i0 i1 i2 hg hS hok) hS.wfc rfl hl.1 rfl rfl (Nat.le_of_ble_eq_true rfl) d_La_digit_7 ⟨Nat.le_of_ble_eq_true rfl, Nat.le_of_ble_eq_true rfl⟩ ⟨Nat.le_of_ble_eq_true rfl, Nat.le_of_ble_eq_true rfl⟩ (fun v9 L9 f115 H locs hp hI => ?_) (fun E9 ce9 q9 L9 f115 H locs hp hI hc9 hv9 hl9 => ?_)
  · obtain ⟨⟨v0, hv9, hv0⟩, rfl, hS, hF⟩ := hp
    cases hv9
    refine hw_stk (st' := [.int (v0), .int (nI 0), .ref (ao)]) rfl ?_
    have hao := hw_c.fr hao (hF ao hno)
    refine lv_i2l hx hb d_La_digit_10 rfl ?_
    refine hw_last S.1 S.2.1 hI 0 hao rfl (vp_in_nI (show 0 < 1 by decide) (by decide)) d_La_digit_11 (fun H locs hI => ?_)
    have hS := hS.keep (f' := va_up f115 ao (.inl (D.1 100, 1, .inr (.inl (vp_updL g (nI 0).toNatClampNeg v0.toInt64))))) (fun q hq => ⟨hS.mem q hq, hw_up_ne (fun e => hna (e ▸ hq))⟩)
    refine lv_goto (tgt := 23) hx hb d_La_digit_12 (by decide) ?_
    refine lv_iconst (v := nI 0) hx hb d_La_digit_23 (by decide) ?_
    exact W.widen (k := 1) (n := 6) (Nat.le_of_ble_eq_true rfl) (Nat.le_of_ble_eq_true rfl) (vx_ret (hw_iret hx hb hr hlocks hI d_La_digit_24 ⟨by rw [hv0], rfl, hS, ⟨_, hao.self, fun _ => by rw [hv0]; rfl⟩, fun q h1 h2 => (hw_up_ne h2).trans (hF q h1)⟩))
  · obtain ⟨hE, rfl, hS, hF⟩ := hp
    have hao := hw_c.fr hao (hF ao hno)
    rcases hE with ⟨rfl, hk⟩ | ⟨rfl, hk⟩
    · refine hw_catch S hI htab [] (0, 12, 15, 13) [(0, 12, 19, 64)] rfl (fun z hz => absurd hz List.not_mem_nil) (by decide) (by decide) w_199 (by decide +kernel) hc9 hv9 hl9 ?_
      refine lv_astore (lv' := [(5, .ref (q9)), (0, .ref (wf)), (1, .int (i0)), (2, .int (i1)), (3, .int (i2)), (4, .ref (ao))]) hx hb d_La_digit_15 hl (by decide) rfl (fun ls hl => ?_)
      refine lv_iconst (v := nI 1) hx hb d_La_digit_17 (by decide) ?_
      exact W.widen (k := 1) (n := 6) (Nat.le_of_ble_eq_true rfl) (Nat.le_of_ble_eq_true rfl) (vx_ret (hw_iret hx hb hr hlocks hI d_La_digit_18 ⟨by rw [hk], rfl, hS, ⟨g, hao, fun h => absurd (hk.symm.trans h) (by decide)⟩, fun q h1 _ => hF q h1⟩))
    · refine hw_catch S hI htab [(0, 12, 15, 13)] (0, 12, 19, 64) [] rfl (fun z hz => by obtain rfl := List.mem_singleton.mp hz; exact ⟨by decide, "java/lang/IllegalArgumentException", w_199, by decide +kernel⟩) (by decide) (by decide) w_669 (by decide +kernel) hc9 hv9 hl9 ?_
      refine lv_astore (lv' := [(5, .ref (q9)), (0, .ref (wf)), (1, .int (i0)), (2, .int (i1)), (3, .int (i2)), (4, .ref (ao))]) hx hb d_La_digit_19 hl (by decide) rfl (fun ls hl => ?_)
      refine lv_iconst (v := nI 2) hx hb d_La_digit_21 (by decide) ?_
      exact W.widen (k := 1) (n := 6) (Nat.le_of_ble_eq_true rfl) (Nat.le_of_ble_eq_true rfl) (vx_ret (hw_iret hx hb hr hlocks hI d_La_digit_22 ⟨by rw [hk], rfl, hS, ⟨g, hao, fun h => absurd (hk.symm.trans h) (by decide)⟩, fun q h1 _ => hF q h1⟩))
theorem m_La_behind : hw_mW y_La_behind b_La_behind 5 (some .int) [(0, 10, 13, 13)] 4 := ⟨w_697, w_0, by decide +kernel, by decide +kernel, w_696⟩
set_option maxHeartbeats 4000000 in
set_option maxRecDepth 100000 in
theorem c_La_behind (l : Launch) (hlt : l.stackTraces = false) (D : va_G) (t0 : Nat) (L : List Nat) (f : Nat → va_E) (sz : Nat) (o r fr : Nat → Nat) (ad al ab am ak ah aw ar rg wf : Nat) (σ : Sg) (wt : Nat → Nat) (i0 : Int32) (i1 : Int32) (ao : Nat) (g : Nat → Int64) (hg : Gl o r fr ad al ab am ak ah aw ar rg wf) (hS : Sd D L f o r fr ad al ab am ak ah aw ar rg wf σ wt) (hok : Ok σ wt) (hao : hw_c L f ao (.inl (D.1 100, 1, .inr (.inl g)))) (hna : ¬ Al o r fr ad al ab am ak ah aw ar rg wf ao) : vx_Met l y_La_behind (Cond.codeWith y_La_behind b_La_behind 5 (some .int) [(0, 10, 13, 13)] :: TT) ({ frames := 11, cells := 1, slots := 6, locals := 237 } : Room) (hw_Pc t0 [.ref (wf), .int (i0), .int (i1), .ref (ao)] D L f sz) (hw_Q D L sz (fun oc L' f' => oc = .returned (some (.int (nI (if (aBeh σ i0 i1).isSome then 0 else 1)))) ∧ L = L' ∧ Sd D L f' o r fr ad al ab am ak ah aw ar rg wf σ wt ∧ (∃ g', hw_c L f' ao (.inl (D.1 100, 1, .inr (.inl g'))) ∧ (∀ v0, aBeh σ i0 i1 = some v0 → g' 0 = v0.toInt64)) ∧ ∀ q, ¬ Own o r fr ad al ab am ak ah aw ar rg wf q → q ≠ ao → f' q = f q)) (hw_X D L sz (fun _ _ _ => False)) 1 6 (hw_A L sz) := by
  refine vx_ofWH (cc := b_La_behind) (maxL := 5) (ret := (some .int)) (hh := [(0, 10, 13, 13)]) (by decide) rfl ?_
  intro p e s m args below meth c s₁ B hml hv
  obtain ⟨rfl, rfl, hI⟩ := hw_start hv
  clear hv
  have hx := B.exec
  have hb := B.bytes
  have hr := B.returns
  have hlocks := B.notSynchronized
  have hown : s.vm.findClass "WallFractionsLaw" = some m.cls := findClass_of_methodNamed B.named
  have hT : ∀ w ∈ TT, w.before ([.ref (wf), .int (i0), .int (i1), .ref (ao)]).toArray s = true := fun w h => atoms_spec (ws := (Cond.codeWith y_La_behind b_La_behind 5 (some .int) [(0, 10, 13, 13)] :: TT)) B.pre w (List.mem_cons_of_mem _ h)
  have S : CallFix p m c b_La_behind 5 s ([.ref (wf), .int (i0), .int (i1), .ref (ao)]).toArray TT "WallFractionsLaw" := ⟨hx, hb, hml, hown, hT⟩
  have htab : c.exceptionTable.toList = tableOf [(0, 10, 13, 13)] := vx_table (x := y_La_behind) B (atoms_spec (ws := (Cond.codeWith y_La_behind b_La_behind 5 (some .int) [(0, 10, 13, 13)] :: TT)) B.pre _ List.mem_cons_self)
  have hl := lv_entry ([.ref (wf), .int (i0), .int (i1), .ref (ao)]) (n := 5) (Nat.le_of_ble_eq_true rfl)
  rw [lg_entry_eq]
  generalize (lg_sl ([.ref (wf), .int (i0), .int (i1), .ref (ao)]) ++ List.replicate (5 - (lg_sl ([.ref (wf), .int (i0), .int (i1), .ref (ao)])).length) Slot.unset).toArray = ls at hl ⊢
  have hl : lv_has ls 5 [(0, .ref (wf)), (1, .int (i0)), (2, .int (i1)), (3, .ref (ao))] := hl
  have hno : ¬ Own o r fr ad al ab am ak ah aw ar rg wf ao := fun h => hna (Or.inl h)
  refine lv_aload_n hx hb d_La_behind_0 rfl (lv_at hl 3 rfl) ?_
  refine lv_iconst (v := nI 0) hx hb d_La_behind_1 (by decide) ?_
  refine lv_aload_n hx hb d_La_behind_2 rfl (lv_at hl 0 rfl) ?_
  refine lv_iload_n hx hb d_La_behind_3 rfl (lv_at hl 1 rfl) ?_
  refine lv_iload_n hx hb d_La_behind_4 rfl (lv_at hl 2 rfl) ?_
  refine hw_xV (As := [.int (i0), .int (i1)]) (rest := [.int (nI 0), .ref (ao)]) S hI m_Wf_behind w_698 (c_Wf_behind l hlt D t0 L _ _ o r fr ad al ab am ak ah aw ar rg wf σ wt i0 i1 hg hS hok) hS.wfc rfl hl.1 rfl rfl (Nat.le_of_ble_eq_true rfl) d_La_behind_5 ⟨Nat.le_of_ble_eq_true rfl, Nat.le_of_ble_eq_true rfl⟩ ⟨Nat.le_of_ble_eq_true rfl, Nat.le_of_ble_eq_true rfl⟩ (fun v9 L9 f116 H locs hp hI => ?_) (fun E9 ce9 q9 L9 f116 H locs hp hI hc9 hv9 hl9 => ?_)
  · obtain ⟨⟨v0, hv9, hv0⟩, rfl, hS, hF⟩ := hp
    cases hv9
    refine hw_stk (st' := [.int (v0), .int (nI 0), .ref (ao)]) rfl ?_
    have hao := hw_c.fr hao (hF ao hno)
    refine lv_i2l hx hb d_La_behind_8 rfl ?_
    refine hw_last S.1 S.2.1 hI 0 hao rfl (vp_in_nI (show 0 < 1 by decide) (by decide)) d_La_behind_9 (fun H locs hI => ?_)
    have hS := hS.keep (f' := va_up f116 ao (.inl (D.1 100, 1, .inr (.inl (vp_updL g (nI 0).toNatClampNeg v0.toInt64))))) (fun q hq => ⟨hS.mem q hq, hw_up_ne (fun e => hna (e ▸ hq))⟩)
    refine lv_goto (tgt := 17) hx hb d_La_behind_10 (by decide) ?_
    refine lv_iconst (v := nI 0) hx hb d_La_behind_17 (by decide) ?_
    exact W.widen (k := 1) (n := 6) (Nat.le_of_ble_eq_true rfl) (Nat.le_of_ble_eq_true rfl) (vx_ret (hw_iret hx hb hr hlocks hI d_La_behind_18 ⟨by rw [hv0]; rfl, rfl, hS, ⟨_, hao.self, fun v1 h1 => by cases hv0.symm.trans h1; rfl⟩, fun q h1 h2 => (hw_up_ne h2).trans (hF q h1)⟩))
  · obtain ⟨hE, rfl, hS, hF⟩ := hp
    have hao := hw_c.fr hao (hF ao hno)
    obtain ⟨rfl, hk⟩ := hE
    refine hw_catch S hI htab [] (0, 10, 13, 13) [] rfl (fun z hz => absurd hz List.not_mem_nil) (by decide) (by decide) w_199 (by decide +kernel) hc9 hv9 hl9 ?_
    refine lv_astore (lv' := [(4, .ref (q9)), (0, .ref (wf)), (1, .int (i0)), (2, .int (i1)), (3, .ref (ao))]) hx hb d_La_behind_13 hl (by decide) rfl (fun ls hl => ?_)
    refine lv_iconst (v := nI 1) hx hb d_La_behind_15 (by decide) ?_
    exact W.widen (k := 1) (n := 6) (Nat.le_of_ble_eq_true rfl) (Nat.le_of_ble_eq_true rfl) (vx_ret (hw_iret hx hb hr hlocks hI d_La_behind_16 ⟨by rw [hk]; rfl, rfl, hS, ⟨g, hao, fun v1 h1 => by rw [hk] at h1; cases h1⟩, fun q h1 _ => hF q h1⟩))
theorem m_La_modulo : hw_mW y_La_modulo b_La_modulo 6 (some .int) [(0, 12, 15, 13)] 5 := ⟨w_711, w_0, by decide +kernel, by decide +kernel, w_710⟩
set_option maxHeartbeats 4000000 in
set_option maxRecDepth 100000 in
theorem c_La_modulo (l : Launch) (hlt : l.stackTraces = false) (D : va_G) (t0 : Nat) (L : List Nat) (f : Nat → va_E) (sz : Nat) (o r fr : Nat → Nat) (ad al ab am ak ah aw ar rg wf : Nat) (σ : Sg) (wt : Nat → Nat) (i0 : Int32) (i1 : Int32) (i2 : Int32) (ao : Nat) (g : Nat → Int64) (hg : Gl o r fr ad al ab am ak ah aw ar rg wf) (hS : Sd D L f o r fr ad al ab am ak ah aw ar rg wf σ wt) (hok : Ok σ wt) (hao : hw_c L f ao (.inl (D.1 100, 1, .inr (.inl g)))) (hna : ¬ Al o r fr ad al ab am ak ah aw ar rg wf ao) : vx_Met l y_La_modulo (Cond.codeWith y_La_modulo b_La_modulo 6 (some .int) [(0, 12, 15, 13)] :: TT) ({ frames := 9, cells := 1, slots := 6, locals := 181 } : Room) (hw_Pc t0 [.ref (wf), .int (i0), .int (i1), .int (i2), .ref (ao)] D L f sz) (hw_Q D L sz (fun oc L' f' => oc = .returned (some (.int (nI (if (aMod σ i0 i1 i2).isSome then 0 else 1)))) ∧ L = L' ∧ Sd D L f' o r fr ad al ab am ak ah aw ar rg wf σ wt ∧ (∃ g', hw_c L f' ao (.inl (D.1 100, 1, .inr (.inl g'))) ∧ (∀ v0, aMod σ i0 i1 i2 = some v0 → g' 0 = v0.toInt64)) ∧ ∀ q, ¬ Own o r fr ad al ab am ak ah aw ar rg wf q → q ≠ ao → f' q = f q)) (hw_X D L sz (fun _ _ _ => False)) 1 6 (hw_A L sz) := by
  refine vx_ofWH (cc := b_La_modulo) (maxL := 6) (ret := (some .int)) (hh := [(0, 12, 15, 13)]) (by decide) rfl ?_
  intro p e s m args below meth c s₁ B hml hv
  obtain ⟨rfl, rfl, hI⟩ := hw_start hv
  clear hv
  have hx := B.exec
  have hb := B.bytes
  have hr := B.returns
  have hlocks := B.notSynchronized
  have hown : s.vm.findClass "WallFractionsLaw" = some m.cls := findClass_of_methodNamed B.named
  have hT : ∀ w ∈ TT, w.before ([.ref (wf), .int (i0), .int (i1), .int (i2), .ref (ao)]).toArray s = true := fun w h => atoms_spec (ws := (Cond.codeWith y_La_modulo b_La_modulo 6 (some .int) [(0, 12, 15, 13)] :: TT)) B.pre w (List.mem_cons_of_mem _ h)
  have S : CallFix p m c b_La_modulo 6 s ([.ref (wf), .int (i0), .int (i1), .int (i2), .ref (ao)]).toArray TT "WallFractionsLaw" := ⟨hx, hb, hml, hown, hT⟩
  have htab : c.exceptionTable.toList = tableOf [(0, 12, 15, 13)] := vx_table (x := y_La_modulo) B (atoms_spec (ws := (Cond.codeWith y_La_modulo b_La_modulo 6 (some .int) [(0, 12, 15, 13)] :: TT)) B.pre _ List.mem_cons_self)
  have hl := lv_entry ([.ref (wf), .int (i0), .int (i1), .int (i2), .ref (ao)]) (n := 6) (Nat.le_of_ble_eq_true rfl)
  rw [lg_entry_eq]
  generalize (lg_sl ([.ref (wf), .int (i0), .int (i1), .int (i2), .ref (ao)]) ++ List.replicate (6 - (lg_sl ([.ref (wf), .int (i0), .int (i1), .int (i2), .ref (ao)])).length) Slot.unset).toArray = ls at hl ⊢
  have hl : lv_has ls 6 [(0, .ref (wf)), (1, .int (i0)), (2, .int (i1)), (3, .int (i2)), (4, .ref (ao))] := hl
  have hno : ¬ Own o r fr ad al ab am ak ah aw ar rg wf ao := fun h => hna (Or.inl h)
  refine lv_aload hx hb d_La_modulo_0 (lv_at hl 4 rfl) ?_
  refine lv_iconst (v := nI 0) hx hb d_La_modulo_2 (by decide) ?_
  refine lv_aload_n hx hb d_La_modulo_3 rfl (lv_at hl 0 rfl) ?_
  refine lv_iload_n hx hb d_La_modulo_4 rfl (lv_at hl 1 rfl) ?_
  refine lv_iload_n hx hb d_La_modulo_5 rfl (lv_at hl 2 rfl) ?_
  refine lv_iload_n hx hb d_La_modulo_6 rfl (lv_at hl 3 rfl) ?_
  refine hw_xV (As := [.int (i0), .int (i1), .int (i2)]) (rest := [.int (nI 0), .ref (ao)]) S hI m_Wf_modulo w_712 (c_Wf_modulo l hlt D t0 L _ _ o r fr ad al ab am ak ah aw ar rg wf σ wt i0 i1 i2 hg hS hok) hS.wfc rfl hl.1 rfl rfl (Nat.le_of_ble_eq_true rfl) d_La_modulo_7 ⟨Nat.le_of_ble_eq_true rfl, Nat.le_of_ble_eq_true rfl⟩ ⟨Nat.le_of_ble_eq_true rfl, Nat.le_of_ble_eq_true rfl⟩ (fun v9 L9 f117 H locs hp hI => ?_) (fun E9 ce9 q9 L9 f117 H locs hp hI hc9 hv9 hl9 => ?_)
  · obtain ⟨⟨v0, hv9, hv0⟩, rfl, hS, hF⟩ := hp
    cases hv9
    refine hw_stk (st' := [.int (v0), .int (nI 0), .ref (ao)]) rfl ?_
    have hao := hw_c.fr hao (hF ao hno)
    refine lv_i2l hx hb d_La_modulo_10 rfl ?_
    refine hw_last S.1 S.2.1 hI 0 hao rfl (vp_in_nI (show 0 < 1 by decide) (by decide)) d_La_modulo_11 (fun H locs hI => ?_)
    have hS := hS.keep (f' := va_up f117 ao (.inl (D.1 100, 1, .inr (.inl (vp_updL g (nI 0).toNatClampNeg v0.toInt64))))) (fun q hq => ⟨hS.mem q hq, hw_up_ne (fun e => hna (e ▸ hq))⟩)
    refine lv_goto (tgt := 19) hx hb d_La_modulo_12 (by decide) ?_
    refine lv_iconst (v := nI 0) hx hb d_La_modulo_19 (by decide) ?_
    exact W.widen (k := 1) (n := 6) (Nat.le_of_ble_eq_true rfl) (Nat.le_of_ble_eq_true rfl) (vx_ret (hw_iret hx hb hr hlocks hI d_La_modulo_20 ⟨by rw [hv0]; rfl, rfl, hS, ⟨_, hao.self, fun v1 h1 => by cases hv0.symm.trans h1; rfl⟩, fun q h1 h2 => (hw_up_ne h2).trans (hF q h1)⟩))
  · obtain ⟨hE, rfl, hS, hF⟩ := hp
    have hao := hw_c.fr hao (hF ao hno)
    obtain ⟨rfl, hk⟩ := hE
    refine hw_catch S hI htab [] (0, 12, 15, 13) [] rfl (fun z hz => absurd hz List.not_mem_nil) (by decide) (by decide) w_199 (by decide +kernel) hc9 hv9 hl9 ?_
    refine lv_astore (lv' := [(5, .ref (q9)), (0, .ref (wf)), (1, .int (i0)), (2, .int (i1)), (3, .int (i2)), (4, .ref (ao))]) hx hb d_La_modulo_15 hl (by decide) rfl (fun ls hl => ?_)
    refine lv_iconst (v := nI 1) hx hb d_La_modulo_17 (by decide) ?_
    exact W.widen (k := 1) (n := 6) (Nat.le_of_ble_eq_true rfl) (Nat.le_of_ble_eq_true rfl) (vx_ret (hw_iret hx hb hr hlocks hI d_La_modulo_18 ⟨by rw [hk]; rfl, rfl, hS, ⟨g, hao, fun v1 h1 => by rw [hk] at h1; cases h1⟩, fun q h1 _ => hF q h1⟩))
theorem m_La_weight : hw_mW y_La_weight b_La_weight 5 (some .int) [(0, 10, 13, 13)] 4 := ⟨w_723, w_0, by decide +kernel, by decide +kernel, w_722⟩
set_option maxHeartbeats 4000000 in
set_option maxRecDepth 100000 in
theorem c_La_weight (l : Launch) (hlt : l.stackTraces = false) (D : va_G) (t0 : Nat) (L : List Nat) (f : Nat → va_E) (sz : Nat) (o r fr : Nat → Nat) (ad al ab am ak ah aw ar rg wf : Nat) (σ : Sg) (wt : Nat → Nat) (i0 : Int32) (i1 : Int32) (ao : Nat) (g : Nat → Int64) (hg : Gl o r fr ad al ab am ak ah aw ar rg wf) (hS : Sd D L f o r fr ad al ab am ak ah aw ar rg wf σ wt) (hok : Ok σ wt) (hao : hw_c L f ao (.inl (D.1 100, 1, .inr (.inl g)))) (hna : ¬ Al o r fr ad al ab am ak ah aw ar rg wf ao) : vx_Met l y_La_weight (Cond.codeWith y_La_weight b_La_weight 5 (some .int) [(0, 10, 13, 13)] :: TT) ({ frames := 8, cells := 1, slots := 6, locals := 157 } : Room) (hw_Pc t0 [.ref (wf), .int (i0), .int (i1), .ref (ao)] D L f sz) (hw_Q D L sz (fun oc L' f' => oc = .returned (some (.int (nI (if (aWgt wt i0 i1).isSome then 0 else 1)))) ∧ L = L' ∧ Sd D L f' o r fr ad al ab am ak ah aw ar rg wf σ (nWgt wt i0 i1) ∧ (∃ g', hw_c L f' ao (.inl (D.1 100, 1, .inr (.inl g'))) ∧ (∀ v0, aWgt wt i0 i1 = some v0 → g' 0 = v0.toInt64)) ∧ ∀ q, ¬ Own o r fr ad al ab am ak ah aw ar rg wf q → q ≠ ao → f' q = f q)) (hw_X D L sz (fun _ _ _ => False)) 1 6 (hw_A L sz) := by
  refine vx_ofWH (cc := b_La_weight) (maxL := 5) (ret := (some .int)) (hh := [(0, 10, 13, 13)]) (by decide) rfl ?_
  intro p e s m args below meth c s₁ B hml hv
  obtain ⟨rfl, rfl, hI⟩ := hw_start hv
  clear hv
  have hx := B.exec
  have hb := B.bytes
  have hr := B.returns
  have hlocks := B.notSynchronized
  have hown : s.vm.findClass "WallFractionsLaw" = some m.cls := findClass_of_methodNamed B.named
  have hT : ∀ w ∈ TT, w.before ([.ref (wf), .int (i0), .int (i1), .ref (ao)]).toArray s = true := fun w h => atoms_spec (ws := (Cond.codeWith y_La_weight b_La_weight 5 (some .int) [(0, 10, 13, 13)] :: TT)) B.pre w (List.mem_cons_of_mem _ h)
  have S : CallFix p m c b_La_weight 5 s ([.ref (wf), .int (i0), .int (i1), .ref (ao)]).toArray TT "WallFractionsLaw" := ⟨hx, hb, hml, hown, hT⟩
  have htab : c.exceptionTable.toList = tableOf [(0, 10, 13, 13)] := vx_table (x := y_La_weight) B (atoms_spec (ws := (Cond.codeWith y_La_weight b_La_weight 5 (some .int) [(0, 10, 13, 13)] :: TT)) B.pre _ List.mem_cons_self)
  have hl := lv_entry ([.ref (wf), .int (i0), .int (i1), .ref (ao)]) (n := 5) (Nat.le_of_ble_eq_true rfl)
  rw [lg_entry_eq]
  generalize (lg_sl ([.ref (wf), .int (i0), .int (i1), .ref (ao)]) ++ List.replicate (5 - (lg_sl ([.ref (wf), .int (i0), .int (i1), .ref (ao)])).length) Slot.unset).toArray = ls at hl ⊢
  have hl : lv_has ls 5 [(0, .ref (wf)), (1, .int (i0)), (2, .int (i1)), (3, .ref (ao))] := hl
  have hno : ¬ Own o r fr ad al ab am ak ah aw ar rg wf ao := fun h => hna (Or.inl h)
  refine lv_aload_n hx hb d_La_weight_0 rfl (lv_at hl 3 rfl) ?_
  refine lv_iconst (v := nI 0) hx hb d_La_weight_1 (by decide) ?_
  refine lv_aload_n hx hb d_La_weight_2 rfl (lv_at hl 0 rfl) ?_
  refine lv_iload_n hx hb d_La_weight_3 rfl (lv_at hl 1 rfl) ?_
  refine lv_iload_n hx hb d_La_weight_4 rfl (lv_at hl 2 rfl) ?_
  refine hw_xV (As := [.int (i0), .int (i1)]) (rest := [.int (nI 0), .ref (ao)]) S hI m_Wf_weight w_724 (c_Wf_weight l hlt D t0 L _ _ o r fr ad al ab am ak ah aw ar rg wf σ wt i0 i1 hg hS hok) hS.wfc rfl hl.1 rfl rfl (Nat.le_of_ble_eq_true rfl) d_La_weight_5 ⟨Nat.le_of_ble_eq_true rfl, Nat.le_of_ble_eq_true rfl⟩ ⟨Nat.le_of_ble_eq_true rfl, Nat.le_of_ble_eq_true rfl⟩ (fun v9 L9 f118 H locs hp hI => ?_) (fun E9 ce9 q9 L9 f118 H locs hp hI hc9 hv9 hl9 => ?_)
  · obtain ⟨⟨v0, hv9, hv0⟩, rfl, hS, hF⟩ := hp
    cases hv9
    refine hw_stk (st' := [.int (v0), .int (nI 0), .ref (ao)]) rfl ?_
    have hao := hw_c.fr hao (hF ao hno)
    refine lv_i2l hx hb d_La_weight_8 rfl ?_
    refine hw_last S.1 S.2.1 hI 0 hao rfl (vp_in_nI (show 0 < 1 by decide) (by decide)) d_La_weight_9 (fun H locs hI => ?_)
    have hS := hS.keep (f' := va_up f118 ao (.inl (D.1 100, 1, .inr (.inl (vp_updL g (nI 0).toNatClampNeg v0.toInt64))))) (fun q hq => ⟨hS.mem q hq, hw_up_ne (fun e => hna (e ▸ hq))⟩)
    refine lv_goto (tgt := 17) hx hb d_La_weight_10 (by decide) ?_
    refine lv_iconst (v := nI 0) hx hb d_La_weight_17 (by decide) ?_
    exact W.widen (k := 1) (n := 6) (Nat.le_of_ble_eq_true rfl) (Nat.le_of_ble_eq_true rfl) (vx_ret (hw_iret hx hb hr hlocks hI d_La_weight_18 ⟨by rw [hv0]; rfl, rfl, hS, ⟨_, hao.self, fun v1 h1 => by cases hv0.symm.trans h1; rfl⟩, fun q h1 h2 => (hw_up_ne h2).trans (hF q h1)⟩))
  · obtain ⟨hE, rfl, hS, hF⟩ := hp
    have hao := hw_c.fr hao (hF ao hno)
    obtain ⟨rfl, hk⟩ := hE
    refine hw_catch S hI htab [] (0, 10, 13, 13) [] rfl (fun z hz => absurd hz List.not_mem_nil) (by decide) (by decide) w_199 (by decide +kernel) hc9 hv9 hl9 ?_
    refine lv_astore (lv' := [(4, .ref (q9)), (0, .ref (wf)), (1, .int (i0)), (2, .int (i1)), (3, .ref (ao))]) hx hb d_La_weight_13 hl (by decide) rfl (fun ls hl => ?_)
    refine lv_iconst (v := nI 1) hx hb d_La_weight_15 (by decide) ?_
    exact W.widen (k := 1) (n := 6) (Nat.le_of_ble_eq_true rfl) (Nat.le_of_ble_eq_true rfl) (vx_ret (hw_iret hx hb hr hlocks hI d_La_weight_16 ⟨by rw [hk]; rfl, rfl, by rw [nWgt_none hk]; exact hS, ⟨g, hao, fun v1 h1 => by rw [hk] at h1; cases h1⟩, fun q h1 _ => hF q h1⟩))

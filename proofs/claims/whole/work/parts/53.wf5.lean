set_option maxHeartbeats 4000000 in
set_option maxRecDepth 100000 in
theorem c_Wf_compare (l : Launch) (hlt : l.stackTraces = false) (D : va_G) (t0 : Nat) (L : List Nat) (f : Nat → va_E) (sz : Nat) (o r fr : Nat → Nat) (ad al ab am ak ah aw ar rg wf : Nat) (σ : Sg) (wt : Nat → Nat) (i0 : Int32) (i1 : Int32) (hg : Gl o r fr ad al ab am ak ah aw ar rg wf) (hS : Sd D L f o r fr ad al ab am ak ah aw ar rg wf σ wt) (hok : Ok σ wt) : vx_Met l y_Wf_compare (Cond.code y_Wf_compare b_Wf_compare 3 (some .int) :: TT) ({ frames := 9, cells := 1, slots := 6, locals := 183 } : Room) (hw_Pc t0 [.ref (wf), .int (i0), .int (i1)] D L f sz) (hw_Q D L sz (fun oc L' f' => (∃ v0, oc = .returned (some (.int v0)) ∧ aCmp σ i0 i1 = some v0) ∧ L = L' ∧ Sd D L f' o r fr ad al ab am ak ah aw ar rg wf σ wt ∧ Fm o r fr ad al ab am ak ah aw ar rg wf f f')) (hw_X D L sz (fun E L' f' => (E = "java/lang/IllegalArgumentException" ∧ aCmp σ i0 i1 = none) ∧ L = L' ∧ Sd D L f' o r fr ad al ab am ak ah aw ar rg wf σ wt ∧ Fm o r fr ad al ab am ak ah aw ar rg wf f f')) 1 6 (hw_A L sz) := by
  refine vx_ofW (cc := b_Wf_compare) (maxL := 3) (ret := (some .int)) (by decide) rfl ?_
  intro p e s m args below meth c s₁ B hml hout hv
  obtain ⟨rfl, rfl, hI⟩ := hw_start hv
  clear hv
  have hx := B.exec
  have hb := B.bytes
  have hr := B.returns
  have hlocks := B.notSynchronized
  have hown : s.vm.findClass "WallFractions" = some m.cls := findClass_of_methodNamed B.named
  have hT : ∀ w ∈ TT, w.before ([.ref (wf), .int (i0), .int (i1)]).toArray s = true := fun w h => atoms_spec (ws := (Cond.code y_Wf_compare b_Wf_compare 3 (some .int) :: TT)) B.pre w (List.mem_cons_of_mem _ h)
  have S : CallFix p m c b_Wf_compare 3 s ([.ref (wf), .int (i0), .int (i1)]).toArray TT "WallFractions" := ⟨hx, hb, hml, hown, hT⟩
  have hl := lv_entry ([.ref (wf), .int (i0), .int (i1)]) (n := 3) (Nat.le_of_ble_eq_true rfl)
  rw [lg_entry_eq]
  generalize (lg_sl ([.ref (wf), .int (i0), .int (i1)]) ++ List.replicate (3 - (lg_sl ([.ref (wf), .int (i0), .int (i1)])).length) Slot.unset).toArray = ls at hl ⊢
  have hl : lv_has ls 3 [(0, .ref (wf)), (1, .int (i0)), (2, .int (i1))] := hl
  obtain ⟨x, sg, rs, hW, hR⟩ := hS
  have hY := hg.1
  have hF : Fm o r fr ad al ab am ak ah aw ar rg wf f f := Fm.refl
  have hs : ∀ z, z < 32 → x z = x z := fun _ _ => rfl
  have ht : ∀ k, k < 16 → sg k = sg k := fun _ _ => rfl
  have h20 := hok.h20 hR
  rcases hB0 : vr i0 with _ | _
  · refine lv_iload_n hx hb d_Wf_compare_0 rfl (lv_at hl 1 rfl) ?_
    have hop : aCmp σ i0 i1 = none := by unfold aCmp; exact if_neg (by simp [hB0])
    refine hw_xS (As := [.int (i0)]) (rest := []) S hI m_Wf_requireRegister w_205 (c_Wf_requireRegister_bad l hlt D t0 L _ _ i0 (vr_no hB0)) hl.1 rfl rfl (Nat.le_of_ble_eq_true rfl) d_Wf_compare_1 ⟨Nat.le_of_ble_eq_true rfl, Nat.le_of_ble_eq_true rfl⟩ ⟨Nat.le_of_ble_eq_true rfl, Nat.le_of_ble_eq_true rfl⟩ (fun v9 L9 f72 H locs hp hI => hp.elim) (fun E9 ce9 q9 L9 f72 H locs hp hI hc9 hv9 hl9 => ?_)
    obtain ⟨rfl, rfl, rfl⟩ := hp
    exact hw_on hI hout hlocks hc9 hv9 hl9 (⟨⟨rfl, hop⟩, rfl, ⟨x, sg, rs, hW, hR⟩, hF⟩) ⟨Nat.le_of_ble_eq_true rfl, Nat.le_of_ble_eq_true rfl⟩
  · obtain ⟨j0, hj0, rfl⟩ := vr_of hB0
    refine lv_iload_n hx hb d_Wf_compare_0 rfl (lv_at hl 1 rfl) ?_
    refine hw_cS (As := [.int (nI j0)]) (rest := []) S hI m_Wf_requireRegister w_205 (c_Wf_requireRegister_ok l D t0 L _ _ j0 hj0) hl.1 rfl rfl (Nat.le_of_ble_eq_true rfl) d_Wf_compare_1 ⟨Nat.le_of_ble_eq_true rfl, Nat.le_of_ble_eq_true rfl⟩ ⟨Nat.le_of_ble_eq_true rfl, Nat.le_of_ble_eq_true rfl⟩ (fun v9 L9 f73 H locs hp hI => ?_)
    refine W.cs (cells' := 0) (slots' := 0) rfl rfl ?_
    obtain ⟨hv9, rfl, rfl⟩ := hp
    cases hv9
    refine hw_stk (st' := []) rfl ?_
    rcases hB1 : vr i1 with _ | _
    · refine lv_iload_n hx hb d_Wf_compare_4 rfl (lv_at hl 2 rfl) ?_
      have hop : aCmp σ (nI j0) i1 = none := by unfold aCmp; exact if_neg (by simp [hB1])
      refine hw_xS (As := [.int (i1)]) (rest := []) S hI m_Wf_requireRegister w_205 (c_Wf_requireRegister_bad l hlt D t0 L _ _ i1 (vr_no hB1)) hl.1 rfl rfl (Nat.le_of_ble_eq_true rfl) d_Wf_compare_5 ⟨Nat.le_of_ble_eq_true rfl, Nat.le_of_ble_eq_true rfl⟩ ⟨Nat.le_of_ble_eq_true rfl, Nat.le_of_ble_eq_true rfl⟩ (fun v9 L9 f74 H locs hp hI => hp.elim) (fun E9 ce9 q9 L9 f74 H locs hp hI hc9 hv9 hl9 => ?_)
      obtain ⟨rfl, rfl, rfl⟩ := hp
      exact hw_on hI hout hlocks hc9 hv9 hl9 (⟨⟨rfl, hop⟩, rfl, ⟨x, sg, rs, hW, hR⟩, hF⟩) ⟨Nat.le_of_ble_eq_true rfl, Nat.le_of_ble_eq_true rfl⟩
    · obtain ⟨j1, hj1, rfl⟩ := vr_of hB1
      refine lv_iload_n hx hb d_Wf_compare_4 rfl (lv_at hl 2 rfl) ?_
      refine hw_cS (As := [.int (nI j1)]) (rest := []) S hI m_Wf_requireRegister w_205 (c_Wf_requireRegister_ok l D t0 L _ _ j1 hj1) hl.1 rfl rfl (Nat.le_of_ble_eq_true rfl) d_Wf_compare_5 ⟨Nat.le_of_ble_eq_true rfl, Nat.le_of_ble_eq_true rfl⟩ ⟨Nat.le_of_ble_eq_true rfl, Nat.le_of_ble_eq_true rfl⟩ (fun v9 L9 f75 H locs hp hI => ?_)
      refine W.cs (cells' := 0) (slots' := 0) rfl rfl ?_
      obtain ⟨hv9, rfl, rfl⟩ := hp
      cases hv9
      refine hw_stk (st' := []) rfl ?_
      have r00 : x (2 * j0) = (σ j0).1 := (hR j0 hj0).1
      have r01 : x (2 * j0 + 1) = (σ j0).2.1 := (hR j0 hj0).2.1
      have r02 : sg j0 = (σ j0).2.2 := (hR j0 hj0).2.2
      have r10 : x (2 * j1) = (σ j1).1 := (hR j1 hj1).1
      have r11 : x (2 * j1 + 1) = (σ j1).2.1 := (hR j1 hj1).2.1
      have r12 : sg j1 = (σ j1).2.2 := (hR j1 hj1).2.2
      have hOk := fun k hk => hok.1 k hk
      have hop : aCmp σ (nI j0) (nI j1) = some (ordF (σ j0).1 (σ j0).2.1 (σ j1).1 (σ j1).2.1 (σ j0).2.2 (σ j1).2.2) := by unfold aCmp; rw [if_pos (by simp [hB0, hB1]), ix_nI (j := j0) (by omega), ix_nI (j := j1) (by omega)]
      refine lv_aload_n hx hb d_Wf_compare_8 rfl (lv_at hl 0 rfl) ?_
      refine ob_get S hI hW.Wf (C := R_Wf) (T := F_Wf) (N := 3) (ref := "WallFractions") rfl i_Wf 1 (by decide) rfl w_187 rfl d_Wf_compare_9 ?_
      refine lv_aload_n hx hb d_Wf_compare_12 rfl (lv_at hl 0 rfl) ?_
      refine ob_get S hI hW.Wf (C := R_Wf) (T := F_Wf) (N := 3) (ref := "WallFractions") rfl i_Wf 0 (by decide) rfl w_186 rfl d_Wf_compare_13 ?_
      refine lv_iload_n hx hb d_Wf_compare_16 rfl (lv_at hl 1 rfl) ?_
      refine rg_ld S hI hW.Rg (by omega) d_Wf_compare_17 ?_
      refine lv_aload_n hx hb d_Wf_compare_18 rfl (lv_at hl 0 rfl) ?_
      refine ob_get S hI hW.Wf (C := R_Wf) (T := F_Wf) (N := 3) (ref := "WallFractions") rfl i_Wf 0 (by decide) rfl w_186 rfl d_Wf_compare_19 ?_
      refine lv_iload_n hx hb d_Wf_compare_22 rfl (lv_at hl 2 rfl) ?_
      refine rg_ld S hI hW.Rg (by omega) d_Wf_compare_23 ?_
      refine hw_cV (As := [.ref (fr j0), .ref (fr j1)]) (rest := []) S hI m_Rk_order w_638 (c_Rk_order l D t0 L _ _ o r fr ad al ab am ak ah aw ar rg wf x sg wt rs j0 j1 hg hW hj0 hj1 h20) hW.Rk rfl hl.1 rfl rfl (Nat.le_of_ble_eq_true rfl) d_Wf_compare_24 ⟨Nat.le_of_ble_eq_true rfl, Nat.le_of_ble_eq_true rfl⟩ ⟨Nat.le_of_ble_eq_true rfl, Nat.le_of_ble_eq_true rfl⟩ (fun v9 L9 f76 H locs hp hI => ?_)
      refine W.cs (cells' := 0) (slots' := 0) rfl rfl ?_
      obtain ⟨hv9, rfl, xo, hW, hs9, hF9⟩ := hp
      cases hv9
      refine hw_stk (st' := [.int (ordF (x (2 * j0)) (x (2 * j0 + 1)) (x (2 * j1)) (x (2 * j1 + 1)) (sg j0) (sg j1))]) rfl ?_
      have hF := hF.trans hF9
      exact W.widen (k := 1) (n := 6) (Nat.le_of_ble_eq_true rfl) (Nat.le_of_ble_eq_true rfl) (vx_ret (hw_iret hx hb hr hlocks hI d_Wf_compare_27 ⟨⟨_, rfl, by rw [hop, r00, r01, r02, r10, r11, r12]⟩, rfl, ⟨xo, sg, rs, hW, hR.keep hs9 (fun _ _ => rfl)⟩, hF⟩))
set_option maxHeartbeats 4000000 in
set_option maxRecDepth 100000 in
theorem c_Wf_sign (l : Launch) (hlt : l.stackTraces = false) (D : va_G) (t0 : Nat) (L : List Nat) (f : Nat → va_E) (sz : Nat) (o r fr : Nat → Nat) (ad al ab am ak ah aw ar rg wf : Nat) (σ : Sg) (wt : Nat → Nat) (i0 : Int32) (hg : Gl o r fr ad al ab am ak ah aw ar rg wf) (hS : Sd D L f o r fr ad al ab am ak ah aw ar rg wf σ wt) (hok : Ok σ wt) : vx_Met l y_Wf_sign (Cond.code y_Wf_sign b_Wf_sign 2 (some .int) :: TT) ({ frames := 7, cells := 1, slots := 6, locals := 130 } : Room) (hw_Pc t0 [.ref (wf), .int (i0)] D L f sz) (hw_Q D L sz (fun oc L' f' => (∃ v0, oc = .returned (some (.int v0)) ∧ aSgn σ i0 = some v0) ∧ L = L' ∧ Sd D L f' o r fr ad al ab am ak ah aw ar rg wf σ wt ∧ Fm o r fr ad al ab am ak ah aw ar rg wf f f')) (hw_X D L sz (fun E L' f' => (E = "java/lang/IllegalArgumentException" ∧ aSgn σ i0 = none) ∧ L = L' ∧ Sd D L f' o r fr ad al ab am ak ah aw ar rg wf σ wt ∧ Fm o r fr ad al ab am ak ah aw ar rg wf f f')) 1 6 (hw_A L sz) := by
  refine vx_ofW (cc := b_Wf_sign) (maxL := 2) (ret := (some .int)) (by decide) rfl ?_
  intro p e s m args below meth c s₁ B hml hout hv
  obtain ⟨rfl, rfl, hI⟩ := hw_start hv
  clear hv
  have hx := B.exec
  have hb := B.bytes
  have hr := B.returns
  have hlocks := B.notSynchronized
  have hown : s.vm.findClass "WallFractions" = some m.cls := findClass_of_methodNamed B.named
  have hT : ∀ w ∈ TT, w.before ([.ref (wf), .int (i0)]).toArray s = true := fun w h => atoms_spec (ws := (Cond.code y_Wf_sign b_Wf_sign 2 (some .int) :: TT)) B.pre w (List.mem_cons_of_mem _ h)
  have S : CallFix p m c b_Wf_sign 2 s ([.ref (wf), .int (i0)]).toArray TT "WallFractions" := ⟨hx, hb, hml, hown, hT⟩
  have hl := lv_entry ([.ref (wf), .int (i0)]) (n := 2) (Nat.le_of_ble_eq_true rfl)
  rw [lg_entry_eq]
  generalize (lg_sl ([.ref (wf), .int (i0)]) ++ List.replicate (2 - (lg_sl ([.ref (wf), .int (i0)])).length) Slot.unset).toArray = ls at hl ⊢
  have hl : lv_has ls 2 [(0, .ref (wf)), (1, .int (i0))] := hl
  obtain ⟨x, sg, rs, hW, hR⟩ := hS
  have hY := hg.1
  have hF : Fm o r fr ad al ab am ak ah aw ar rg wf f f := Fm.refl
  have hs : ∀ z, z < 32 → x z = x z := fun _ _ => rfl
  have ht : ∀ k, k < 16 → sg k = sg k := fun _ _ => rfl
  have h20 := hok.h20 hR
  rcases hB0 : vr i0 with _ | _
  · refine lv_iload_n hx hb d_Wf_sign_0 rfl (lv_at hl 1 rfl) ?_
    have hop : aSgn σ i0 = none := by unfold aSgn; exact if_neg (by simp [hB0])
    refine hw_xS (As := [.int (i0)]) (rest := []) S hI m_Wf_requireRegister w_205 (c_Wf_requireRegister_bad l hlt D t0 L _ _ i0 (vr_no hB0)) hl.1 rfl rfl (Nat.le_of_ble_eq_true rfl) d_Wf_sign_1 ⟨Nat.le_of_ble_eq_true rfl, Nat.le_of_ble_eq_true rfl⟩ ⟨Nat.le_of_ble_eq_true rfl, Nat.le_of_ble_eq_true rfl⟩ (fun v9 L9 f77 H locs hp hI => hp.elim) (fun E9 ce9 q9 L9 f77 H locs hp hI hc9 hv9 hl9 => ?_)
    obtain ⟨rfl, rfl, rfl⟩ := hp
    exact hw_on hI hout hlocks hc9 hv9 hl9 (⟨⟨rfl, hop⟩, rfl, ⟨x, sg, rs, hW, hR⟩, hF⟩) ⟨Nat.le_of_ble_eq_true rfl, Nat.le_of_ble_eq_true rfl⟩
  · obtain ⟨j0, hj0, rfl⟩ := vr_of hB0
    refine lv_iload_n hx hb d_Wf_sign_0 rfl (lv_at hl 1 rfl) ?_
    refine hw_cS (As := [.int (nI j0)]) (rest := []) S hI m_Wf_requireRegister w_205 (c_Wf_requireRegister_ok l D t0 L _ _ j0 hj0) hl.1 rfl rfl (Nat.le_of_ble_eq_true rfl) d_Wf_sign_1 ⟨Nat.le_of_ble_eq_true rfl, Nat.le_of_ble_eq_true rfl⟩ ⟨Nat.le_of_ble_eq_true rfl, Nat.le_of_ble_eq_true rfl⟩ (fun v9 L9 f78 H locs hp hI => ?_)
    refine W.cs (cells' := 0) (slots' := 0) rfl rfl ?_
    obtain ⟨hv9, rfl, rfl⟩ := hp
    cases hv9
    refine hw_stk (st' := []) rfl ?_
    have r00 : x (2 * j0) = (σ j0).1 := (hR j0 hj0).1
    have r01 : x (2 * j0 + 1) = (σ j0).2.1 := (hR j0 hj0).2.1
    have r02 : sg j0 = (σ j0).2.2 := (hR j0 hj0).2.2
    have hOk := fun k hk => hok.1 k hk
    have hop : aSgn σ (nI j0) = some (if (σ j0).1 = 0 then 0 else if (σ j0).2.2 then -1 else 1) := by unfold aSgn; rw [if_pos (by simp [hB0]), ix_nI (j := j0) (by omega)]
    refine lv_aload_n hx hb d_Wf_sign_4 rfl (lv_at hl 0 rfl) ?_
    refine ob_get S hI hW.Wf (C := R_Wf) (T := F_Wf) (N := 3) (ref := "WallFractions") rfl i_Wf 0 (by decide) rfl w_186 rfl d_Wf_sign_5 ?_
    refine lv_iload_n hx hb d_Wf_sign_8 rfl (lv_at hl 1 rfl) ?_
    refine rg_ld S hI hW.Rg (by omega) d_Wf_sign_9 ?_
    refine hw_cV (As := []) (rest := []) S hI m_Fr_direction w_649 (c_Fr_direction l D t0 L _ _ o r fr ad al ab am ak ah aw ar rg wf x sg wt rs j0 hg hW (by omega)) (hW.Fr (k := j0) (by omega)) rfl hl.1 rfl rfl (Nat.le_of_ble_eq_true rfl) d_Wf_sign_10 ⟨Nat.le_of_ble_eq_true rfl, Nat.le_of_ble_eq_true rfl⟩ ⟨Nat.le_of_ble_eq_true rfl, Nat.le_of_ble_eq_true rfl⟩ (fun v9 L9 f79 H locs hp hI => ?_)
    refine W.cs (cells' := 0) (slots' := 0) rfl rfl ?_
    obtain ⟨hv9, rfl, rfl⟩ := hp
    cases hv9
    refine hw_stk (st' := [.int (if x (2 * j0) = 0 then 0 else if sg j0 then -1 else 1)]) rfl ?_
    exact W.widen (k := 1) (n := 6) (Nat.le_of_ble_eq_true rfl) (Nat.le_of_ble_eq_true rfl) (vx_ret (hw_iret hx hb hr hlocks hI d_Wf_sign_13 ⟨⟨_, rfl, by rw [hop, r00, r02]⟩, rfl, ⟨x, sg, rs, hW, hR⟩, hF⟩))
theorem prt_x {σ : Sg} {x : Nat → Nat} {sg : Nat → Bool} (hR : Rp σ x sg) {a q : Nat} (ha : a < 16) (hq : q ≤ 1) : x (2 * a + q) = prt (σ a) (nI q) := by
  unfold prt
  rcases (show q = 0 ∨ q = 1 by omega) with h | h
  · subst h; exact (hR a ha).1
  · subst h; exact (hR a ha).2.1
set_option maxHeartbeats 4000000 in
set_option maxRecDepth 100000 in
theorem c_Wf_digits (l : Launch) (hlt : l.stackTraces = false) (D : va_G) (t0 : Nat) (L : List Nat) (f : Nat → va_E) (sz : Nat) (o r fr : Nat → Nat) (ad al ab am ak ah aw ar rg wf : Nat) (σ : Sg) (wt : Nat → Nat) (i0 : Int32) (i1 : Int32) (hg : Gl o r fr ad al ab am ak ah aw ar rg wf) (hS : Sd D L f o r fr ad al ab am ak ah aw ar rg wf σ wt) (hok : Ok σ wt) : vx_Met l y_Wf_digits (Cond.code y_Wf_digits b_Wf_digits 3 (some .int) :: TT) ({ frames := 8, cells := 1, slots := 6, locals := 157 } : Room) (hw_Pc t0 [.ref (wf), .int (i0), .int (i1)] D L f sz) (hw_Q D L sz (fun oc L' f' => (∃ v0, oc = .returned (some (.int v0)) ∧ aDgs σ i0 i1 = some v0) ∧ L = L' ∧ Sd D L f' o r fr ad al ab am ak ah aw ar rg wf σ wt ∧ Fm o r fr ad al ab am ak ah aw ar rg wf f f')) (hw_X D L sz (fun E L' f' => (E = "java/lang/IllegalArgumentException" ∧ aDgs σ i0 i1 = none) ∧ L = L' ∧ Sd D L f' o r fr ad al ab am ak ah aw ar rg wf σ wt ∧ Fm o r fr ad al ab am ak ah aw ar rg wf f f')) 1 6 (hw_A L sz) := by
  refine vx_ofW (cc := b_Wf_digits) (maxL := 3) (ret := (some .int)) (by decide) rfl ?_
  intro p e s m args below meth c s₁ B hml hout hv
  obtain ⟨rfl, rfl, hI⟩ := hw_start hv
  clear hv
  have hx := B.exec
  have hb := B.bytes
  have hr := B.returns
  have hlocks := B.notSynchronized
  have hown : s.vm.findClass "WallFractions" = some m.cls := findClass_of_methodNamed B.named
  have hT : ∀ w ∈ TT, w.before ([.ref (wf), .int (i0), .int (i1)]).toArray s = true := fun w h => atoms_spec (ws := (Cond.code y_Wf_digits b_Wf_digits 3 (some .int) :: TT)) B.pre w (List.mem_cons_of_mem _ h)
  have S : CallFix p m c b_Wf_digits 3 s ([.ref (wf), .int (i0), .int (i1)]).toArray TT "WallFractions" := ⟨hx, hb, hml, hown, hT⟩
  have hl := lv_entry ([.ref (wf), .int (i0), .int (i1)]) (n := 3) (Nat.le_of_ble_eq_true rfl)
  rw [lg_entry_eq]
  generalize (lg_sl ([.ref (wf), .int (i0), .int (i1)]) ++ List.replicate (3 - (lg_sl ([.ref (wf), .int (i0), .int (i1)])).length) Slot.unset).toArray = ls at hl ⊢
  have hl : lv_has ls 3 [(0, .ref (wf)), (1, .int (i0)), (2, .int (i1))] := hl
  obtain ⟨x, sg, rs, hW, hR⟩ := hS
  have hY := hg.1
  have hF : Fm o r fr ad al ab am ak ah aw ar rg wf f f := Fm.refl
  have hs : ∀ z, z < 32 → x z = x z := fun _ _ => rfl
  have ht : ∀ k, k < 16 → sg k = sg k := fun _ _ => rfl
  have h20 := hok.h20 hR
  rcases hB0 : (vr i0 && inR i1 0 1) with _ | _
  · refine lv_aload_n hx hb d_Wf_digits_0 rfl (lv_at hl 0 rfl) ?_
    refine lv_iload_n hx hb d_Wf_digits_1 rfl (lv_at hl 1 rfl) ?_
    refine lv_iload_n hx hb d_Wf_digits_2 rfl (lv_at hl 2 rfl) ?_
    have hop : aDgs σ i0 i1 = none := by unfold aDgs; exact if_neg (by simp [hB0])
    refine hw_xV (As := [.int (i0), .int (i1)]) (rest := []) S hI m_Wf_partOf w_661 (c_Wf_partOf_bad l hlt D t0 L _ _ o r fr ad al ab am ak ah aw ar rg wf x sg wt rs i0 i1 hg hW hB0) hW.Wf rfl hl.1 rfl rfl (Nat.le_of_ble_eq_true rfl) d_Wf_digits_3 ⟨Nat.le_of_ble_eq_true rfl, Nat.le_of_ble_eq_true rfl⟩ ⟨Nat.le_of_ble_eq_true rfl, Nat.le_of_ble_eq_true rfl⟩ (fun v9 L9 f80 H locs hp hI => hp.elim) (fun E9 ce9 q9 L9 f80 H locs hp hI hc9 hv9 hl9 => ?_)
    obtain ⟨rfl, rfl, rfl⟩ := hp
    exact hw_on hI hout hlocks hc9 hv9 hl9 (⟨⟨rfl, hop⟩, rfl, ⟨x, sg, rs, hW, hR⟩, hF⟩) ⟨Nat.le_of_ble_eq_true rfl, Nat.le_of_ble_eq_true rfl⟩
  · simp only [Bool.and_eq_true] at hB0
    obtain ⟨hB0, hB1⟩ := hB0
    obtain ⟨j0, hj0, rfl⟩ := vr_of hB0
    obtain ⟨j1, hl1, hj1, rfl⟩ := inR_of (by decide) (by decide) hB1
    refine lv_aload_n hx hb d_Wf_digits_0 rfl (lv_at hl 0 rfl) ?_
    refine lv_iload_n hx hb d_Wf_digits_1 rfl (lv_at hl 1 rfl) ?_
    refine lv_iload_n hx hb d_Wf_digits_2 rfl (lv_at hl 2 rfl) ?_
    refine hw_cV (As := [.int (nI j0), .int (nI j1)]) (rest := []) S hI m_Wf_partOf w_661 (c_Wf_partOf_ok l D t0 L _ _ o r fr ad al ab am ak ah aw ar rg wf x sg wt rs j0 j1 hg hW hj0 hj1) hW.Wf rfl hl.1 rfl rfl (Nat.le_of_ble_eq_true rfl) d_Wf_digits_3 ⟨Nat.le_of_ble_eq_true rfl, Nat.le_of_ble_eq_true rfl⟩ ⟨Nat.le_of_ble_eq_true rfl, Nat.le_of_ble_eq_true rfl⟩ (fun v9 L9 f81 H locs hp hI => ?_)
    refine W.cs (cells' := 0) (slots' := 0) rfl rfl ?_
    obtain ⟨hv9, rfl, rfl⟩ := hp
    cases hv9
    refine hw_stk (st' := [.ref (o (2 * j0 + j1))]) rfl ?_
    have hop : aDgs σ (nI j0) (nI j1) = some (nI (dl (prt (σ j0) (nI j1)))) := by unfold aDgs; rw [if_pos (by simp [hB0, hB1]), ix_nI (j := j0) (by omega)]
    have hp9 := prt_x hR hj0 hj1
    refine hw_cV (As := []) (rest := []) S hI m_Wh_decimalLength w_665 (c_Wh_decimalLength l D t0 L _ _ o r 46 x (2 * j0 + j1) (by omega) hY hW.N) (hW.rc (i := 2 * j0 + j1) (by omega)).choose_spec rfl hl.1 rfl rfl (Nat.le_of_ble_eq_true rfl) d_Wf_digits_6 ⟨Nat.le_of_ble_eq_true rfl, Nat.le_of_ble_eq_true rfl⟩ ⟨Nat.le_of_ble_eq_true rfl, Nat.le_of_ble_eq_true rfl⟩ (fun v9 L9 f82 H locs hp hI => ?_)
    refine W.cs (cells' := 0) (slots' := 0) rfl rfl ?_
    obtain ⟨⟨T, hv9, hdl, hT9⟩, rfl, rfl⟩ := hp
    cases hv9
    refine hw_stk (st' := [.int (nI T)]) rfl ?_
    rw [hp9] at hdl
    exact W.widen (k := 1) (n := 6) (Nat.le_of_ble_eq_true rfl) (Nat.le_of_ble_eq_true rfl) (vx_ret (hw_iret hx hb hr hlocks hI d_Wf_digits_9 ⟨⟨_, rfl, by rw [hop, dl_eq hdl]⟩, rfl, ⟨x, sg, rs, hW, hR⟩, hF⟩))
set_option maxHeartbeats 4000000 in
set_option maxRecDepth 100000 in
theorem c_Wf_behind (l : Launch) (hlt : l.stackTraces = false) (D : va_G) (t0 : Nat) (L : List Nat) (f : Nat → va_E) (sz : Nat) (o r fr : Nat → Nat) (ad al ab am ak ah aw ar rg wf : Nat) (σ : Sg) (wt : Nat → Nat) (i0 : Int32) (i1 : Int32) (hg : Gl o r fr ad al ab am ak ah aw ar rg wf) (hS : Sd D L f o r fr ad al ab am ak ah aw ar rg wf σ wt) (hok : Ok σ wt) : vx_Met l y_Wf_behind (Cond.code y_Wf_behind b_Wf_behind 3 (some .int) :: TT) ({ frames := 10, cells := 1, slots := 6, locals := 215 } : Room) (hw_Pc t0 [.ref (wf), .int (i0), .int (i1)] D L f sz) (hw_Q D L sz (fun oc L' f' => (∃ v0, oc = .returned (some (.int v0)) ∧ aBeh σ i0 i1 = some v0) ∧ L = L' ∧ Sd D L f' o r fr ad al ab am ak ah aw ar rg wf σ wt ∧ Fm o r fr ad al ab am ak ah aw ar rg wf f f')) (hw_X D L sz (fun E L' f' => (E = "java/lang/IllegalArgumentException" ∧ aBeh σ i0 i1 = none) ∧ L = L' ∧ Sd D L f' o r fr ad al ab am ak ah aw ar rg wf σ wt ∧ Fm o r fr ad al ab am ak ah aw ar rg wf f f')) 1 6 (hw_A L sz) := by
  refine vx_ofW (cc := b_Wf_behind) (maxL := 3) (ret := (some .int)) (by decide) rfl ?_
  intro p e s m args below meth c s₁ B hml hout hv
  obtain ⟨rfl, rfl, hI⟩ := hw_start hv
  clear hv
  have hx := B.exec
  have hb := B.bytes
  have hr := B.returns
  have hlocks := B.notSynchronized
  have hown : s.vm.findClass "WallFractions" = some m.cls := findClass_of_methodNamed B.named
  have hT : ∀ w ∈ TT, w.before ([.ref (wf), .int (i0), .int (i1)]).toArray s = true := fun w h => atoms_spec (ws := (Cond.code y_Wf_behind b_Wf_behind 3 (some .int) :: TT)) B.pre w (List.mem_cons_of_mem _ h)
  have S : CallFix p m c b_Wf_behind 3 s ([.ref (wf), .int (i0), .int (i1)]).toArray TT "WallFractions" := ⟨hx, hb, hml, hown, hT⟩
  have hl := lv_entry ([.ref (wf), .int (i0), .int (i1)]) (n := 3) (Nat.le_of_ble_eq_true rfl)
  rw [lg_entry_eq]
  generalize (lg_sl ([.ref (wf), .int (i0), .int (i1)]) ++ List.replicate (3 - (lg_sl ([.ref (wf), .int (i0), .int (i1)])).length) Slot.unset).toArray = ls at hl ⊢
  have hl : lv_has ls 3 [(0, .ref (wf)), (1, .int (i0)), (2, .int (i1))] := hl
  obtain ⟨x, sg, rs, hW, hR⟩ := hS
  have hY := hg.1
  have hF : Fm o r fr ad al ab am ak ah aw ar rg wf f f := Fm.refl
  have hs : ∀ z, z < 32 → x z = x z := fun _ _ => rfl
  have ht : ∀ k, k < 16 → sg k = sg k := fun _ _ => rfl
  have h20 := hok.h20 hR
  rcases hB0 : vr i0 with _ | _
  · refine lv_iload_n hx hb d_Wf_behind_0 rfl (lv_at hl 1 rfl) ?_
    have hop : aBeh σ i0 i1 = none := by unfold aBeh; exact if_neg (by simp [hB0])
    refine hw_xS (As := [.int (i0)]) (rest := []) S hI m_Wf_requireRegister w_205 (c_Wf_requireRegister_bad l hlt D t0 L _ _ i0 (vr_no hB0)) hl.1 rfl rfl (Nat.le_of_ble_eq_true rfl) d_Wf_behind_1 ⟨Nat.le_of_ble_eq_true rfl, Nat.le_of_ble_eq_true rfl⟩ ⟨Nat.le_of_ble_eq_true rfl, Nat.le_of_ble_eq_true rfl⟩ (fun v9 L9 f83 H locs hp hI => hp.elim) (fun E9 ce9 q9 L9 f83 H locs hp hI hc9 hv9 hl9 => ?_)
    obtain ⟨rfl, rfl, rfl⟩ := hp
    exact hw_on hI hout hlocks hc9 hv9 hl9 (⟨⟨rfl, hop⟩, rfl, ⟨x, sg, rs, hW, hR⟩, hF⟩) ⟨Nat.le_of_ble_eq_true rfl, Nat.le_of_ble_eq_true rfl⟩
  · obtain ⟨j0, hj0, rfl⟩ := vr_of hB0
    refine lv_iload_n hx hb d_Wf_behind_0 rfl (lv_at hl 1 rfl) ?_
    refine hw_cS (As := [.int (nI j0)]) (rest := []) S hI m_Wf_requireRegister w_205 (c_Wf_requireRegister_ok l D t0 L _ _ j0 hj0) hl.1 rfl rfl (Nat.le_of_ble_eq_true rfl) d_Wf_behind_1 ⟨Nat.le_of_ble_eq_true rfl, Nat.le_of_ble_eq_true rfl⟩ ⟨Nat.le_of_ble_eq_true rfl, Nat.le_of_ble_eq_true rfl⟩ (fun v9 L9 f84 H locs hp hI => ?_)
    refine W.cs (cells' := 0) (slots' := 0) rfl rfl ?_
    obtain ⟨hv9, rfl, rfl⟩ := hp
    cases hv9
    refine hw_stk (st' := []) rfl ?_
    rcases hB1 : inR i1 1 300 with _ | _
    · refine lv_iload_n hx hb d_Wf_behind_4 rfl (lv_at hl 2 rfl) ?_
      refine lv_i2l hx hb d_Wf_behind_5 rfl ?_
      refine lv_lconst (v := lN 1) hx hb d_Wf_behind_6 rfl ?_
      refine hw_ldc2 (v := lN 300) hx hb hown (hT _ w_702) d_Wf_behind_7 ?_
      have hop : aBeh σ (nI j0) i1 = none := by unfold aBeh; exact if_neg (by simp [hB1])
      refine hw_xS (As := [.long ((i1).toInt64), .long (lN 1), .long (lN 300)]) (rest := []) S hI m_Wf_requireWithin w_279 (c_Wf_requireWithin_bad l hlt D t0 L _ _ i1.toInt64 (lN 1) (lN 300) (inR_no (by decide) (by decide) hB1)) hl.1 rfl rfl (Nat.le_of_ble_eq_true rfl) d_Wf_behind_10 ⟨Nat.le_of_ble_eq_true rfl, Nat.le_of_ble_eq_true rfl⟩ ⟨Nat.le_of_ble_eq_true rfl, Nat.le_of_ble_eq_true rfl⟩ (fun v9 L9 f85 H locs hp hI => hp.elim) (fun E9 ce9 q9 L9 f85 H locs hp hI hc9 hv9 hl9 => ?_)
      obtain ⟨rfl, rfl, rfl⟩ := hp
      exact hw_on hI hout hlocks hc9 hv9 hl9 (⟨⟨rfl, hop⟩, rfl, ⟨x, sg, rs, hW, hR⟩, hF⟩) ⟨Nat.le_of_ble_eq_true rfl, Nat.le_of_ble_eq_true rfl⟩
    · obtain ⟨j1, hl1, hj1, rfl⟩ := inR_of (by decide) (by decide) hB1
      have hw9 := win_ok hl1 hj1 (by decide)
      refine lv_iload_n hx hb d_Wf_behind_4 rfl (lv_at hl 2 rfl) ?_
      refine lv_i2l (v := lN j1) hx hb d_Wf_behind_5 (nI_l (by omega)) ?_
      refine lv_lconst (v := lN 1) hx hb d_Wf_behind_6 rfl ?_
      refine hw_ldc2 (v := lN 300) hx hb hown (hT _ w_702) d_Wf_behind_7 ?_
      refine hw_cS (As := [.long (lN j1), .long (lN 1), .long (lN 300)]) (rest := []) S hI m_Wf_requireWithin w_279 (c_Wf_requireWithin_ok l D t0 L _ _ (lN j1) (lN 1) (lN 300) hw9.1 hw9.2) hl.1 rfl rfl (Nat.le_of_ble_eq_true rfl) d_Wf_behind_10 ⟨Nat.le_of_ble_eq_true rfl, Nat.le_of_ble_eq_true rfl⟩ ⟨Nat.le_of_ble_eq_true rfl, Nat.le_of_ble_eq_true rfl⟩ (fun v9 L9 f86 H locs hp hI => ?_)
      refine W.cs (cells' := 0) (slots' := 0) rfl rfl ?_
      obtain ⟨hv9, rfl, rfl⟩ := hp
      cases hv9
      refine hw_stk (st' := []) rfl ?_
      have r00 : x (2 * j0) = (σ j0).1 := (hR j0 hj0).1
      have r01 : x (2 * j0 + 1) = (σ j0).2.1 := (hR j0 hj0).2.1
      have r02 : sg j0 = (σ j0).2.2 := (hR j0 hj0).2.2
      have hOk := fun k hk => hok.1 k hk
      have hop : aBeh σ (nI j0) (nI j1) = some (nI ((σ j0).1 * 10 ^ j1 / (σ j0).2.1 % 10)) := by unfold aBeh; rw [if_pos (by simp [hB0, hB1]), ix_nI (j := j0) (by omega), nI_clamp (n := j1) (by omega)]
      refine lv_aload_n hx hb d_Wf_behind_13 rfl (lv_at hl 0 rfl) ?_
      refine ob_get S hI hW.Wf (C := R_Wf) (T := F_Wf) (N := 3) (ref := "WallFractions") rfl i_Wf 1 (by decide) rfl w_187 rfl d_Wf_behind_14 ?_
      refine lv_aload_n hx hb d_Wf_behind_17 rfl (lv_at hl 0 rfl) ?_
      refine ob_get S hI hW.Wf (C := R_Wf) (T := F_Wf) (N := 3) (ref := "WallFractions") rfl i_Wf 0 (by decide) rfl w_186 rfl d_Wf_behind_18 ?_
      refine lv_iload_n hx hb d_Wf_behind_21 rfl (lv_at hl 1 rfl) ?_
      refine rg_ld S hI hW.Rg (by omega) d_Wf_behind_22 ?_
      refine lv_iload_n hx hb d_Wf_behind_23 rfl (lv_at hl 2 rfl) ?_
      refine hw_cV (As := [.ref (fr j0), .int (nI j1)]) (rest := []) S hI m_Rk_decimalBehind w_703 (c_Rk_decimalBehind l D t0 L _ _ o r fr ad al ab am ak ah aw ar rg wf x sg wt rs j0 j1 hg hW hj0 hl1 hj1 h20 (by rw [r01]; exact (hOk j0 hj0).2.2.1)) hW.Rk rfl hl.1 rfl rfl (Nat.le_of_ble_eq_true rfl) d_Wf_behind_24 ⟨Nat.le_of_ble_eq_true rfl, Nat.le_of_ble_eq_true rfl⟩ ⟨Nat.le_of_ble_eq_true rfl, Nat.le_of_ble_eq_true rfl⟩ (fun v9 L9 f87 H locs hp hI => ?_)
      refine W.cs (cells' := 0) (slots' := 0) rfl rfl ?_
      obtain ⟨hv9, rfl, xo, hW, hs9, hF9⟩ := hp
      cases hv9
      refine hw_stk (st' := [.int (nI (x (2 * j0) * 10 ^ j1 / x (2 * j0 + 1) % 10))]) rfl ?_
      have hF := hF.trans hF9
      exact W.widen (k := 1) (n := 6) (Nat.le_of_ble_eq_true rfl) (Nat.le_of_ble_eq_true rfl) (vx_ret (hw_iret hx hb hr hlocks hI d_Wf_behind_27 ⟨⟨_, rfl, by rw [hop, r00, r01]⟩, rfl, ⟨xo, sg, rs, hW, hR.keep hs9 (fun _ _ => rfl)⟩, hF⟩))
set_option maxHeartbeats 4000000 in
set_option maxRecDepth 100000 in
theorem c_Wf_modulo (l : Launch) (hlt : l.stackTraces = false) (D : va_G) (t0 : Nat) (L : List Nat) (f : Nat → va_E) (sz : Nat) (o r fr : Nat → Nat) (ad al ab am ak ah aw ar rg wf : Nat) (σ : Sg) (wt : Nat → Nat) (i0 : Int32) (i1 : Int32) (i2 : Int32) (hg : Gl o r fr ad al ab am ak ah aw ar rg wf) (hS : Sd D L f o r fr ad al ab am ak ah aw ar rg wf σ wt) (hok : Ok σ wt) : vx_Met l y_Wf_modulo (Cond.code y_Wf_modulo b_Wf_modulo 5 (some .int) :: TT) ({ frames := 8, cells := 1, slots := 6, locals := 157 } : Room) (hw_Pc t0 [.ref (wf), .int (i0), .int (i1), .int (i2)] D L f sz) (hw_Q D L sz (fun oc L' f' => (∃ v0, oc = .returned (some (.int v0)) ∧ aMod σ i0 i1 i2 = some v0) ∧ L = L' ∧ Sd D L f' o r fr ad al ab am ak ah aw ar rg wf σ wt ∧ Fm o r fr ad al ab am ak ah aw ar rg wf f f')) (hw_X D L sz (fun E L' f' => (E = "java/lang/IllegalArgumentException" ∧ aMod σ i0 i1 i2 = none) ∧ L = L' ∧ Sd D L f' o r fr ad al ab am ak ah aw ar rg wf σ wt ∧ Fm o r fr ad al ab am ak ah aw ar rg wf f f')) 1 6 (hw_A L sz) := by
  refine vx_ofW (cc := b_Wf_modulo) (maxL := 5) (ret := (some .int)) (by decide) rfl ?_
  intro p e s m args below meth c s₁ B hml hout hv
  obtain ⟨rfl, rfl, hI⟩ := hw_start hv
  clear hv
  have hx := B.exec
  have hb := B.bytes
  have hr := B.returns
  have hlocks := B.notSynchronized
  have hown : s.vm.findClass "WallFractions" = some m.cls := findClass_of_methodNamed B.named
  have hT : ∀ w ∈ TT, w.before ([.ref (wf), .int (i0), .int (i1), .int (i2)]).toArray s = true := fun w h => atoms_spec (ws := (Cond.code y_Wf_modulo b_Wf_modulo 5 (some .int) :: TT)) B.pre w (List.mem_cons_of_mem _ h)
  have S : CallFix p m c b_Wf_modulo 5 s ([.ref (wf), .int (i0), .int (i1), .int (i2)]).toArray TT "WallFractions" := ⟨hx, hb, hml, hown, hT⟩
  have hl := lv_entry ([.ref (wf), .int (i0), .int (i1), .int (i2)]) (n := 5) (Nat.le_of_ble_eq_true rfl)
  rw [lg_entry_eq]
  generalize (lg_sl ([.ref (wf), .int (i0), .int (i1), .int (i2)]) ++ List.replicate (5 - (lg_sl ([.ref (wf), .int (i0), .int (i1), .int (i2)])).length) Slot.unset).toArray = ls at hl ⊢
  have hl : lv_has ls 5 [(0, .ref (wf)), (1, .int (i0)), (2, .int (i1)), (3, .int (i2))] := hl
  obtain ⟨x, sg, rs, hW, hR⟩ := hS
  have hY := hg.1
  have hF : Fm o r fr ad al ab am ak ah aw ar rg wf f f := Fm.refl
  have hs : ∀ z, z < 32 → x z = x z := fun _ _ => rfl
  have ht : ∀ k, k < 16 → sg k = sg k := fun _ _ => rfl
  have h20 := hok.h20 hR
  rcases hB0 : (vr i0 && inR i1 0 1) with _ | _
  · refine lv_aload_n hx hb d_Wf_modulo_0 rfl (lv_at hl 0 rfl) ?_
    refine lv_iload_n hx hb d_Wf_modulo_1 rfl (lv_at hl 1 rfl) ?_
    refine lv_iload_n hx hb d_Wf_modulo_2 rfl (lv_at hl 2 rfl) ?_
    have hop : aMod σ i0 i1 i2 = none := by unfold aMod; exact if_neg (by simp [hB0])
    refine hw_xV (As := [.int (i0), .int (i1)]) (rest := []) S hI m_Wf_partOf w_661 (c_Wf_partOf_bad l hlt D t0 L _ _ o r fr ad al ab am ak ah aw ar rg wf x sg wt rs i0 i1 hg hW hB0) hW.Wf rfl hl.1 rfl rfl (Nat.le_of_ble_eq_true rfl) d_Wf_modulo_3 ⟨Nat.le_of_ble_eq_true rfl, Nat.le_of_ble_eq_true rfl⟩ ⟨Nat.le_of_ble_eq_true rfl, Nat.le_of_ble_eq_true rfl⟩ (fun v9 L9 f88 H locs hp hI => hp.elim) (fun E9 ce9 q9 L9 f88 H locs hp hI hc9 hv9 hl9 => ?_)
    obtain ⟨rfl, rfl, rfl⟩ := hp
    exact hw_on hI hout hlocks hc9 hv9 hl9 (⟨⟨rfl, hop⟩, rfl, ⟨x, sg, rs, hW, hR⟩, hF⟩) ⟨Nat.le_of_ble_eq_true rfl, Nat.le_of_ble_eq_true rfl⟩
  · simp only [Bool.and_eq_true] at hB0
    obtain ⟨hB0, hB1⟩ := hB0
    obtain ⟨j0, hj0, rfl⟩ := vr_of hB0
    obtain ⟨j1, hl1, hj1, rfl⟩ := inR_of (by decide) (by decide) hB1
    refine lv_aload_n hx hb d_Wf_modulo_0 rfl (lv_at hl 0 rfl) ?_
    refine lv_iload_n hx hb d_Wf_modulo_1 rfl (lv_at hl 1 rfl) ?_
    refine lv_iload_n hx hb d_Wf_modulo_2 rfl (lv_at hl 2 rfl) ?_
    refine hw_cV (As := [.int (nI j0), .int (nI j1)]) (rest := []) S hI m_Wf_partOf w_661 (c_Wf_partOf_ok l D t0 L _ _ o r fr ad al ab am ak ah aw ar rg wf x sg wt rs j0 j1 hg hW hj0 hj1) hW.Wf rfl hl.1 rfl rfl (Nat.le_of_ble_eq_true rfl) d_Wf_modulo_3 ⟨Nat.le_of_ble_eq_true rfl, Nat.le_of_ble_eq_true rfl⟩ ⟨Nat.le_of_ble_eq_true rfl, Nat.le_of_ble_eq_true rfl⟩ (fun v9 L9 f89 H locs hp hI => ?_)
    refine W.cs (cells' := 0) (slots' := 0) rfl rfl ?_
    obtain ⟨hv9, rfl, rfl⟩ := hp
    cases hv9
    refine hw_stk (st' := [.ref (o (2 * j0 + j1))]) rfl ?_
    rcases hB2 : inR i2 1 1000000000 with _ | _
    · refine lv_astore (lv' := [(4, .ref (o (2 * j0 + j1))), (0, .ref (wf)), (1, .int (nI j0)), (2, .int (nI j1)), (3, .int (i2))]) hx hb d_Wf_modulo_6 hl (by decide) rfl (fun ls hl => ?_)
      refine lv_iload_n hx hb d_Wf_modulo_8 rfl (lv_at hl 4 rfl) ?_
      refine lv_i2l hx hb d_Wf_modulo_9 rfl ?_
      refine lv_lconst (v := lN 1) hx hb d_Wf_modulo_10 rfl ?_
      refine hw_ldc2 (v := lN 1000000000) hx hb hown (hT _ w_716) d_Wf_modulo_11 ?_
      have hop : aMod σ (nI j0) (nI j1) i2 = none := by unfold aMod; exact if_neg (by simp [hB2])
      refine hw_xS (As := [.long ((i2).toInt64), .long (lN 1), .long (lN 1000000000)]) (rest := []) S hI m_Wf_requireWithin w_279 (c_Wf_requireWithin_bad l hlt D t0 L _ _ i2.toInt64 (lN 1) (lN 1000000000) (inR_no (by decide) (by decide) hB2)) hl.1 rfl rfl (Nat.le_of_ble_eq_true rfl) d_Wf_modulo_14 ⟨Nat.le_of_ble_eq_true rfl, Nat.le_of_ble_eq_true rfl⟩ ⟨Nat.le_of_ble_eq_true rfl, Nat.le_of_ble_eq_true rfl⟩ (fun v9 L9 f90 H locs hp hI => hp.elim) (fun E9 ce9 q9 L9 f90 H locs hp hI hc9 hv9 hl9 => ?_)
      obtain ⟨rfl, rfl, rfl⟩ := hp
      exact hw_on hI hout hlocks hc9 hv9 hl9 (⟨⟨rfl, hop⟩, rfl, ⟨x, sg, rs, hW, hR⟩, hF⟩) ⟨Nat.le_of_ble_eq_true rfl, Nat.le_of_ble_eq_true rfl⟩
    · obtain ⟨j2, hl2, hj2, rfl⟩ := inR_of (by decide) (by decide) hB2
      have hw9 := win_ok hl2 hj2 (by decide)
      refine lv_astore (lv' := [(4, .ref (o (2 * j0 + j1))), (0, .ref (wf)), (1, .int (nI j0)), (2, .int (nI j1)), (3, .int (nI j2))]) hx hb d_Wf_modulo_6 hl (by decide) rfl (fun ls hl => ?_)
      refine lv_iload_n hx hb d_Wf_modulo_8 rfl (lv_at hl 4 rfl) ?_
      refine lv_i2l (v := lN j2) hx hb d_Wf_modulo_9 (nI_l (by omega)) ?_
      refine lv_lconst (v := lN 1) hx hb d_Wf_modulo_10 rfl ?_
      refine hw_ldc2 (v := lN 1000000000) hx hb hown (hT _ w_716) d_Wf_modulo_11 ?_
      refine hw_cS (As := [.long (lN j2), .long (lN 1), .long (lN 1000000000)]) (rest := []) S hI m_Wf_requireWithin w_279 (c_Wf_requireWithin_ok l D t0 L _ _ (lN j2) (lN 1) (lN 1000000000) hw9.1 hw9.2) hl.1 rfl rfl (Nat.le_of_ble_eq_true rfl) d_Wf_modulo_14 ⟨Nat.le_of_ble_eq_true rfl, Nat.le_of_ble_eq_true rfl⟩ ⟨Nat.le_of_ble_eq_true rfl, Nat.le_of_ble_eq_true rfl⟩ (fun v9 L9 f91 H locs hp hI => ?_)
      refine W.cs (cells' := 0) (slots' := 0) rfl rfl ?_
      obtain ⟨hv9, rfl, rfl⟩ := hp
      cases hv9
      refine hw_stk (st' := []) rfl ?_
      have hnB : nB = 1000000000 := rfl
      have hop : aMod σ (nI j0) (nI j1) (nI j2) = some (nI (prt (σ j0) (nI j1) % j2)) := by unfold aMod; rw [if_pos (by simp [hB0, hB1, hB2]), ix_nI (j := j0) (by omega), nI_clamp (n := j2) (by omega)]
      have hp9 := prt_x hR hj0 hj1
      refine lv_aload hx hb d_Wf_modulo_17 (lv_at hl 0 rfl) ?_
      refine lv_iload_n hx hb d_Wf_modulo_19 rfl (lv_at hl 4 rfl) ?_
      refine lv_i2l (v := lN j2) hx hb d_Wf_modulo_20 (nI_l (by omega)) ?_
      refine hw_cV (As := [.long (lN j2)]) (rest := []) S hI m_Wh_restBy w_717 (c_Wh_restBy l D t0 L _ _ o r 46 x (2 * j0 + j1) j2 (by omega) hY hW.N (by omega) (by omega)) (hW.rc (i := 2 * j0 + j1) (by omega)).choose_spec rfl hl.1 rfl rfl (Nat.le_of_ble_eq_true rfl) d_Wf_modulo_21 ⟨Nat.le_of_ble_eq_true rfl, Nat.le_of_ble_eq_true rfl⟩ ⟨Nat.le_of_ble_eq_true rfl, Nat.le_of_ble_eq_true rfl⟩ (fun v9 L9 f92 H locs hp hI => ?_)
      refine W.cs (cells' := 0) (slots' := 0) rfl rfl ?_
      obtain ⟨hv9, rfl, rfl⟩ := hp
      cases hv9
      refine hw_stk (st' := [.long (lN (x (2 * j0 + j1) % j2))]) rfl ?_
      refine lv_l2i (v := nI (x (2 * j0 + j1) % j2)) hx hb d_Wf_modulo_24 (lN_i _) ?_
      exact W.widen (k := 1) (n := 6) (Nat.le_of_ble_eq_true rfl) (Nat.le_of_ble_eq_true rfl) (vx_ret (hw_iret hx hb hr hlocks hI d_Wf_modulo_25 ⟨⟨_, rfl, by rw [hop, hp9]⟩, rfl, ⟨x, sg, rs, hW, hR⟩, hF⟩))
set_option maxHeartbeats 4000000 in
set_option maxRecDepth 100000 in
theorem c_Wf_weight (l : Launch) (hlt : l.stackTraces = false) (D : va_G) (t0 : Nat) (L : List Nat) (f : Nat → va_E) (sz : Nat) (o r fr : Nat → Nat) (ad al ab am ak ah aw ar rg wf : Nat) (σ : Sg) (wt : Nat → Nat) (i0 : Int32) (i1 : Int32) (hg : Gl o r fr ad al ab am ak ah aw ar rg wf) (hS : Sd D L f o r fr ad al ab am ak ah aw ar rg wf σ wt) (hok : Ok σ wt) : vx_Met l y_Wf_weight (Cond.code y_Wf_weight b_Wf_weight 3 (some .int) :: TT) ({ frames := 7, cells := 1, slots := 6, locals := 135 } : Room) (hw_Pc t0 [.ref (wf), .int (i0), .int (i1)] D L f sz) (hw_Q D L sz (fun oc L' f' => (∃ v0, oc = .returned (some (.int v0)) ∧ aWgt wt i0 i1 = some v0) ∧ L = L' ∧ Sd D L f' o r fr ad al ab am ak ah aw ar rg wf σ (nWgt wt i0 i1) ∧ Fm o r fr ad al ab am ak ah aw ar rg wf f f')) (hw_X D L sz (fun E L' f' => (E = "java/lang/IllegalArgumentException" ∧ aWgt wt i0 i1 = none) ∧ L = L' ∧ Sd D L f' o r fr ad al ab am ak ah aw ar rg wf σ wt ∧ Fm o r fr ad al ab am ak ah aw ar rg wf f f')) 1 6 (hw_A L sz) := by
  refine vx_ofW (cc := b_Wf_weight) (maxL := 3) (ret := (some .int)) (by decide) rfl ?_
  intro p e s m args below meth c s₁ B hml hout hv
  obtain ⟨rfl, rfl, hI⟩ := hw_start hv
  clear hv
  have hx := B.exec
  have hb := B.bytes
  have hr := B.returns
  have hlocks := B.notSynchronized
  have hown : s.vm.findClass "WallFractions" = some m.cls := findClass_of_methodNamed B.named
  have hT : ∀ w ∈ TT, w.before ([.ref (wf), .int (i0), .int (i1)]).toArray s = true := fun w h => atoms_spec (ws := (Cond.code y_Wf_weight b_Wf_weight 3 (some .int) :: TT)) B.pre w (List.mem_cons_of_mem _ h)
  have S : CallFix p m c b_Wf_weight 3 s ([.ref (wf), .int (i0), .int (i1)]).toArray TT "WallFractions" := ⟨hx, hb, hml, hown, hT⟩
  have hl := lv_entry ([.ref (wf), .int (i0), .int (i1)]) (n := 3) (Nat.le_of_ble_eq_true rfl)
  rw [lg_entry_eq]
  generalize (lg_sl ([.ref (wf), .int (i0), .int (i1)]) ++ List.replicate (3 - (lg_sl ([.ref (wf), .int (i0), .int (i1)])).length) Slot.unset).toArray = ls at hl ⊢
  have hl : lv_has ls 3 [(0, .ref (wf)), (1, .int (i0)), (2, .int (i1))] := hl
  obtain ⟨x, sg, rs, hW, hR⟩ := hS
  have hY := hg.1
  have hF : Fm o r fr ad al ab am ak ah aw ar rg wf f f := Fm.refl
  have hs : ∀ z, z < 32 → x z = x z := fun _ _ => rfl
  have ht : ∀ k, k < 16 → sg k = sg k := fun _ _ => rfl
  have h20 := hok.h20 hR
  rcases hB0 : inR i0 0 9 with _ | _
  · refine lv_iload_n hx hb d_Wf_weight_0 rfl (lv_at hl 1 rfl) ?_
    refine lv_i2l hx hb d_Wf_weight_1 rfl ?_
    refine lv_lconst (v := lN 0) hx hb d_Wf_weight_2 rfl ?_
    refine hw_ldc2 (v := lN 9) hx hb hown (hT _ w_728) d_Wf_weight_3 ?_
    have hop : aWgt wt i0 i1 = none := by unfold aWgt; exact if_neg (by simp [hB0])
    refine hw_xS (As := [.long ((i0).toInt64), .long (lN 0), .long (lN 9)]) (rest := []) S hI m_Wf_requireWithin w_279 (c_Wf_requireWithin_bad l hlt D t0 L _ _ i0.toInt64 (lN 0) (lN 9) (inR_no (by decide) (by decide) hB0)) hl.1 rfl rfl (Nat.le_of_ble_eq_true rfl) d_Wf_weight_6 ⟨Nat.le_of_ble_eq_true rfl, Nat.le_of_ble_eq_true rfl⟩ ⟨Nat.le_of_ble_eq_true rfl, Nat.le_of_ble_eq_true rfl⟩ (fun v9 L9 f93 H locs hp hI => hp.elim) (fun E9 ce9 q9 L9 f93 H locs hp hI hc9 hv9 hl9 => ?_)
    obtain ⟨rfl, rfl, rfl⟩ := hp
    exact hw_on hI hout hlocks hc9 hv9 hl9 (⟨⟨rfl, hop⟩, rfl, ⟨x, sg, rs, hW, hR⟩, hF⟩) ⟨Nat.le_of_ble_eq_true rfl, Nat.le_of_ble_eq_true rfl⟩
  · obtain ⟨j0, hl0, hj0, rfl⟩ := inR_of (by decide) (by decide) hB0
    have hw9 := win_ok hl0 hj0 (by decide)
    refine lv_iload_n hx hb d_Wf_weight_0 rfl (lv_at hl 1 rfl) ?_
    refine lv_i2l (v := lN j0) hx hb d_Wf_weight_1 (nI_l (by omega)) ?_
    refine lv_lconst (v := lN 0) hx hb d_Wf_weight_2 rfl ?_
    refine hw_ldc2 (v := lN 9) hx hb hown (hT _ w_728) d_Wf_weight_3 ?_
    refine hw_cS (As := [.long (lN j0), .long (lN 0), .long (lN 9)]) (rest := []) S hI m_Wf_requireWithin w_279 (c_Wf_requireWithin_ok l D t0 L _ _ (lN j0) (lN 0) (lN 9) hw9.1 hw9.2) hl.1 rfl rfl (Nat.le_of_ble_eq_true rfl) d_Wf_weight_6 ⟨Nat.le_of_ble_eq_true rfl, Nat.le_of_ble_eq_true rfl⟩ ⟨Nat.le_of_ble_eq_true rfl, Nat.le_of_ble_eq_true rfl⟩ (fun v9 L9 f94 H locs hp hI => ?_)
    refine W.cs (cells' := 0) (slots' := 0) rfl rfl ?_
    obtain ⟨hv9, rfl, rfl⟩ := hp
    cases hv9
    refine hw_stk (st' := []) rfl ?_
    rcases hB1 : inR i1 0 1000000000 with _ | _
    · refine lv_iload_n hx hb d_Wf_weight_9 rfl (lv_at hl 2 rfl) ?_
      refine lv_i2l hx hb d_Wf_weight_10 rfl ?_
      refine lv_lconst (v := lN 0) hx hb d_Wf_weight_11 rfl ?_
      refine hw_ldc2 (v := lN 1000000000) hx hb hown (hT _ w_716) d_Wf_weight_12 ?_
      have hop : aWgt wt (nI j0) i1 = none := by unfold aWgt; exact if_neg (by simp [hB1])
      refine hw_xS (As := [.long ((i1).toInt64), .long (lN 0), .long (lN 1000000000)]) (rest := []) S hI m_Wf_requireWithin w_279 (c_Wf_requireWithin_bad l hlt D t0 L _ _ i1.toInt64 (lN 0) (lN 1000000000) (inR_no (by decide) (by decide) hB1)) hl.1 rfl rfl (Nat.le_of_ble_eq_true rfl) d_Wf_weight_15 ⟨Nat.le_of_ble_eq_true rfl, Nat.le_of_ble_eq_true rfl⟩ ⟨Nat.le_of_ble_eq_true rfl, Nat.le_of_ble_eq_true rfl⟩ (fun v9 L9 f95 H locs hp hI => hp.elim) (fun E9 ce9 q9 L9 f95 H locs hp hI hc9 hv9 hl9 => ?_)
      obtain ⟨rfl, rfl, rfl⟩ := hp
      exact hw_on hI hout hlocks hc9 hv9 hl9 (⟨⟨rfl, hop⟩, rfl, ⟨x, sg, rs, hW, hR⟩, hF⟩) ⟨Nat.le_of_ble_eq_true rfl, Nat.le_of_ble_eq_true rfl⟩
    · obtain ⟨j1, hl1, hj1, rfl⟩ := inR_of (by decide) (by decide) hB1
      have hw9 := win_ok hl1 hj1 (by decide)
      refine lv_iload_n hx hb d_Wf_weight_9 rfl (lv_at hl 2 rfl) ?_
      refine lv_i2l (v := lN j1) hx hb d_Wf_weight_10 (nI_l (by omega)) ?_
      refine lv_lconst (v := lN 0) hx hb d_Wf_weight_11 rfl ?_
      refine hw_ldc2 (v := lN 1000000000) hx hb hown (hT _ w_716) d_Wf_weight_12 ?_
      refine hw_cS (As := [.long (lN j1), .long (lN 0), .long (lN 1000000000)]) (rest := []) S hI m_Wf_requireWithin w_279 (c_Wf_requireWithin_ok l D t0 L _ _ (lN j1) (lN 0) (lN 1000000000) hw9.1 hw9.2) hl.1 rfl rfl (Nat.le_of_ble_eq_true rfl) d_Wf_weight_15 ⟨Nat.le_of_ble_eq_true rfl, Nat.le_of_ble_eq_true rfl⟩ ⟨Nat.le_of_ble_eq_true rfl, Nat.le_of_ble_eq_true rfl⟩ (fun v9 L9 f96 H locs hp hI => ?_)
      refine W.cs (cells' := 0) (slots' := 0) rfl rfl ?_
      obtain ⟨hv9, rfl, rfl⟩ := hp
      cases hv9
      refine hw_stk (st' := []) rfl ?_
      have hop : aWgt wt (nI j0) (nI j1) = some (nI (wt j0)) := by unfold aWgt; rw [if_pos (by simp [hB0, hB1]), nI_clamp (n := j0) (by omega)]
      have hnw : nWgt wt (nI j0) (nI j1) = va_up wt j0 j1 := by unfold nWgt; rw [if_pos (by simp [hB0, hB1]), nI_clamp (by omega), nI_clamp (by omega)]
      refine lv_aload_n hx hb d_Wf_weight_18 rfl (lv_at hl 0 rfl) ?_
      refine ob_get S hI hW.Wf (C := R_Wf) (T := F_Wf) (N := 3) (ref := "WallFractions") rfl i_Wf 2 (by decide) rfl w_188 rfl d_Wf_weight_19 ?_
      refine lv_iload_n hx hb d_Wf_weight_22 rfl (lv_at hl 1 rfl) ?_
      refine lv_iload_n hx hb d_Wf_weight_23 rfl (lv_at hl 2 rfl) ?_
      refine hw_cV (As := [.int (nI j0), .int (nI j1)]) (rest := []) S hI m_Sh_exchange w_729 (c_Sh_exchange l D t0 L _ _ o r fr ad al ab am ak ah aw ar rg wf x sg wt rs j0 j1 hg hW (by omega)) hW.Sh rfl hl.1 rfl rfl (Nat.le_of_ble_eq_true rfl) d_Wf_weight_24 ⟨Nat.le_of_ble_eq_true rfl, Nat.le_of_ble_eq_true rfl⟩ ⟨Nat.le_of_ble_eq_true rfl, Nat.le_of_ble_eq_true rfl⟩ (fun v9 L9 f97 H locs hp hI => ?_)
      refine W.cs (cells' := 0) (slots' := 0) rfl rfl ?_
      obtain ⟨hv9, rfl, hW, hF9⟩ := hp
      cases hv9
      refine hw_stk (st' := [.int (nI (wt j0))]) rfl ?_
      have hF := hF.trans hF9
      exact W.widen (k := 1) (n := 6) (Nat.le_of_ble_eq_true rfl) (Nat.le_of_ble_eq_true rfl) (vx_ret (hw_iret hx hb hr hlocks hI d_Wf_weight_27 ⟨⟨_, rfl, by rw [hop]⟩, rfl, ⟨x, sg, rs, by rw [hnw]; exact hW, hR⟩, hF⟩))
set_option maxHeartbeats 4000000 in
set_option maxRecDepth 100000 in
theorem c_Wf_digit (l : Launch) (hlt : l.stackTraces = false) (D : va_G) (t0 : Nat) (L : List Nat) (f : Nat → va_E) (sz : Nat) (o r fr : Nat → Nat) (ad al ab am ak ah aw ar rg wf : Nat) (σ : Sg) (wt : Nat → Nat) (i0 : Int32) (i1 : Int32) (i2 : Int32) (hg : Gl o r fr ad al ab am ak ah aw ar rg wf) (hS : Sd D L f o r fr ad al ab am ak ah aw ar rg wf σ wt) (hok : Ok σ wt) : vx_Met l y_Wf_digit (Cond.code y_Wf_digit b_Wf_digit 5 (some .int) :: TT) ({ frames := 8, cells := 1, slots := 6, locals := 157 } : Room) (hw_Pc t0 [.ref (wf), .int (i0), .int (i1), .int (i2)] D L f sz) (hw_Q D L sz (fun oc L' f' => (∃ v0, oc = .returned (some (.int v0)) ∧ aDgt σ i0 i1 i2 = (0, v0)) ∧ L = L' ∧ Sd D L f' o r fr ad al ab am ak ah aw ar rg wf σ wt ∧ Fm o r fr ad al ab am ak ah aw ar rg wf f f')) (hw_X D L sz (fun E L' f' => ((E = "java/lang/IllegalArgumentException" ∧ (aDgt σ i0 i1 i2).1 = 1) ∨ (E = "java/lang/IndexOutOfBoundsException" ∧ (aDgt σ i0 i1 i2).1 = 2)) ∧ L = L' ∧ Sd D L f' o r fr ad al ab am ak ah aw ar rg wf σ wt ∧ Fm o r fr ad al ab am ak ah aw ar rg wf f f')) 1 6 (hw_A L sz) := by
  refine vx_ofW (cc := b_Wf_digit) (maxL := 5) (ret := (some .int)) (by decide) rfl ?_
  intro p e s m args below meth c s₁ B hml hout hv
  obtain ⟨rfl, rfl, hI⟩ := hw_start hv
  clear hv
  have hx := B.exec
  have hb := B.bytes
  have hr := B.returns
  have hlocks := B.notSynchronized
  have hown : s.vm.findClass "WallFractions" = some m.cls := findClass_of_methodNamed B.named
  have hT : ∀ w ∈ TT, w.before ([.ref (wf), .int (i0), .int (i1), .int (i2)]).toArray s = true := fun w h => atoms_spec (ws := (Cond.code y_Wf_digit b_Wf_digit 5 (some .int) :: TT)) B.pre w (List.mem_cons_of_mem _ h)
  have S : CallFix p m c b_Wf_digit 5 s ([.ref (wf), .int (i0), .int (i1), .int (i2)]).toArray TT "WallFractions" := ⟨hx, hb, hml, hown, hT⟩
  have hl := lv_entry ([.ref (wf), .int (i0), .int (i1), .int (i2)]) (n := 5) (Nat.le_of_ble_eq_true rfl)
  rw [lg_entry_eq]
  generalize (lg_sl ([.ref (wf), .int (i0), .int (i1), .int (i2)]) ++ List.replicate (5 - (lg_sl ([.ref (wf), .int (i0), .int (i1), .int (i2)])).length) Slot.unset).toArray = ls at hl ⊢
  have hl : lv_has ls 5 [(0, .ref (wf)), (1, .int (i0)), (2, .int (i1)), (3, .int (i2))] := hl
  obtain ⟨x, sg, rs, hW, hR⟩ := hS
  have hY := hg.1
  have hF : Fm o r fr ad al ab am ak ah aw ar rg wf f f := Fm.refl
  have hs : ∀ z, z < 32 → x z = x z := fun _ _ => rfl
  have ht : ∀ k, k < 16 → sg k = sg k := fun _ _ => rfl
  have h20 := hok.h20 hR
  rcases hB0 : (vr i0 && inR i1 0 1) with _ | _
  · refine lv_aload_n hx hb d_Wf_digit_0 rfl (lv_at hl 0 rfl) ?_
    refine lv_iload_n hx hb d_Wf_digit_1 rfl (lv_at hl 1 rfl) ?_
    refine lv_iload_n hx hb d_Wf_digit_2 rfl (lv_at hl 2 rfl) ?_
    have hop : aDgt σ i0 i1 i2 = (1, 0) := by unfold aDgt; exact if_neg (by simp [hB0])
    refine hw_xV (As := [.int (i0), .int (i1)]) (rest := []) S hI m_Wf_partOf w_661 (c_Wf_partOf_bad l hlt D t0 L _ _ o r fr ad al ab am ak ah aw ar rg wf x sg wt rs i0 i1 hg hW hB0) hW.Wf rfl hl.1 rfl rfl (Nat.le_of_ble_eq_true rfl) d_Wf_digit_3 ⟨Nat.le_of_ble_eq_true rfl, Nat.le_of_ble_eq_true rfl⟩ ⟨Nat.le_of_ble_eq_true rfl, Nat.le_of_ble_eq_true rfl⟩ (fun v9 L9 f98 H locs hp hI => hp.elim) (fun E9 ce9 q9 L9 f98 H locs hp hI hc9 hv9 hl9 => ?_)
    obtain ⟨rfl, rfl, rfl⟩ := hp
    exact hw_on hI hout hlocks hc9 hv9 hl9 (⟨Or.inl (⟨rfl, by rw [hop]⟩), rfl, ⟨x, sg, rs, hW, hR⟩, hF⟩) ⟨Nat.le_of_ble_eq_true rfl, Nat.le_of_ble_eq_true rfl⟩
  · simp only [Bool.and_eq_true] at hB0
    obtain ⟨hB0, hB1⟩ := hB0
    obtain ⟨j0, hj0, rfl⟩ := vr_of hB0
    obtain ⟨j1, hl1, hj1, rfl⟩ := inR_of (by decide) (by decide) hB1
    refine lv_aload_n hx hb d_Wf_digit_0 rfl (lv_at hl 0 rfl) ?_
    refine lv_iload_n hx hb d_Wf_digit_1 rfl (lv_at hl 1 rfl) ?_
    refine lv_iload_n hx hb d_Wf_digit_2 rfl (lv_at hl 2 rfl) ?_
    refine hw_cV (As := [.int (nI j0), .int (nI j1)]) (rest := []) S hI m_Wf_partOf w_661 (c_Wf_partOf_ok l D t0 L _ _ o r fr ad al ab am ak ah aw ar rg wf x sg wt rs j0 j1 hg hW hj0 hj1) hW.Wf rfl hl.1 rfl rfl (Nat.le_of_ble_eq_true rfl) d_Wf_digit_3 ⟨Nat.le_of_ble_eq_true rfl, Nat.le_of_ble_eq_true rfl⟩ ⟨Nat.le_of_ble_eq_true rfl, Nat.le_of_ble_eq_true rfl⟩ (fun v9 L9 f99 H locs hp hI => ?_)
    refine W.cs (cells' := 0) (slots' := 0) rfl rfl ?_
    obtain ⟨hv9, rfl, rfl⟩ := hp
    cases hv9
    refine hw_stk (st' := [.ref (o (2 * j0 + j1))]) rfl ?_
    have hop : aDgt σ (nI j0) (nI j1) i2 = (if i2 < 0 ∨ nI (dl (prt (σ j0) (nI j1))) ≤ i2 then (2, 0) else (0, nI (prt (σ j0) (nI j1) / 10 ^ i2.toNatClampNeg % 10))) := by unfold aDgt; rw [if_pos (by simp [hB0, hB1]), ix_nI (j := j0) (by omega)]
    have hp9 := prt_x hR hj0 hj1
    refine lv_astore (lv' := [(4, .ref (o (2 * j0 + j1))), (0, .ref (wf)), (1, .int (nI j0)), (2, .int (nI j1)), (3, .int (i2))]) hx hb d_Wf_digit_6 hl (by decide) rfl (fun ls hl => ?_)
    refine lv_iload_n hx hb d_Wf_digit_8 rfl (lv_at hl 4 rfl) ?_
    refine lv_if_lt (tgt := 21) hx hb d_Wf_digit_9 (by decide) (fun c100 => ?_) (fun c100 => ?_)
    · rw [if_pos (Or.inl c100)] at hop
      exact hw_thr S hI hlt hout hlocks (text := "there is no such digit") thr_4 (by decide) w_674 w_17 hl.1 d_Wf_digit_21 d_Wf_digit_24 d_Wf_digit_25 d_Wf_digit_27 d_Wf_digit_30 (Nat.le_of_ble_eq_true rfl) (Nat.le_of_ble_eq_true rfl) ⟨Nat.le_of_ble_eq_true rfl, Nat.le_of_ble_eq_true rfl⟩ ⟨Nat.le_of_ble_eq_true rfl, Nat.le_of_ble_eq_true rfl⟩ (⟨Or.inr (⟨rfl, by rw [hop]⟩), rfl, ⟨x, sg, rs, hW, hR⟩, hF⟩)
    · refine lv_iload_n hx hb d_Wf_digit_12 rfl (lv_at hl 4 rfl) ?_
      refine lv_aload hx hb d_Wf_digit_13 (lv_at hl 0 rfl) ?_
      refine hw_cV (As := []) (rest := [.int (i2)]) S hI m_Wh_decimalLength w_665 (c_Wh_decimalLength l D t0 L _ _ o r 46 x (2 * j0 + j1) (by omega) hY hW.N) (hW.rc (i := 2 * j0 + j1) (by omega)).choose_spec rfl hl.1 rfl rfl (Nat.le_of_ble_eq_true rfl) d_Wf_digit_15 ⟨Nat.le_of_ble_eq_true rfl, Nat.le_of_ble_eq_true rfl⟩ ⟨Nat.le_of_ble_eq_true rfl, Nat.le_of_ble_eq_true rfl⟩ (fun v9 L9 f101 H locs hp hI => ?_)
      refine W.cs (cells' := 0) (slots' := 0) rfl rfl ?_
      obtain ⟨⟨T, hv9, hdl, hT9⟩, rfl, rfl⟩ := hp
      cases hv9
      refine hw_stk (st' := [.int (nI T), .int (i2)]) rfl ?_
      rw [hp9] at hdl
      rw [dl_eq hdl] at hop
      obtain ⟨kk, hkk, hk9⟩ := nI_of (show ¬ i2 < 0 from c100)
      refine lv_icmp_lt (tgt := 31) hx hb d_Wf_digit_18 (by decide) (fun c102 => ?_) (fun c102 => ?_)
      · rw [if_neg (fun h9 => by rcases h9 with h9 | h9; exact c100 h9; exact absurd c102 (Int32.not_lt.mpr h9))] at hop
        subst hk9
        rw [nI_clamp hkk] at hop
        refine lv_aload hx hb d_Wf_digit_31 (lv_at hl 0 rfl) ?_
        refine lv_iload_n hx hb d_Wf_digit_33 rfl (lv_at hl 4 rfl) ?_
        refine hw_cV (As := [.int (nI kk)]) (rest := []) S hI m_Wh_decimalAt w_690 (c_Wh_decimalAt l D t0 L _ _ o r 46 x (2 * j0 + j1) kk (by omega) hY hW.N hkk) (hW.rc (i := 2 * j0 + j1) (by omega)).choose_spec rfl hl.1 rfl rfl (Nat.le_of_ble_eq_true rfl) d_Wf_digit_34 ⟨Nat.le_of_ble_eq_true rfl, Nat.le_of_ble_eq_true rfl⟩ ⟨Nat.le_of_ble_eq_true rfl, Nat.le_of_ble_eq_true rfl⟩ (fun v9 L9 f103 H locs hp hI => ?_)
        refine W.cs (cells' := 0) (slots' := 0) rfl rfl ?_
        obtain ⟨hv9, rfl, rfl⟩ := hp
        cases hv9
        refine hw_stk (st' := [.int (nI (x (2 * j0 + j1) / 10 ^ kk % 10))]) rfl ?_
        exact W.widen (k := 1) (n := 6) (Nat.le_of_ble_eq_true rfl) (Nat.le_of_ble_eq_true rfl) (vx_ret (hw_iret hx hb hr hlocks hI d_Wf_digit_37 ⟨⟨_, rfl, by rw [hop, hp9]⟩, rfl, ⟨x, sg, rs, hW, hR⟩, hF⟩))
      · rw [if_pos (Or.inr (Int32.not_lt.mp c102))] at hop
        exact hw_thr S hI hlt hout hlocks (text := "there is no such digit") thr_4 (by decide) w_674 w_17 hl.1 d_Wf_digit_21 d_Wf_digit_24 d_Wf_digit_25 d_Wf_digit_27 d_Wf_digit_30 (Nat.le_of_ble_eq_true rfl) (Nat.le_of_ble_eq_true rfl) ⟨Nat.le_of_ble_eq_true rfl, Nat.le_of_ble_eq_true rfl⟩ ⟨Nat.le_of_ble_eq_true rfl, Nat.le_of_ble_eq_true rfl⟩ (⟨Or.inr (⟨rfl, by rw [hop]⟩), rfl, ⟨x, sg, rs, hW, hR⟩, hF⟩)

set_option maxHeartbeats 4000000 in
set_option maxRecDepth 100000 in
theorem c_Wf_set (l : Launch) (hlt : l.stackTraces = false) (D : va_G) (t0 : Nat) (L : List Nat) (f : Nat → va_E) (sz : Nat) (o r fr : Nat → Nat) (ad al ab am ak ah aw ar rg wf : Nat) (σ : Sg) (wt : Nat → Nat) (i0 : Int32) (p1 : Int) (p2 : Int) (hg : Gl o r fr ad al ab am ak ah aw ar rg wf) (hS : Sd D L f o r fr ad al ab am ak ah aw ar rg wf σ wt) (hok : Ok σ wt) (hp1 : -2 ^ 63 ≤ p1 ∧ p1 < 2 ^ 63) (hp2 : -2 ^ 63 ≤ p2 ∧ p2 < 2 ^ 63) : vx_Met l y_Wf_set (Cond.code y_Wf_set b_Wf_set 6 none :: TT) ({ frames := 8, cells := 1, slots := 6, locals := 151 } : Room) (hw_Pc t0 [.ref (wf), .int (i0), .long (zL p1), .long (zL p2)] D L f sz) (hw_Q D L sz (fun oc L' f' => oc = .returned none ∧ L = L' ∧ (opSet σ i0 p1 p2).1 = 0 ∧ Sd D L f' o r fr ad al ab am ak ah aw ar rg wf (opSet σ i0 p1 p2).2 wt ∧ Fm o r fr ad al ab am ak ah aw ar rg wf f f')) (hw_X D L sz (fun E L' f' => ((E = "java/lang/IllegalArgumentException" ∧ (opSet σ i0 p1 p2).1 = 1) ∨ (E = "java/lang/ArithmeticException" ∧ (opSet σ i0 p1 p2).1 = 2)) ∧ L = L' ∧ Sd D L f' o r fr ad al ab am ak ah aw ar rg wf σ wt ∧ Fm o r fr ad al ab am ak ah aw ar rg wf f f')) 1 6 (hw_A L sz) := by
  refine vx_ofW (cc := b_Wf_set) (maxL := 6) (ret := none) (by decide) rfl ?_
  intro p e s m args below meth c s₁ B hml hout hv
  obtain ⟨rfl, rfl, hI⟩ := hw_start hv
  clear hv
  have hx := B.exec
  have hb := B.bytes
  have hr := B.returns
  have hlocks := B.notSynchronized
  have hown : s.vm.findClass "WallFractions" = some m.cls := findClass_of_methodNamed B.named
  have hT : ∀ w ∈ TT, w.before ([.ref (wf), .int (i0), .long (zL p1), .long (zL p2)]).toArray s = true := fun w h => atoms_spec (ws := (Cond.code y_Wf_set b_Wf_set 6 none :: TT)) B.pre w (List.mem_cons_of_mem _ h)
  have S : CallFix p m c b_Wf_set 6 s ([.ref (wf), .int (i0), .long (zL p1), .long (zL p2)]).toArray TT "WallFractions" := ⟨hx, hb, hml, hown, hT⟩
  have hl := lv_entry ([.ref (wf), .int (i0), .long (zL p1), .long (zL p2)]) (n := 6) (Nat.le_of_ble_eq_true rfl)
  rw [lg_entry_eq]
  generalize (lg_sl ([.ref (wf), .int (i0), .long (zL p1), .long (zL p2)]) ++ List.replicate (6 - (lg_sl ([.ref (wf), .int (i0), .long (zL p1), .long (zL p2)])).length) Slot.unset).toArray = ls at hl ⊢
  have hl : lv_has ls 6 [(0, .ref (wf)), (1, .int (i0)), (2, .long (zL p1)), (4, .long (zL p2))] := hl
  obtain ⟨x, sg, rs, hW, hR⟩ := hS
  have hY := hg.1
  have hF : Fm o r fr ad al ab am ak ah aw ar rg wf f f := Fm.refl
  have hs : ∀ z, z < 32 → x z = x z := fun _ _ => rfl
  have ht : ∀ k, k < 16 → sg k = sg k := fun _ _ => rfl
  have h20 := hok.h20 hR
  rcases hB0 : vr i0 with _ | _
  · refine lv_iload_n hx hb d_Wf_set_0 rfl (lv_at hl 1 rfl) ?_
    have hop : opSet σ i0 p1 p2 = (1, σ) := by unfold opSet; exact if_neg (by simp [hB0])
    refine hw_xS (As := [.int (i0)]) (rest := []) S hI m_Wf_requireRegister w_205 (c_Wf_requireRegister_bad l hlt D t0 L _ _ i0 (vr_no hB0)) hl.1 rfl rfl (Nat.le_of_ble_eq_true rfl) d_Wf_set_1 ⟨Nat.le_of_ble_eq_true rfl, Nat.le_of_ble_eq_true rfl⟩ ⟨Nat.le_of_ble_eq_true rfl, Nat.le_of_ble_eq_true rfl⟩ (fun v9 L9 f1 H locs hp hI => hp.elim) (fun E9 ce9 q9 L9 f1 H locs hp hI hc9 hv9 hl9 => ?_)
    obtain ⟨rfl, rfl, rfl⟩ := hp
    exact hw_on hI hout hlocks hc9 hv9 hl9 (⟨Or.inl (⟨rfl, by rw [hop]⟩), rfl, ⟨x, sg, rs, hW, hR⟩, hF⟩) ⟨Nat.le_of_ble_eq_true rfl, Nat.le_of_ble_eq_true rfl⟩
  · obtain ⟨j0, hj0, rfl⟩ := vr_of hB0
    refine lv_iload_n hx hb d_Wf_set_0 rfl (lv_at hl 1 rfl) ?_
    refine hw_cS (As := [.int (nI j0)]) (rest := []) S hI m_Wf_requireRegister w_205 (c_Wf_requireRegister_ok l D t0 L _ _ j0 hj0) hl.1 rfl rfl (Nat.le_of_ble_eq_true rfl) d_Wf_set_1 ⟨Nat.le_of_ble_eq_true rfl, Nat.le_of_ble_eq_true rfl⟩ ⟨Nat.le_of_ble_eq_true rfl, Nat.le_of_ble_eq_true rfl⟩ (fun v9 L9 f2 H locs hp hI => ?_)
    refine W.cs (cells' := 0) (slots' := 0) rfl rfl ?_
    obtain ⟨hv9, rfl, rfl⟩ := hp
    cases hv9
    refine hw_stk (st' := []) rfl ?_
    by_cases hL1 : -9223372036854775807 ≤ p1
    · refine lv_lload_n hx hb d_Wf_set_4 rfl (lv_at hl 2 rfl) ?_
      refine hw_ldc2 (v := (-9223372036854775807)) hx hb hown (hT _ w_277) d_Wf_set_5 ?_
      refine hw_ldc2 (v := lN 9223372036854775807) hx hb hown (hT _ w_278) d_Wf_set_8 ?_
      refine hw_cS (As := [.long (zL p1), .long ((-9223372036854775807)), .long (lN 9223372036854775807)]) (rest := []) S hI m_Wf_requireWithin w_279 (c_Wf_requireWithin_ok l D t0 L _ _ (zL p1) (-9223372036854775807) (lN 9223372036854775807) (by rw [lMin]; exact fun h => absurd ((zL_lt hp1.1 hp1.2 (by decide) (by decide)).mp h) (by omega)) (by rw [lMax]; exact (zL_le hp1.1 hp1.2 (by decide) (by decide)).mpr (by omega))) hl.1 rfl rfl (Nat.le_of_ble_eq_true rfl) d_Wf_set_11 ⟨Nat.le_of_ble_eq_true rfl, Nat.le_of_ble_eq_true rfl⟩ ⟨Nat.le_of_ble_eq_true rfl, Nat.le_of_ble_eq_true rfl⟩ (fun v9 L9 f4 H locs hp hI => ?_)
      refine W.cs (cells' := 0) (slots' := 0) rfl rfl ?_
      obtain ⟨hv9, rfl, rfl⟩ := hp
      cases hv9
      refine hw_stk (st' := []) rfl ?_
      by_cases hL2 : -9223372036854775807 ≤ p2
      · refine lv_lload hx hb d_Wf_set_14 (lv_at hl 3 rfl) ?_
        refine hw_ldc2 (v := (-9223372036854775807)) hx hb hown (hT _ w_277) d_Wf_set_16 ?_
        refine hw_ldc2 (v := lN 9223372036854775807) hx hb hown (hT _ w_278) d_Wf_set_19 ?_
        refine hw_cS (As := [.long (zL p2), .long ((-9223372036854775807)), .long (lN 9223372036854775807)]) (rest := []) S hI m_Wf_requireWithin w_279 (c_Wf_requireWithin_ok l D t0 L _ _ (zL p2) (-9223372036854775807) (lN 9223372036854775807) (by rw [lMin]; exact fun h => absurd ((zL_lt hp2.1 hp2.2 (by decide) (by decide)).mp h) (by omega)) (by rw [lMax]; exact (zL_le hp2.1 hp2.2 (by decide) (by decide)).mpr (by omega))) hl.1 rfl rfl (Nat.le_of_ble_eq_true rfl) d_Wf_set_22 ⟨Nat.le_of_ble_eq_true rfl, Nat.le_of_ble_eq_true rfl⟩ ⟨Nat.le_of_ble_eq_true rfl, Nat.le_of_ble_eq_true rfl⟩ (fun v9 L9 f6 H locs hp hI => ?_)
        refine W.cs (cells' := 0) (slots' := 0) rfl rfl ?_
        obtain ⟨hv9, rfl, rfl⟩ := hp
        cases hv9
        refine hw_stk (st' := []) rfl ?_
        have hop : opSet σ (nI j0) p1 p2 = (if p2 = 0 then (2, σ) else putR 9 σ (nI j0) (lows p1.natAbs p2.natAbs (decide (p1 < 0) != decide (p2 < 0)))) := by unfold opSet; rw [if_pos (by simp [hB0, hL1, hL2])]
        refine lv_lload hx hb d_Wf_set_25 (lv_at hl 3 rfl) ?_
        refine lv_lconst (v := lN 0) hx hb d_Wf_set_27 rfl ?_
        refine hw_l_ne (tgt := 42) hx hb d_Wf_set_28 d_Wf_set_29 (by decide) (fun c7 => ?_) (fun c7 => ?_)
        · have hz : p2 ≠ 0 := fun h => c7 (by rw [h]; rfl)
          rw [if_neg hz] at hop
          refine lv_aload_n hx hb d_Wf_set_42 rfl (lv_at hl 0 rfl) ?_
          refine ob_get S hI hW.Wf (C := R_Wf) (T := F_Wf) (N := 3) (ref := "WallFractions") rfl i_Wf 1 (by decide) rfl w_187 rfl d_Wf_set_43 ?_
          refine lv_lload_n hx hb d_Wf_set_46 rfl (lv_at hl 2 rfl) ?_
          refine lv_lload hx hb d_Wf_set_47 (lv_at hl 3 rfl) ?_
          refine hw_cV (As := [.long (zL p1), .long (zL p2)]) (rest := []) S hI m_Rk_ratio w_299 (c_Rk_ratio l D t0 L _ _ o r fr ad al ab am ak ah aw ar rg wf x sg wt rs p1 p2 hg hW (by omega) hp1.2 (by omega) hp2.2 hz) hW.Rk rfl hl.1 rfl rfl (Nat.le_of_ble_eq_true rfl) d_Wf_set_49 ⟨Nat.le_of_ble_eq_true rfl, Nat.le_of_ble_eq_true rfl⟩ ⟨Nat.le_of_ble_eq_true rfl, Nat.le_of_ble_eq_true rfl⟩ (fun v9 L9 f8 H locs hp hI => ?_)
          refine W.cs (cells' := 0) (slots' := 0) rfl rfl ?_
          obtain ⟨hv9, rfl, xx8, ss8, hW, e32, e33, g16, hs9, ht9, hF9⟩ := hp
          cases hv9
          refine hw_stk (st' := []) rfl ?_
          have hF := hF.trans hF9
          have hs := fun z (hz : z < 32) => (hs9 z hz).trans (hs z hz)
          have ht := fun z (hz : z < 16) => (ht9 z hz).trans (ht z hz)
          have h32 : xx8 32 = (lows p1.natAbs p2.natAbs (decide (p1 < 0) != decide (p2 < 0))).1 := e32
          have h33 : xx8 33 = (lows p1.natAbs p2.natAbs (decide (p1 < 0) != decide (p2 < 0))).2.1 := e33
          have h16 : ss8 16 = (lows p1.natAbs p2.natAbs (decide (p1 < 0) != decide (p2 < 0))).2.2 := by rw [g16, rat_sg]; rfl
          refine lv_aload_n hx hb d_Wf_set_52 rfl (lv_at hl 0 rfl) ?_
          refine lv_iload_n hx hb d_Wf_set_53 rfl (lv_at hl 1 rfl) ?_
          have hfit : FitX xx8 := ⟨by rw [e32]; exact set_fit (by omega), by rw [e33]; exact set_fit (by omega)⟩
          have hop2 := hop.trans (putR_yes ⟨by rw [← h32]; exact hfit.1, by rw [← h33]; exact hfit.2⟩)
          rw [ix_nI (by omega)] at hop2
          refine hw_cV (As := [.int (nI j0)]) (rest := []) S hI m_Wf_keep w_330 (c_Wf_keep_ok l D t0 L _ _ o r fr ad al ab am ak ah aw ar rg wf xx8 ss8 wt rs j0 hg hW (by omega) hfit) hW.Wf rfl hl.1 rfl rfl (Nat.le_of_ble_eq_true rfl) d_Wf_set_54 ⟨Nat.le_of_ble_eq_true rfl, Nat.le_of_ble_eq_true rfl⟩ ⟨Nat.le_of_ble_eq_true rfl, Nat.le_of_ble_eq_true rfl⟩ (fun v9 L9 f9 H locs hp hI => ?_)
          refine W.cs (cells' := 0) (slots' := 0) rfl rfl ?_
          obtain ⟨hv9, rfl, xk, sk, hW, k1, k2, hs9, g9, ht9, hF9⟩ := hp
          cases hv9
          refine hw_stk (st' := []) rfl ?_
          exact W.widen (k := 1) (n := 6) (Nat.le_of_ble_eq_true rfl) (Nat.le_of_ble_eq_true rfl) (vx_ret (hw_vret hx hb hr hlocks hI d_Wf_set_57 ⟨rfl, rfl, by rw [hop2], by rw [hop2]; exact ⟨xk, sk, rs, hW, hR.put hs ht (by omega) h32 h33 h16 k1 k2 hs9 g9 ht9⟩, hF.trans hF9⟩))
        · have hz : p2 = 0 := (zL_eq (b := 0) hp2.1 hp2.2 (by decide) (by decide)).mp c7
          rw [if_pos hz] at hop
          exact hw_thr S hI hlt hout hlocks (text := "below is 0") thr_2 (by decide) w_283 w_13 hl.1 d_Wf_set_32 d_Wf_set_35 d_Wf_set_36 d_Wf_set_38 d_Wf_set_41 (Nat.le_of_ble_eq_true rfl) (Nat.le_of_ble_eq_true rfl) ⟨Nat.le_of_ble_eq_true rfl, Nat.le_of_ble_eq_true rfl⟩ ⟨Nat.le_of_ble_eq_true rfl, Nat.le_of_ble_eq_true rfl⟩ (⟨Or.inr (⟨rfl, by rw [hop]⟩), rfl, ⟨x, sg, rs, hW, hR⟩, hF⟩)
      · refine lv_lload hx hb d_Wf_set_14 (lv_at hl 3 rfl) ?_
        refine hw_ldc2 (v := (-9223372036854775807)) hx hb hown (hT _ w_277) d_Wf_set_16 ?_
        refine hw_ldc2 (v := lN 9223372036854775807) hx hb hown (hT _ w_278) d_Wf_set_19 ?_
        have hop : opSet σ (nI j0) p1 p2 = (1, σ) := by unfold opSet; exact if_neg (by simp; omega)
        refine hw_xS (As := [.long (zL p2), .long ((-9223372036854775807)), .long (lN 9223372036854775807)]) (rest := []) S hI m_Wf_requireWithin w_279 (c_Wf_requireWithin_bad l hlt D t0 L _ _ (zL p2) (-9223372036854775807) (lN 9223372036854775807) (Or.inl (by rw [lMin]; exact (zL_lt hp2.1 hp2.2 (by decide) (by decide)).mpr (by omega)))) hl.1 rfl rfl (Nat.le_of_ble_eq_true rfl) d_Wf_set_22 ⟨Nat.le_of_ble_eq_true rfl, Nat.le_of_ble_eq_true rfl⟩ ⟨Nat.le_of_ble_eq_true rfl, Nat.le_of_ble_eq_true rfl⟩ (fun v9 L9 f5 H locs hp hI => hp.elim) (fun E9 ce9 q9 L9 f5 H locs hp hI hc9 hv9 hl9 => ?_)
        obtain ⟨rfl, rfl, rfl⟩ := hp
        exact hw_on hI hout hlocks hc9 hv9 hl9 (⟨Or.inl (⟨rfl, by rw [hop]⟩), rfl, ⟨x, sg, rs, hW, hR⟩, hF⟩) ⟨Nat.le_of_ble_eq_true rfl, Nat.le_of_ble_eq_true rfl⟩
    · refine lv_lload_n hx hb d_Wf_set_4 rfl (lv_at hl 2 rfl) ?_
      refine hw_ldc2 (v := (-9223372036854775807)) hx hb hown (hT _ w_277) d_Wf_set_5 ?_
      refine hw_ldc2 (v := lN 9223372036854775807) hx hb hown (hT _ w_278) d_Wf_set_8 ?_
      have hop : opSet σ (nI j0) p1 p2 = (1, σ) := by unfold opSet; exact if_neg (by simp; omega)
      refine hw_xS (As := [.long (zL p1), .long ((-9223372036854775807)), .long (lN 9223372036854775807)]) (rest := []) S hI m_Wf_requireWithin w_279 (c_Wf_requireWithin_bad l hlt D t0 L _ _ (zL p1) (-9223372036854775807) (lN 9223372036854775807) (Or.inl (by rw [lMin]; exact (zL_lt hp1.1 hp1.2 (by decide) (by decide)).mpr (by omega)))) hl.1 rfl rfl (Nat.le_of_ble_eq_true rfl) d_Wf_set_11 ⟨Nat.le_of_ble_eq_true rfl, Nat.le_of_ble_eq_true rfl⟩ ⟨Nat.le_of_ble_eq_true rfl, Nat.le_of_ble_eq_true rfl⟩ (fun v9 L9 f3 H locs hp hI => hp.elim) (fun E9 ce9 q9 L9 f3 H locs hp hI hc9 hv9 hl9 => ?_)
      obtain ⟨rfl, rfl, rfl⟩ := hp
      exact hw_on hI hout hlocks hc9 hv9 hl9 (⟨Or.inl (⟨rfl, by rw [hop]⟩), rfl, ⟨x, sg, rs, hW, hR⟩, hF⟩) ⟨Nat.le_of_ble_eq_true rfl, Nat.le_of_ble_eq_true rfl⟩
set_option maxHeartbeats 4000000 in
set_option maxRecDepth 100000 in
theorem c_Wf_more (l : Launch) (hlt : l.stackTraces = false) (D : va_G) (t0 : Nat) (L : List Nat) (f : Nat → va_E) (sz : Nat) (o r fr : Nat → Nat) (ad al ab am ak ah aw ar rg wf : Nat) (σ : Sg) (wt : Nat → Nat) (i0 : Int32) (i1 : Int32) (hg : Gl o r fr ad al ab am ak ah aw ar rg wf) (hS : Sd D L f o r fr ad al ab am ak ah aw ar rg wf σ wt) (hok : Ok σ wt) : vx_Met l y_Wf_more (Cond.code y_Wf_more b_Wf_more 3 none :: TT) ({ frames := 9, cells := 1, slots := 6, locals := 181 } : Room) (hw_Pc t0 [.ref (wf), .int (i0), .int (i1)] D L f sz) (hw_Q D L sz (fun oc L' f' => oc = .returned none ∧ L = L' ∧ (opMore σ i0 i1).1 = 0 ∧ Sd D L f' o r fr ad al ab am ak ah aw ar rg wf (opMore σ i0 i1).2 wt ∧ Fm o r fr ad al ab am ak ah aw ar rg wf f f')) (hw_X D L sz (fun E L' f' => ((E = "java/lang/IllegalArgumentException" ∧ (opMore σ i0 i1).1 = 1) ∨ (E = "java/lang/IllegalStateException" ∧ (opMore σ i0 i1).1 = 2)) ∧ L = L' ∧ Sd D L f' o r fr ad al ab am ak ah aw ar rg wf σ wt ∧ Fm o r fr ad al ab am ak ah aw ar rg wf f f')) 1 6 (hw_A L sz) := by
  refine vx_ofW (cc := b_Wf_more) (maxL := 3) (ret := none) (by decide) rfl ?_
  intro p e s m args below meth c s₁ B hml hout hv
  obtain ⟨rfl, rfl, hI⟩ := hw_start hv
  clear hv
  have hx := B.exec
  have hb := B.bytes
  have hr := B.returns
  have hlocks := B.notSynchronized
  have hown : s.vm.findClass "WallFractions" = some m.cls := findClass_of_methodNamed B.named
  have hT : ∀ w ∈ TT, w.before ([.ref (wf), .int (i0), .int (i1)]).toArray s = true := fun w h => atoms_spec (ws := (Cond.code y_Wf_more b_Wf_more 3 none :: TT)) B.pre w (List.mem_cons_of_mem _ h)
  have S : CallFix p m c b_Wf_more 3 s ([.ref (wf), .int (i0), .int (i1)]).toArray TT "WallFractions" := ⟨hx, hb, hml, hown, hT⟩
  have hl := lv_entry ([.ref (wf), .int (i0), .int (i1)]) (n := 3) (Nat.le_of_ble_eq_true rfl)
  rw [lg_entry_eq]
  generalize (lg_sl ([.ref (wf), .int (i0), .int (i1)]) ++ List.replicate (3 - (lg_sl ([.ref (wf), .int (i0), .int (i1)])).length) Slot.unset).toArray = ls at hl ⊢
  have hl : lv_has ls 3 [(0, .ref (wf)), (1, .int (i0)), (2, .int (i1))] := hl
  obtain ⟨x, sg, rs, hW, hR⟩ := hS
  have hY := hg.1
  have hF : Fm o r fr ad al ab am ak ah aw ar rg wf f f := Fm.refl
  have hs : ∀ z, z < 32 → x z = x z := fun _ _ => rfl
  have ht : ∀ k, k < 16 → sg k = sg k := fun _ _ => rfl
  have h20 := hok.h20 hR
  rcases hB0 : vr i0 with _ | _
  · refine lv_iload_n hx hb d_Wf_more_0 rfl (lv_at hl 1 rfl) ?_
    have hop : opMore σ i0 i1 = (1, σ) := by unfold opMore; exact if_neg (by simp [hB0])
    refine hw_xS (As := [.int (i0)]) (rest := []) S hI m_Wf_requireRegister w_205 (c_Wf_requireRegister_bad l hlt D t0 L _ _ i0 (vr_no hB0)) hl.1 rfl rfl (Nat.le_of_ble_eq_true rfl) d_Wf_more_1 ⟨Nat.le_of_ble_eq_true rfl, Nat.le_of_ble_eq_true rfl⟩ ⟨Nat.le_of_ble_eq_true rfl, Nat.le_of_ble_eq_true rfl⟩ (fun v9 L9 f10 H locs hp hI => hp.elim) (fun E9 ce9 q9 L9 f10 H locs hp hI hc9 hv9 hl9 => ?_)
    obtain ⟨rfl, rfl, rfl⟩ := hp
    exact hw_on hI hout hlocks hc9 hv9 hl9 (⟨Or.inl (⟨rfl, by rw [hop]⟩), rfl, ⟨x, sg, rs, hW, hR⟩, hF⟩) ⟨Nat.le_of_ble_eq_true rfl, Nat.le_of_ble_eq_true rfl⟩
  · obtain ⟨j0, hj0, rfl⟩ := vr_of hB0
    refine lv_iload_n hx hb d_Wf_more_0 rfl (lv_at hl 1 rfl) ?_
    refine hw_cS (As := [.int (nI j0)]) (rest := []) S hI m_Wf_requireRegister w_205 (c_Wf_requireRegister_ok l D t0 L _ _ j0 hj0) hl.1 rfl rfl (Nat.le_of_ble_eq_true rfl) d_Wf_more_1 ⟨Nat.le_of_ble_eq_true rfl, Nat.le_of_ble_eq_true rfl⟩ ⟨Nat.le_of_ble_eq_true rfl, Nat.le_of_ble_eq_true rfl⟩ (fun v9 L9 f11 H locs hp hI => ?_)
    refine W.cs (cells' := 0) (slots' := 0) rfl rfl ?_
    obtain ⟨hv9, rfl, rfl⟩ := hp
    cases hv9
    refine hw_stk (st' := []) rfl ?_
    rcases hB1 : inR i1 0 999999999 with _ | _
    · refine lv_iload_n hx hb d_Wf_more_4 rfl (lv_at hl 2 rfl) ?_
      refine lv_i2l hx hb d_Wf_more_5 rfl ?_
      refine lv_lconst (v := lN 0) hx hb d_Wf_more_6 rfl ?_
      refine hw_ldc2 (v := lN 999999999) hx hb hown (hT _ w_364) d_Wf_more_7 ?_
      have hop : opMore σ (nI j0) i1 = (1, σ) := by unfold opMore; exact if_neg (by simp [hB1])
      refine hw_xS (As := [.long ((i1).toInt64), .long (lN 0), .long (lN 999999999)]) (rest := []) S hI m_Wf_requireWithin w_279 (c_Wf_requireWithin_bad l hlt D t0 L _ _ i1.toInt64 (lN 0) (lN 999999999) (inR_no (by decide) (by decide) hB1)) hl.1 rfl rfl (Nat.le_of_ble_eq_true rfl) d_Wf_more_10 ⟨Nat.le_of_ble_eq_true rfl, Nat.le_of_ble_eq_true rfl⟩ ⟨Nat.le_of_ble_eq_true rfl, Nat.le_of_ble_eq_true rfl⟩ (fun v9 L9 f12 H locs hp hI => hp.elim) (fun E9 ce9 q9 L9 f12 H locs hp hI hc9 hv9 hl9 => ?_)
      obtain ⟨rfl, rfl, rfl⟩ := hp
      exact hw_on hI hout hlocks hc9 hv9 hl9 (⟨Or.inl (⟨rfl, by rw [hop]⟩), rfl, ⟨x, sg, rs, hW, hR⟩, hF⟩) ⟨Nat.le_of_ble_eq_true rfl, Nat.le_of_ble_eq_true rfl⟩
    · obtain ⟨j1, hl1, hj1, rfl⟩ := inR_of (by decide) (by decide) hB1
      have hw9 := win_ok hl1 hj1 (by decide)
      refine lv_iload_n hx hb d_Wf_more_4 rfl (lv_at hl 2 rfl) ?_
      refine lv_i2l (v := lN j1) hx hb d_Wf_more_5 (nI_l (by omega)) ?_
      refine lv_lconst (v := lN 0) hx hb d_Wf_more_6 rfl ?_
      refine hw_ldc2 (v := lN 999999999) hx hb hown (hT _ w_364) d_Wf_more_7 ?_
      refine hw_cS (As := [.long (lN j1), .long (lN 0), .long (lN 999999999)]) (rest := []) S hI m_Wf_requireWithin w_279 (c_Wf_requireWithin_ok l D t0 L _ _ (lN j1) (lN 0) (lN 999999999) hw9.1 hw9.2) hl.1 rfl rfl (Nat.le_of_ble_eq_true rfl) d_Wf_more_10 ⟨Nat.le_of_ble_eq_true rfl, Nat.le_of_ble_eq_true rfl⟩ ⟨Nat.le_of_ble_eq_true rfl, Nat.le_of_ble_eq_true rfl⟩ (fun v9 L9 f13 H locs hp hI => ?_)
      refine W.cs (cells' := 0) (slots' := 0) rfl rfl ?_
      obtain ⟨hv9, rfl, rfl⟩ := hp
      cases hv9
      refine hw_stk (st' := []) rfl ?_
      have r00 : x (2 * j0) = (σ j0).1 := (hR j0 hj0).1
      have r01 : x (2 * j0 + 1) = (σ j0).2.1 := (hR j0 hj0).2.1
      have r02 : sg j0 = (σ j0).2.2 := (hR j0 hj0).2.2
      have hOk := fun k hk => hok.1 k hk
      have hnB : nB = 1000000000 := rfl
      have hop : opMore σ (nI j0) (nI j1) = (if (σ j0).2.1 = 1 then putR 2 σ (nI j0) (lows ((σ j0).1 * nB + j1) 1 (σ j0).2.2) else (2, σ)) := by unfold opMore; rw [if_pos (by simp [hB0, hB1]), ix_nI (j := j0) (by omega), nI_clamp (n := j1) (by omega)]
      refine lv_aload_n hx hb d_Wf_more_13 rfl (lv_at hl 0 rfl) ?_
      refine ob_get S hI hW.Wf (C := R_Wf) (T := F_Wf) (N := 3) (ref := "WallFractions") rfl i_Wf 0 (by decide) rfl w_186 rfl d_Wf_more_14 ?_
      refine lv_iload_n hx hb d_Wf_more_17 rfl (lv_at hl 1 rfl) ?_
      refine rg_ld S hI hW.Rg (by omega) d_Wf_more_18 ?_
      by_cases hwh : x (2 * j0 + 1) = 1
      · refine hw_cS (As := [.ref (fr j0)]) (rest := []) S hI m_Wf_requireWhole w_365 (c_Wf_requireWhole_ok l D t0 L _ _ o r fr ad al ab am ak ah aw ar rg wf x sg wt rs j0 hg hW hj0 hwh) hl.1 rfl rfl (Nat.le_of_ble_eq_true rfl) d_Wf_more_19 ⟨Nat.le_of_ble_eq_true rfl, Nat.le_of_ble_eq_true rfl⟩ ⟨Nat.le_of_ble_eq_true rfl, Nat.le_of_ble_eq_true rfl⟩ (fun v9 L9 f15 H locs hp hI => ?_)
        refine W.cs (cells' := 0) (slots' := 0) rfl rfl ?_
        obtain ⟨hv9, rfl, rfl⟩ := hp
        cases hv9
        refine hw_stk (st' := []) rfl ?_
        rw [if_pos (by rw [← r01]; exact hwh)] at hop
        refine lv_aload_n hx hb d_Wf_more_22 rfl (lv_at hl 0 rfl) ?_
        refine ob_get S hI hW.Wf (C := R_Wf) (T := F_Wf) (N := 3) (ref := "WallFractions") rfl i_Wf 1 (by decide) rfl w_187 rfl d_Wf_more_23 ?_
        refine lv_aload_n hx hb d_Wf_more_26 rfl (lv_at hl 0 rfl) ?_
        refine ob_get S hI hW.Wf (C := R_Wf) (T := F_Wf) (N := 3) (ref := "WallFractions") rfl i_Wf 0 (by decide) rfl w_186 rfl d_Wf_more_27 ?_
        refine lv_iload_n hx hb d_Wf_more_30 rfl (lv_at hl 1 rfl) ?_
        refine rg_ld S hI hW.Rg (by omega) d_Wf_more_31 ?_
        refine lv_iload_n hx hb d_Wf_more_32 rfl (lv_at hl 2 rfl) ?_
        refine hw_cV (As := [.ref (fr j0), .int (nI j1)]) (rest := []) S hI m_Rk_lengthen w_375 (c_Rk_lengthen l D t0 L _ _ o r fr ad al ab am ak ah aw ar rg wf x sg wt rs j0 j1 hg hW hj0 (by omega) (h20 _ (by omega))) hW.Rk rfl hl.1 rfl rfl (Nat.le_of_ble_eq_true rfl) d_Wf_more_33 ⟨Nat.le_of_ble_eq_true rfl, Nat.le_of_ble_eq_true rfl⟩ ⟨Nat.le_of_ble_eq_true rfl, Nat.le_of_ble_eq_true rfl⟩ (fun v9 L9 f16 H locs hp hI => ?_)
        refine W.cs (cells' := 0) (slots' := 0) rfl rfl ?_
        obtain ⟨hv9, rfl, xx16, ss16, hW, e32, e33, g16, hs9, ht9, hF9⟩ := hp
        cases hv9
        refine hw_stk (st' := []) rfl ?_
        have hF := hF.trans hF9
        have hs := fun z (hz : z < 32) => (hs9 z hz).trans (hs z hz)
        have ht := fun z (hz : z < 16) => (ht9 z hz).trans (ht z hz)
        rw [r00] at e32
        rw [hwh] at e33
        rw [r02] at g16
        have h32 : xx16 32 = (lows ((σ j0).1 * nB + j1) 1 (σ j0).2.2).1 := by rw [lows1]; exact e32
        have h33 : xx16 33 = (lows ((σ j0).1 * nB + j1) 1 (σ j0).2.2).2.1 := by rw [lows1]; exact e33
        have h16 : ss16 16 = (lows ((σ j0).1 * nB + j1) 1 (σ j0).2.2).2.2 := by rw [lows1, g16]; show (σ j0).2.2 = sgz _ _; unfold sgz; split; (rename_i h9; exact (hOk j0 hj0).2.2.2.2 (by rcases Nat.eq_zero_or_pos (σ j0).1 with h8 | h8; exact h8; have := Nat.mul_pos h8 nB_pos; omega)); rfl
        refine lv_aload_n hx hb d_Wf_more_36 rfl (lv_at hl 0 rfl) ?_
        refine lv_iload_n hx hb d_Wf_more_37 rfl (lv_at hl 1 rfl) ?_
        by_cases hfit : FitX xx16
        · have hop2 := hop.trans (putR_yes ⟨by rw [← h32]; exact hfit.1, by rw [← h33]; exact hfit.2⟩)
          rw [ix_nI (by omega)] at hop2
          refine hw_cV (As := [.int (nI j0)]) (rest := []) S hI m_Wf_keep w_330 (c_Wf_keep_ok l D t0 L _ _ o r fr ad al ab am ak ah aw ar rg wf xx16 ss16 wt rs j0 hg hW (by omega) hfit) hW.Wf rfl hl.1 rfl rfl (Nat.le_of_ble_eq_true rfl) d_Wf_more_38 ⟨Nat.le_of_ble_eq_true rfl, Nat.le_of_ble_eq_true rfl⟩ ⟨Nat.le_of_ble_eq_true rfl, Nat.le_of_ble_eq_true rfl⟩ (fun v9 L9 f18 H locs hp hI => ?_)
          refine W.cs (cells' := 0) (slots' := 0) rfl rfl ?_
          obtain ⟨hv9, rfl, xk, sk, hW, k1, k2, hs9, g9, ht9, hF9⟩ := hp
          cases hv9
          refine hw_stk (st' := []) rfl ?_
          exact W.widen (k := 1) (n := 6) (Nat.le_of_ble_eq_true rfl) (Nat.le_of_ble_eq_true rfl) (vx_ret (hw_vret hx hb hr hlocks hI d_Wf_more_41 ⟨rfl, rfl, by rw [hop2], by rw [hop2]; exact ⟨xk, sk, rs, hW, hR.put hs ht (by omega) h32 h33 h16 k1 k2 hs9 g9 ht9⟩, hF.trans hF9⟩))
        · have hop2 := hop.trans (putR_no (fun h9 => hfit ⟨by rw [h32]; exact h9.1, by rw [h33]; exact h9.2⟩))
          refine hw_xV (As := [.int (nI j0)]) (rest := []) S hI m_Wf_keep w_330 (c_Wf_keep_bad l hlt D t0 L _ _ o r fr ad al ab am ak ah aw ar rg wf xx16 ss16 wt rs j0 hg hW (by omega) hfit) hW.Wf rfl hl.1 rfl rfl (Nat.le_of_ble_eq_true rfl) d_Wf_more_38 ⟨Nat.le_of_ble_eq_true rfl, Nat.le_of_ble_eq_true rfl⟩ ⟨Nat.le_of_ble_eq_true rfl, Nat.le_of_ble_eq_true rfl⟩ (fun v9 L9 f17 H locs hp hI => hp.elim) (fun E9 ce9 q9 L9 f17 H locs hp hI hc9 hv9 hl9 => ?_)
          obtain ⟨rfl, rfl, rfl⟩ := hp
          exact hw_on hI hout hlocks hc9 hv9 hl9 (⟨Or.inr (⟨rfl, by rw [hop2]⟩), rfl, ⟨xx16, ss16, rs, hW, hR.keep hs ht⟩, hF⟩) ⟨Nat.le_of_ble_eq_true rfl, Nat.le_of_ble_eq_true rfl⟩
      · rw [if_neg (by rw [← r01]; exact hwh)] at hop
        refine hw_xS (As := [.ref (fr j0)]) (rest := []) S hI m_Wf_requireWhole w_365 (c_Wf_requireWhole_bad l hlt D t0 L _ _ o r fr ad al ab am ak ah aw ar rg wf x sg wt rs j0 hg hW hj0 hwh) hl.1 rfl rfl (Nat.le_of_ble_eq_true rfl) d_Wf_more_19 ⟨Nat.le_of_ble_eq_true rfl, Nat.le_of_ble_eq_true rfl⟩ ⟨Nat.le_of_ble_eq_true rfl, Nat.le_of_ble_eq_true rfl⟩ (fun v9 L9 f14 H locs hp hI => hp.elim) (fun E9 ce9 q9 L9 f14 H locs hp hI hc9 hv9 hl9 => ?_)
        obtain ⟨rfl, rfl, rfl⟩ := hp
        exact hw_on hI hout hlocks hc9 hv9 hl9 (⟨Or.inr (⟨rfl, by rw [hop]⟩), rfl, ⟨x, sg, rs, hW, hR⟩, hF⟩) ⟨Nat.le_of_ble_eq_true rfl, Nat.le_of_ble_eq_true rfl⟩
set_option maxHeartbeats 4000000 in
set_option maxRecDepth 100000 in
theorem c_Wf_power (l : Launch) (hlt : l.stackTraces = false) (D : va_G) (t0 : Nat) (L : List Nat) (f : Nat → va_E) (sz : Nat) (o r fr : Nat → Nat) (ad al ab am ak ah aw ar rg wf : Nat) (σ : Sg) (wt : Nat → Nat) (i0 : Int32) (i1 : Int32) (i2 : Int32) (hg : Gl o r fr ad al ab am ak ah aw ar rg wf) (hS : Sd D L f o r fr ad al ab am ak ah aw ar rg wf σ wt) (hok : Ok σ wt) : vx_Met l y_Wf_power (Cond.code y_Wf_power b_Wf_power 4 none :: TT) ({ frames := 10, cells := 1, slots := 6, locals := 205 } : Room) (hw_Pc t0 [.ref (wf), .int (i0), .int (i1), .int (i2)] D L f sz) (hw_Q D L sz (fun oc L' f' => oc = .returned none ∧ L = L' ∧ (opPow σ i0 i1 i2).1 = 0 ∧ Sd D L f' o r fr ad al ab am ak ah aw ar rg wf (opPow σ i0 i1 i2).2 wt ∧ Fm o r fr ad al ab am ak ah aw ar rg wf f f')) (hw_X D L sz (fun E L' f' => ((E = "java/lang/IllegalArgumentException" ∧ (opPow σ i0 i1 i2).1 = 1) ∨ (E = "java/lang/IllegalStateException" ∧ (opPow σ i0 i1 i2).1 = 2)) ∧ L = L' ∧ Sd D L f' o r fr ad al ab am ak ah aw ar rg wf σ wt ∧ Fm o r fr ad al ab am ak ah aw ar rg wf f f')) 1 6 (hw_A L sz) := by
  refine vx_ofW (cc := b_Wf_power) (maxL := 4) (ret := none) (by decide) rfl ?_
  intro p e s m args below meth c s₁ B hml hout hv
  obtain ⟨rfl, rfl, hI⟩ := hw_start hv
  clear hv
  have hx := B.exec
  have hb := B.bytes
  have hr := B.returns
  have hlocks := B.notSynchronized
  have hown : s.vm.findClass "WallFractions" = some m.cls := findClass_of_methodNamed B.named
  have hT : ∀ w ∈ TT, w.before ([.ref (wf), .int (i0), .int (i1), .int (i2)]).toArray s = true := fun w h => atoms_spec (ws := (Cond.code y_Wf_power b_Wf_power 4 none :: TT)) B.pre w (List.mem_cons_of_mem _ h)
  have S : CallFix p m c b_Wf_power 4 s ([.ref (wf), .int (i0), .int (i1), .int (i2)]).toArray TT "WallFractions" := ⟨hx, hb, hml, hown, hT⟩
  have hl := lv_entry ([.ref (wf), .int (i0), .int (i1), .int (i2)]) (n := 4) (Nat.le_of_ble_eq_true rfl)
  rw [lg_entry_eq]
  generalize (lg_sl ([.ref (wf), .int (i0), .int (i1), .int (i2)]) ++ List.replicate (4 - (lg_sl ([.ref (wf), .int (i0), .int (i1), .int (i2)])).length) Slot.unset).toArray = ls at hl ⊢
  have hl : lv_has ls 4 [(0, .ref (wf)), (1, .int (i0)), (2, .int (i1)), (3, .int (i2))] := hl
  obtain ⟨x, sg, rs, hW, hR⟩ := hS
  have hY := hg.1
  have hF : Fm o r fr ad al ab am ak ah aw ar rg wf f f := Fm.refl
  have hs : ∀ z, z < 32 → x z = x z := fun _ _ => rfl
  have ht : ∀ k, k < 16 → sg k = sg k := fun _ _ => rfl
  have h20 := hok.h20 hR
  rcases hB0 : vr i0 with _ | _
  · refine lv_iload_n hx hb d_Wf_power_0 rfl (lv_at hl 1 rfl) ?_
    have hop : opPow σ i0 i1 i2 = (1, σ) := by unfold opPow; exact if_neg (by simp [hB0])
    refine hw_xS (As := [.int (i0)]) (rest := []) S hI m_Wf_requireRegister w_205 (c_Wf_requireRegister_bad l hlt D t0 L _ _ i0 (vr_no hB0)) hl.1 rfl rfl (Nat.le_of_ble_eq_true rfl) d_Wf_power_1 ⟨Nat.le_of_ble_eq_true rfl, Nat.le_of_ble_eq_true rfl⟩ ⟨Nat.le_of_ble_eq_true rfl, Nat.le_of_ble_eq_true rfl⟩ (fun v9 L9 f19 H locs hp hI => hp.elim) (fun E9 ce9 q9 L9 f19 H locs hp hI hc9 hv9 hl9 => ?_)
    obtain ⟨rfl, rfl, rfl⟩ := hp
    exact hw_on hI hout hlocks hc9 hv9 hl9 (⟨Or.inl (⟨rfl, by rw [hop]⟩), rfl, ⟨x, sg, rs, hW, hR⟩, hF⟩) ⟨Nat.le_of_ble_eq_true rfl, Nat.le_of_ble_eq_true rfl⟩
  · obtain ⟨j0, hj0, rfl⟩ := vr_of hB0
    refine lv_iload_n hx hb d_Wf_power_0 rfl (lv_at hl 1 rfl) ?_
    refine hw_cS (As := [.int (nI j0)]) (rest := []) S hI m_Wf_requireRegister w_205 (c_Wf_requireRegister_ok l D t0 L _ _ j0 hj0) hl.1 rfl rfl (Nat.le_of_ble_eq_true rfl) d_Wf_power_1 ⟨Nat.le_of_ble_eq_true rfl, Nat.le_of_ble_eq_true rfl⟩ ⟨Nat.le_of_ble_eq_true rfl, Nat.le_of_ble_eq_true rfl⟩ (fun v9 L9 f20 H locs hp hI => ?_)
    refine W.cs (cells' := 0) (slots' := 0) rfl rfl ?_
    obtain ⟨hv9, rfl, rfl⟩ := hp
    cases hv9
    refine hw_stk (st' := []) rfl ?_
    rcases hB1 : vr i1 with _ | _
    · refine lv_iload_n hx hb d_Wf_power_4 rfl (lv_at hl 2 rfl) ?_
      have hop : opPow σ (nI j0) i1 i2 = (1, σ) := by unfold opPow; exact if_neg (by simp [hB1])
      refine hw_xS (As := [.int (i1)]) (rest := []) S hI m_Wf_requireRegister w_205 (c_Wf_requireRegister_bad l hlt D t0 L _ _ i1 (vr_no hB1)) hl.1 rfl rfl (Nat.le_of_ble_eq_true rfl) d_Wf_power_5 ⟨Nat.le_of_ble_eq_true rfl, Nat.le_of_ble_eq_true rfl⟩ ⟨Nat.le_of_ble_eq_true rfl, Nat.le_of_ble_eq_true rfl⟩ (fun v9 L9 f21 H locs hp hI => hp.elim) (fun E9 ce9 q9 L9 f21 H locs hp hI hc9 hv9 hl9 => ?_)
      obtain ⟨rfl, rfl, rfl⟩ := hp
      exact hw_on hI hout hlocks hc9 hv9 hl9 (⟨Or.inl (⟨rfl, by rw [hop]⟩), rfl, ⟨x, sg, rs, hW, hR⟩, hF⟩) ⟨Nat.le_of_ble_eq_true rfl, Nat.le_of_ble_eq_true rfl⟩
    · obtain ⟨j1, hj1, rfl⟩ := vr_of hB1
      refine lv_iload_n hx hb d_Wf_power_4 rfl (lv_at hl 2 rfl) ?_
      refine hw_cS (As := [.int (nI j1)]) (rest := []) S hI m_Wf_requireRegister w_205 (c_Wf_requireRegister_ok l D t0 L _ _ j1 hj1) hl.1 rfl rfl (Nat.le_of_ble_eq_true rfl) d_Wf_power_5 ⟨Nat.le_of_ble_eq_true rfl, Nat.le_of_ble_eq_true rfl⟩ ⟨Nat.le_of_ble_eq_true rfl, Nat.le_of_ble_eq_true rfl⟩ (fun v9 L9 f22 H locs hp hI => ?_)
      refine W.cs (cells' := 0) (slots' := 0) rfl rfl ?_
      obtain ⟨hv9, rfl, rfl⟩ := hp
      cases hv9
      refine hw_stk (st' := []) rfl ?_
      rcases hB2 : inR i2 0 200 with _ | _
      · refine lv_iload_n hx hb d_Wf_power_8 rfl (lv_at hl 3 rfl) ?_
        refine lv_i2l hx hb d_Wf_power_9 rfl ?_
        refine lv_lconst (v := lN 0) hx hb d_Wf_power_10 rfl ?_
        refine hw_ldc2 (v := lN 200) hx hb hown (hT _ w_556) d_Wf_power_11 ?_
        have hop : opPow σ (nI j0) (nI j1) i2 = (1, σ) := by unfold opPow; exact if_neg (by simp [hB2])
        refine hw_xS (As := [.long ((i2).toInt64), .long (lN 0), .long (lN 200)]) (rest := []) S hI m_Wf_requireWithin w_279 (c_Wf_requireWithin_bad l hlt D t0 L _ _ i2.toInt64 (lN 0) (lN 200) (inR_no (by decide) (by decide) hB2)) hl.1 rfl rfl (Nat.le_of_ble_eq_true rfl) d_Wf_power_14 ⟨Nat.le_of_ble_eq_true rfl, Nat.le_of_ble_eq_true rfl⟩ ⟨Nat.le_of_ble_eq_true rfl, Nat.le_of_ble_eq_true rfl⟩ (fun v9 L9 f23 H locs hp hI => hp.elim) (fun E9 ce9 q9 L9 f23 H locs hp hI hc9 hv9 hl9 => ?_)
        obtain ⟨rfl, rfl, rfl⟩ := hp
        exact hw_on hI hout hlocks hc9 hv9 hl9 (⟨Or.inl (⟨rfl, by rw [hop]⟩), rfl, ⟨x, sg, rs, hW, hR⟩, hF⟩) ⟨Nat.le_of_ble_eq_true rfl, Nat.le_of_ble_eq_true rfl⟩
      · obtain ⟨j2, hl2, hj2, rfl⟩ := inR_of (by decide) (by decide) hB2
        have hw9 := win_ok hl2 hj2 (by decide)
        refine lv_iload_n hx hb d_Wf_power_8 rfl (lv_at hl 3 rfl) ?_
        refine lv_i2l (v := lN j2) hx hb d_Wf_power_9 (nI_l (by omega)) ?_
        refine lv_lconst (v := lN 0) hx hb d_Wf_power_10 rfl ?_
        refine hw_ldc2 (v := lN 200) hx hb hown (hT _ w_556) d_Wf_power_11 ?_
        refine hw_cS (As := [.long (lN j2), .long (lN 0), .long (lN 200)]) (rest := []) S hI m_Wf_requireWithin w_279 (c_Wf_requireWithin_ok l D t0 L _ _ (lN j2) (lN 0) (lN 200) hw9.1 hw9.2) hl.1 rfl rfl (Nat.le_of_ble_eq_true rfl) d_Wf_power_14 ⟨Nat.le_of_ble_eq_true rfl, Nat.le_of_ble_eq_true rfl⟩ ⟨Nat.le_of_ble_eq_true rfl, Nat.le_of_ble_eq_true rfl⟩ (fun v9 L9 f24 H locs hp hI => ?_)
        refine W.cs (cells' := 0) (slots' := 0) rfl rfl ?_
        obtain ⟨hv9, rfl, rfl⟩ := hp
        cases hv9
        refine hw_stk (st' := []) rfl ?_
        have r10 : x (2 * j1) = (σ j1).1 := (hR j1 hj1).1
        have r11 : x (2 * j1 + 1) = (σ j1).2.1 := (hR j1 hj1).2.1
        have r12 : sg j1 = (σ j1).2.2 := (hR j1 hj1).2.2
        have hOk := fun k hk => hok.1 k hk
        have hop : opPow σ (nI j0) (nI j1) (nI j2) = putR 2 σ (nI j0) ((σ j1).1 ^ j2, (σ j1).2.1 ^ j2, (σ j1).2.2 && decide (j2 % 2 = 1)) := by unfold opPow; rw [if_pos (by simp [hB0, hB1, hB2]), ix_nI (j := j1) (by omega), nI_clamp (n := j2) (by omega)]
        refine lv_aload_n hx hb d_Wf_power_17 rfl (lv_at hl 0 rfl) ?_
        refine ob_get S hI hW.Wf (C := R_Wf) (T := F_Wf) (N := 3) (ref := "WallFractions") rfl i_Wf 1 (by decide) rfl w_187 rfl d_Wf_power_18 ?_
        refine lv_aload_n hx hb d_Wf_power_21 rfl (lv_at hl 0 rfl) ?_
        refine ob_get S hI hW.Wf (C := R_Wf) (T := F_Wf) (N := 3) (ref := "WallFractions") rfl i_Wf 0 (by decide) rfl w_186 rfl d_Wf_power_22 ?_
        refine lv_iload_n hx hb d_Wf_power_25 rfl (lv_at hl 2 rfl) ?_
        refine rg_ld S hI hW.Rg (by omega) d_Wf_power_26 ?_
        refine lv_iload_n hx hb d_Wf_power_27 rfl (lv_at hl 3 rfl) ?_
        refine hw_xV (As := [.ref (fr j1), .int (nI j2)]) (rest := []) S hI m_Rk_raise w_557 (c_Rk_raise l hlt D t0 L _ _ o r fr ad al ab am ak ah aw ar rg wf x sg wt rs j1 j2 hg hW hj1 hj2 h20) hW.Rk rfl hl.1 rfl rfl (Nat.le_of_ble_eq_true rfl) d_Wf_power_28 ⟨Nat.le_of_ble_eq_true rfl, Nat.le_of_ble_eq_true rfl⟩ ⟨Nat.le_of_ble_eq_true rfl, Nat.le_of_ble_eq_true rfl⟩ (fun v9 L9 f25 H locs hp hI => ?_) (fun E9 ce9 q9 L9 f25 H locs hp hI hc9 hv9 hl9 => ?_)
        · obtain ⟨hv9, hfp, rfl, x7, s7, hW, e32, e33, g16, hs, ht, hF9⟩ := hp
          cases hv9
          have hF := hF.trans hF9
          refine hw_stk (st' := []) rfl ?_
          refine W.cs (cells' := 1) (slots' := 6) rfl rfl ?_
          have hfit : FitX x7 := ⟨by rw [e32]; exact hfp.1, by rw [e33]; exact hfp.2⟩
          rw [r10] at e32
          rw [r11] at e33
          rw [r12] at g16
          have h32 : x7 32 = (((σ j1).1 ^ j2, (σ j1).2.1 ^ j2, (σ j1).2.2 && decide (j2 % 2 = 1)) : Rg).1 := e32
          have h33 : x7 33 = (((σ j1).1 ^ j2, (σ j1).2.1 ^ j2, (σ j1).2.2 && decide (j2 % 2 = 1)) : Rg).2.1 := e33
          have h16 : s7 16 = (((σ j1).1 ^ j2, (σ j1).2.1 ^ j2, (σ j1).2.2 && decide (j2 % 2 = 1)) : Rg).2.2 := g16
          have hop2 := hop.trans (putR_yes ⟨by rw [← h32]; exact hfit.1, by rw [← h33]; exact hfit.2⟩)
          rw [ix_nI (by omega)] at hop2
          refine lv_aload_n hx hb d_Wf_power_31 rfl (lv_at hl 0 rfl) ?_
          refine lv_iload_n hx hb d_Wf_power_32 rfl (lv_at hl 1 rfl) ?_
          refine hw_cV (As := [.int (nI j0)]) (rest := []) S hI m_Wf_keep w_330 (c_Wf_keep_ok l D t0 L _ _ o r fr ad al ab am ak ah aw ar rg wf x7 s7 wt rs j0 hg hW (by omega) hfit) hW.Wf rfl hl.1 rfl rfl (Nat.le_of_ble_eq_true rfl) d_Wf_power_33 ⟨Nat.le_of_ble_eq_true rfl, Nat.le_of_ble_eq_true rfl⟩ ⟨Nat.le_of_ble_eq_true rfl, Nat.le_of_ble_eq_true rfl⟩ (fun v9 L9 f26 H locs hp hI => ?_)
          refine W.cs (cells' := 1) (slots' := 6) rfl rfl ?_
          obtain ⟨hv9, rfl, xk, sk, hW, k1, k2, hs9, g9, ht9, hF9⟩ := hp
          cases hv9
          refine hw_stk (st' := []) rfl ?_
          exact W.widen (k := 1) (n := 6) (Nat.le_of_ble_eq_true rfl) (Nat.le_of_ble_eq_true rfl) (vx_ret (hw_vret hx hb hr hlocks hI d_Wf_power_36 ⟨rfl, rfl, by rw [hop2], by rw [hop2]; exact ⟨xk, sk, rs, hW, hR.put hs ht (by omega) h32 h33 h16 k1 k2 hs9 g9 ht9⟩, hF.trans hF9⟩))
        · obtain ⟨rfl, rfl, hnf, x8, s8, hW8, hs8, ht8, hF8⟩ := hp
          exact hw_on hI hout hlocks hc9 hv9 hl9 (⟨Or.inr (⟨rfl, by rw [hop, putR_no (fun h9 => hnf ⟨by rw [r10]; exact h9.1, by rw [r11]; exact h9.2⟩)]⟩), rfl, ⟨x8, s8, rs, hW8, hR.keep hs8 ht8⟩, hF8⟩) ⟨Nat.le_of_ble_eq_true rfl, Nat.le_of_ble_eq_true rfl⟩
set_option maxHeartbeats 4000000 in
set_option maxRecDepth 100000 in
theorem c_Wf_binomial (l : Launch) (hlt : l.stackTraces = false) (D : va_G) (t0 : Nat) (L : List Nat) (f : Nat → va_E) (sz : Nat) (o r fr : Nat → Nat) (ad al ab am ak ah aw ar rg wf : Nat) (σ : Sg) (wt : Nat → Nat) (i0 : Int32) (i1 : Int32) (i2 : Int32) (hg : Gl o r fr ad al ab am ak ah aw ar rg wf) (hS : Sd D L f o r fr ad al ab am ak ah aw ar rg wf σ wt) (hok : Ok σ wt) : vx_Met l y_Wf_binomial (Cond.code y_Wf_binomial b_Wf_binomial 4 none :: TT) ({ frames := 9, cells := 1, slots := 6, locals := 183 } : Room) (hw_Pc t0 [.ref (wf), .int (i0), .int (i1), .int (i2)] D L f sz) (hw_Q D L sz (fun oc L' f' => oc = .returned none ∧ L = L' ∧ (opBin σ i0 i1 i2).1 = 0 ∧ Sd D L f' o r fr ad al ab am ak ah aw ar rg wf (opBin σ i0 i1 i2).2 wt ∧ Fm o r fr ad al ab am ak ah aw ar rg wf f f')) (hw_X D L sz (fun E L' f' => ((E = "java/lang/IllegalArgumentException" ∧ (opBin σ i0 i1 i2).1 = 1) ∨ (E = "java/lang/IllegalStateException" ∧ (opBin σ i0 i1 i2).1 = 2)) ∧ L = L' ∧ Sd D L f' o r fr ad al ab am ak ah aw ar rg wf σ wt ∧ Fm o r fr ad al ab am ak ah aw ar rg wf f f')) 1 6 (hw_A L sz) := by
  refine vx_ofW (cc := b_Wf_binomial) (maxL := 4) (ret := none) (by decide) rfl ?_
  intro p e s m args below meth c s₁ B hml hout hv
  obtain ⟨rfl, rfl, hI⟩ := hw_start hv
  clear hv
  have hx := B.exec
  have hb := B.bytes
  have hr := B.returns
  have hlocks := B.notSynchronized
  have hown : s.vm.findClass "WallFractions" = some m.cls := findClass_of_methodNamed B.named
  have hT : ∀ w ∈ TT, w.before ([.ref (wf), .int (i0), .int (i1), .int (i2)]).toArray s = true := fun w h => atoms_spec (ws := (Cond.code y_Wf_binomial b_Wf_binomial 4 none :: TT)) B.pre w (List.mem_cons_of_mem _ h)
  have S : CallFix p m c b_Wf_binomial 4 s ([.ref (wf), .int (i0), .int (i1), .int (i2)]).toArray TT "WallFractions" := ⟨hx, hb, hml, hown, hT⟩
  have hl := lv_entry ([.ref (wf), .int (i0), .int (i1), .int (i2)]) (n := 4) (Nat.le_of_ble_eq_true rfl)
  rw [lg_entry_eq]
  generalize (lg_sl ([.ref (wf), .int (i0), .int (i1), .int (i2)]) ++ List.replicate (4 - (lg_sl ([.ref (wf), .int (i0), .int (i1), .int (i2)])).length) Slot.unset).toArray = ls at hl ⊢
  have hl : lv_has ls 4 [(0, .ref (wf)), (1, .int (i0)), (2, .int (i1)), (3, .int (i2))] := hl
  obtain ⟨x, sg, rs, hW, hR⟩ := hS
  have hY := hg.1
  have hF : Fm o r fr ad al ab am ak ah aw ar rg wf f f := Fm.refl
  have hs : ∀ z, z < 32 → x z = x z := fun _ _ => rfl
  have ht : ∀ k, k < 16 → sg k = sg k := fun _ _ => rfl
  have h20 := hok.h20 hR
  rcases hB0 : vr i0 with _ | _
  · refine lv_iload_n hx hb d_Wf_binomial_0 rfl (lv_at hl 1 rfl) ?_
    have hop : opBin σ i0 i1 i2 = (1, σ) := by unfold opBin; exact if_neg (by simp [hB0])
    refine hw_xS (As := [.int (i0)]) (rest := []) S hI m_Wf_requireRegister w_205 (c_Wf_requireRegister_bad l hlt D t0 L _ _ i0 (vr_no hB0)) hl.1 rfl rfl (Nat.le_of_ble_eq_true rfl) d_Wf_binomial_1 ⟨Nat.le_of_ble_eq_true rfl, Nat.le_of_ble_eq_true rfl⟩ ⟨Nat.le_of_ble_eq_true rfl, Nat.le_of_ble_eq_true rfl⟩ (fun v9 L9 f27 H locs hp hI => hp.elim) (fun E9 ce9 q9 L9 f27 H locs hp hI hc9 hv9 hl9 => ?_)
    obtain ⟨rfl, rfl, rfl⟩ := hp
    exact hw_on hI hout hlocks hc9 hv9 hl9 (⟨Or.inl (⟨rfl, by rw [hop]⟩), rfl, ⟨x, sg, rs, hW, hR⟩, hF⟩) ⟨Nat.le_of_ble_eq_true rfl, Nat.le_of_ble_eq_true rfl⟩
  · obtain ⟨j0, hj0, rfl⟩ := vr_of hB0
    refine lv_iload_n hx hb d_Wf_binomial_0 rfl (lv_at hl 1 rfl) ?_
    refine hw_cS (As := [.int (nI j0)]) (rest := []) S hI m_Wf_requireRegister w_205 (c_Wf_requireRegister_ok l D t0 L _ _ j0 hj0) hl.1 rfl rfl (Nat.le_of_ble_eq_true rfl) d_Wf_binomial_1 ⟨Nat.le_of_ble_eq_true rfl, Nat.le_of_ble_eq_true rfl⟩ ⟨Nat.le_of_ble_eq_true rfl, Nat.le_of_ble_eq_true rfl⟩ (fun v9 L9 f28 H locs hp hI => ?_)
    refine W.cs (cells' := 0) (slots' := 0) rfl rfl ?_
    obtain ⟨hv9, rfl, rfl⟩ := hp
    cases hv9
    refine hw_stk (st' := []) rfl ?_
    rcases hB1 : inR i1 0 500 with _ | _
    · refine lv_iload_n hx hb d_Wf_binomial_4 rfl (lv_at hl 2 rfl) ?_
      refine lv_i2l hx hb d_Wf_binomial_5 rfl ?_
      refine lv_lconst (v := lN 0) hx hb d_Wf_binomial_6 rfl ?_
      refine hw_ldc2 (v := lN 500) hx hb hown (hT _ w_574) d_Wf_binomial_7 ?_
      have hop : opBin σ (nI j0) i1 i2 = (1, σ) := by unfold opBin; exact if_neg (by simp [hB1])
      refine hw_xS (As := [.long ((i1).toInt64), .long (lN 0), .long (lN 500)]) (rest := []) S hI m_Wf_requireWithin w_279 (c_Wf_requireWithin_bad l hlt D t0 L _ _ i1.toInt64 (lN 0) (lN 500) (inR_no (by decide) (by decide) hB1)) hl.1 rfl rfl (Nat.le_of_ble_eq_true rfl) d_Wf_binomial_10 ⟨Nat.le_of_ble_eq_true rfl, Nat.le_of_ble_eq_true rfl⟩ ⟨Nat.le_of_ble_eq_true rfl, Nat.le_of_ble_eq_true rfl⟩ (fun v9 L9 f29 H locs hp hI => hp.elim) (fun E9 ce9 q9 L9 f29 H locs hp hI hc9 hv9 hl9 => ?_)
      obtain ⟨rfl, rfl, rfl⟩ := hp
      exact hw_on hI hout hlocks hc9 hv9 hl9 (⟨Or.inl (⟨rfl, by rw [hop]⟩), rfl, ⟨x, sg, rs, hW, hR⟩, hF⟩) ⟨Nat.le_of_ble_eq_true rfl, Nat.le_of_ble_eq_true rfl⟩
    · obtain ⟨j1, hl1, hj1, rfl⟩ := inR_of (by decide) (by decide) hB1
      have hw9 := win_ok hl1 hj1 (by decide)
      refine lv_iload_n hx hb d_Wf_binomial_4 rfl (lv_at hl 2 rfl) ?_
      refine lv_i2l (v := lN j1) hx hb d_Wf_binomial_5 (nI_l (by omega)) ?_
      refine lv_lconst (v := lN 0) hx hb d_Wf_binomial_6 rfl ?_
      refine hw_ldc2 (v := lN 500) hx hb hown (hT _ w_574) d_Wf_binomial_7 ?_
      refine hw_cS (As := [.long (lN j1), .long (lN 0), .long (lN 500)]) (rest := []) S hI m_Wf_requireWithin w_279 (c_Wf_requireWithin_ok l D t0 L _ _ (lN j1) (lN 0) (lN 500) hw9.1 hw9.2) hl.1 rfl rfl (Nat.le_of_ble_eq_true rfl) d_Wf_binomial_10 ⟨Nat.le_of_ble_eq_true rfl, Nat.le_of_ble_eq_true rfl⟩ ⟨Nat.le_of_ble_eq_true rfl, Nat.le_of_ble_eq_true rfl⟩ (fun v9 L9 f30 H locs hp hI => ?_)
      refine W.cs (cells' := 0) (slots' := 0) rfl rfl ?_
      obtain ⟨hv9, rfl, rfl⟩ := hp
      cases hv9
      refine hw_stk (st' := []) rfl ?_
      have hop : opBin σ (nI j0) (nI j1) i2 = putR 2 σ (nI j0) (chF j1 i2, 1, false) := by unfold opBin; rw [if_pos (by simp [hB0, hB1]), nI_clamp (n := j1) (by omega)]
      refine lv_aload_n hx hb d_Wf_binomial_13 rfl (lv_at hl 0 rfl) ?_
      refine ob_get S hI hW.Wf (C := R_Wf) (T := F_Wf) (N := 3) (ref := "WallFractions") rfl i_Wf 1 (by decide) rfl w_187 rfl d_Wf_binomial_14 ?_
      refine lv_iload_n hx hb d_Wf_binomial_17 rfl (lv_at hl 2 rfl) ?_
      refine lv_iload_n hx hb d_Wf_binomial_18 rfl (lv_at hl 3 rfl) ?_
      refine hw_cV (As := [.int (nI j1), .int (i2)]) (rest := []) S hI m_Rk_choose w_575 (c_Rk_choose l D t0 L _ _ o r fr ad al ab am ak ah aw ar rg wf x sg wt rs j1 i2 hg hW hj1) hW.Rk rfl hl.1 rfl rfl (Nat.le_of_ble_eq_true rfl) d_Wf_binomial_19 ⟨Nat.le_of_ble_eq_true rfl, Nat.le_of_ble_eq_true rfl⟩ ⟨Nat.le_of_ble_eq_true rfl, Nat.le_of_ble_eq_true rfl⟩ (fun v9 L9 f31 H locs hp hI => ?_)
      refine W.cs (cells' := 0) (slots' := 0) rfl rfl ?_
      obtain ⟨hv9, rfl, xx31, ss31, hW, e32, e33, g16, hs9, ht9, hF9⟩ := hp
      cases hv9
      refine hw_stk (st' := []) rfl ?_
      have hF := hF.trans hF9
      have hs := fun z (hz : z < 32) => (hs9 z hz).trans (hs z hz)
      have ht := fun z (hz : z < 16) => (ht9 z hz).trans (ht z hz)
      have h32 : xx31 32 = ((chF j1 i2, 1, false) : Rg).1 := e32
      have h33 : xx31 33 = ((chF j1 i2, 1, false) : Rg).2.1 := e33
      have h16 : ss31 16 = ((chF j1 i2, 1, false) : Rg).2.2 := g16
      refine lv_aload_n hx hb d_Wf_binomial_22 rfl (lv_at hl 0 rfl) ?_
      refine lv_iload_n hx hb d_Wf_binomial_23 rfl (lv_at hl 1 rfl) ?_
      by_cases hfit : FitX xx31
      · have hop2 := hop.trans (putR_yes ⟨by rw [← h32]; exact hfit.1, by rw [← h33]; exact hfit.2⟩)
        rw [ix_nI (by omega)] at hop2
        refine hw_cV (As := [.int (nI j0)]) (rest := []) S hI m_Wf_keep w_330 (c_Wf_keep_ok l D t0 L _ _ o r fr ad al ab am ak ah aw ar rg wf xx31 ss31 wt rs j0 hg hW (by omega) hfit) hW.Wf rfl hl.1 rfl rfl (Nat.le_of_ble_eq_true rfl) d_Wf_binomial_24 ⟨Nat.le_of_ble_eq_true rfl, Nat.le_of_ble_eq_true rfl⟩ ⟨Nat.le_of_ble_eq_true rfl, Nat.le_of_ble_eq_true rfl⟩ (fun v9 L9 f33 H locs hp hI => ?_)
        refine W.cs (cells' := 0) (slots' := 0) rfl rfl ?_
        obtain ⟨hv9, rfl, xk, sk, hW, k1, k2, hs9, g9, ht9, hF9⟩ := hp
        cases hv9
        refine hw_stk (st' := []) rfl ?_
        exact W.widen (k := 1) (n := 6) (Nat.le_of_ble_eq_true rfl) (Nat.le_of_ble_eq_true rfl) (vx_ret (hw_vret hx hb hr hlocks hI d_Wf_binomial_27 ⟨rfl, rfl, by rw [hop2], by rw [hop2]; exact ⟨xk, sk, rs, hW, hR.put hs ht (by omega) h32 h33 h16 k1 k2 hs9 g9 ht9⟩, hF.trans hF9⟩))
      · have hop2 := hop.trans (putR_no (fun h9 => hfit ⟨by rw [h32]; exact h9.1, by rw [h33]; exact h9.2⟩))
        refine hw_xV (As := [.int (nI j0)]) (rest := []) S hI m_Wf_keep w_330 (c_Wf_keep_bad l hlt D t0 L _ _ o r fr ad al ab am ak ah aw ar rg wf xx31 ss31 wt rs j0 hg hW (by omega) hfit) hW.Wf rfl hl.1 rfl rfl (Nat.le_of_ble_eq_true rfl) d_Wf_binomial_24 ⟨Nat.le_of_ble_eq_true rfl, Nat.le_of_ble_eq_true rfl⟩ ⟨Nat.le_of_ble_eq_true rfl, Nat.le_of_ble_eq_true rfl⟩ (fun v9 L9 f32 H locs hp hI => hp.elim) (fun E9 ce9 q9 L9 f32 H locs hp hI hc9 hv9 hl9 => ?_)
        obtain ⟨rfl, rfl, rfl⟩ := hp
        exact hw_on hI hout hlocks hc9 hv9 hl9 (⟨Or.inr (⟨rfl, by rw [hop2]⟩), rfl, ⟨xx31, ss31, rs, hW, hR.keep hs ht⟩, hF⟩) ⟨Nat.le_of_ble_eq_true rfl, Nat.le_of_ble_eq_true rfl⟩
set_option maxHeartbeats 4000000 in
set_option maxRecDepth 100000 in
theorem c_Wf_round (l : Launch) (hlt : l.stackTraces = false) (D : va_G) (t0 : Nat) (L : List Nat) (f : Nat → va_E) (sz : Nat) (o r fr : Nat → Nat) (ad al ab am ak ah aw ar rg wf : Nat) (σ : Sg) (wt : Nat → Nat) (i0 : Int32) (i1 : Int32) (i2 : Int32) (i3 : Int32) (hg : Gl o r fr ad al ab am ak ah aw ar rg wf) (hS : Sd D L f o r fr ad al ab am ak ah aw ar rg wf σ wt) (hok : Ok σ wt) : vx_Met l y_Wf_round (Cond.code y_Wf_round b_Wf_round 5 none :: TT) ({ frames := 11, cells := 1, slots := 6, locals := 237 } : Room) (hw_Pc t0 [.ref (wf), .int (i0), .int (i1), .int (i2), .int (i3)] D L f sz) (hw_Q D L sz (fun oc L' f' => oc = .returned none ∧ L = L' ∧ (opRnd σ i0 i1 i2 i3).1 = 0 ∧ Sd D L f' o r fr ad al ab am ak ah aw ar rg wf (opRnd σ i0 i1 i2 i3).2 wt ∧ Fm o r fr ad al ab am ak ah aw ar rg wf f f')) (hw_X D L sz (fun E L' f' => ((E = "java/lang/IllegalArgumentException" ∧ (opRnd σ i0 i1 i2 i3).1 = 1) ∨ (E = "java/lang/IllegalStateException" ∧ (opRnd σ i0 i1 i2 i3).1 = 2)) ∧ L = L' ∧ Sd D L f' o r fr ad al ab am ak ah aw ar rg wf σ wt ∧ Fm o r fr ad al ab am ak ah aw ar rg wf f f')) 1 6 (hw_A L sz) := by
  refine vx_ofW (cc := b_Wf_round) (maxL := 5) (ret := none) (by decide) rfl ?_
  intro p e s m args below meth c s₁ B hml hout hv
  obtain ⟨rfl, rfl, hI⟩ := hw_start hv
  clear hv
  have hx := B.exec
  have hb := B.bytes
  have hr := B.returns
  have hlocks := B.notSynchronized
  have hown : s.vm.findClass "WallFractions" = some m.cls := findClass_of_methodNamed B.named
  have hT : ∀ w ∈ TT, w.before ([.ref (wf), .int (i0), .int (i1), .int (i2), .int (i3)]).toArray s = true := fun w h => atoms_spec (ws := (Cond.code y_Wf_round b_Wf_round 5 none :: TT)) B.pre w (List.mem_cons_of_mem _ h)
  have S : CallFix p m c b_Wf_round 5 s ([.ref (wf), .int (i0), .int (i1), .int (i2), .int (i3)]).toArray TT "WallFractions" := ⟨hx, hb, hml, hown, hT⟩
  have hl := lv_entry ([.ref (wf), .int (i0), .int (i1), .int (i2), .int (i3)]) (n := 5) (Nat.le_of_ble_eq_true rfl)
  rw [lg_entry_eq]
  generalize (lg_sl ([.ref (wf), .int (i0), .int (i1), .int (i2), .int (i3)]) ++ List.replicate (5 - (lg_sl ([.ref (wf), .int (i0), .int (i1), .int (i2), .int (i3)])).length) Slot.unset).toArray = ls at hl ⊢
  have hl : lv_has ls 5 [(0, .ref (wf)), (1, .int (i0)), (2, .int (i1)), (3, .int (i2)), (4, .int (i3))] := hl
  obtain ⟨x, sg, rs, hW, hR⟩ := hS
  have hY := hg.1
  have hF : Fm o r fr ad al ab am ak ah aw ar rg wf f f := Fm.refl
  have hs : ∀ z, z < 32 → x z = x z := fun _ _ => rfl
  have ht : ∀ k, k < 16 → sg k = sg k := fun _ _ => rfl
  have h20 := hok.h20 hR
  rcases hB0 : vr i0 with _ | _
  · refine lv_iload_n hx hb d_Wf_round_0 rfl (lv_at hl 1 rfl) ?_
    have hop : opRnd σ i0 i1 i2 i3 = (1, σ) := by unfold opRnd; exact if_neg (by simp [hB0])
    refine hw_xS (As := [.int (i0)]) (rest := []) S hI m_Wf_requireRegister w_205 (c_Wf_requireRegister_bad l hlt D t0 L _ _ i0 (vr_no hB0)) hl.1 rfl rfl (Nat.le_of_ble_eq_true rfl) d_Wf_round_1 ⟨Nat.le_of_ble_eq_true rfl, Nat.le_of_ble_eq_true rfl⟩ ⟨Nat.le_of_ble_eq_true rfl, Nat.le_of_ble_eq_true rfl⟩ (fun v9 L9 f34 H locs hp hI => hp.elim) (fun E9 ce9 q9 L9 f34 H locs hp hI hc9 hv9 hl9 => ?_)
    obtain ⟨rfl, rfl, rfl⟩ := hp
    exact hw_on hI hout hlocks hc9 hv9 hl9 (⟨Or.inl (⟨rfl, by rw [hop]⟩), rfl, ⟨x, sg, rs, hW, hR⟩, hF⟩) ⟨Nat.le_of_ble_eq_true rfl, Nat.le_of_ble_eq_true rfl⟩
  · obtain ⟨j0, hj0, rfl⟩ := vr_of hB0
    refine lv_iload_n hx hb d_Wf_round_0 rfl (lv_at hl 1 rfl) ?_
    refine hw_cS (As := [.int (nI j0)]) (rest := []) S hI m_Wf_requireRegister w_205 (c_Wf_requireRegister_ok l D t0 L _ _ j0 hj0) hl.1 rfl rfl (Nat.le_of_ble_eq_true rfl) d_Wf_round_1 ⟨Nat.le_of_ble_eq_true rfl, Nat.le_of_ble_eq_true rfl⟩ ⟨Nat.le_of_ble_eq_true rfl, Nat.le_of_ble_eq_true rfl⟩ (fun v9 L9 f35 H locs hp hI => ?_)
    refine W.cs (cells' := 0) (slots' := 0) rfl rfl ?_
    obtain ⟨hv9, rfl, rfl⟩ := hp
    cases hv9
    refine hw_stk (st' := []) rfl ?_
    rcases hB1 : vr i1 with _ | _
    · refine lv_iload_n hx hb d_Wf_round_4 rfl (lv_at hl 2 rfl) ?_
      have hop : opRnd σ (nI j0) i1 i2 i3 = (1, σ) := by unfold opRnd; exact if_neg (by simp [hB1])
      refine hw_xS (As := [.int (i1)]) (rest := []) S hI m_Wf_requireRegister w_205 (c_Wf_requireRegister_bad l hlt D t0 L _ _ i1 (vr_no hB1)) hl.1 rfl rfl (Nat.le_of_ble_eq_true rfl) d_Wf_round_5 ⟨Nat.le_of_ble_eq_true rfl, Nat.le_of_ble_eq_true rfl⟩ ⟨Nat.le_of_ble_eq_true rfl, Nat.le_of_ble_eq_true rfl⟩ (fun v9 L9 f36 H locs hp hI => hp.elim) (fun E9 ce9 q9 L9 f36 H locs hp hI hc9 hv9 hl9 => ?_)
      obtain ⟨rfl, rfl, rfl⟩ := hp
      exact hw_on hI hout hlocks hc9 hv9 hl9 (⟨Or.inl (⟨rfl, by rw [hop]⟩), rfl, ⟨x, sg, rs, hW, hR⟩, hF⟩) ⟨Nat.le_of_ble_eq_true rfl, Nat.le_of_ble_eq_true rfl⟩
    · obtain ⟨j1, hj1, rfl⟩ := vr_of hB1
      refine lv_iload_n hx hb d_Wf_round_4 rfl (lv_at hl 2 rfl) ?_
      refine hw_cS (As := [.int (nI j1)]) (rest := []) S hI m_Wf_requireRegister w_205 (c_Wf_requireRegister_ok l D t0 L _ _ j1 hj1) hl.1 rfl rfl (Nat.le_of_ble_eq_true rfl) d_Wf_round_5 ⟨Nat.le_of_ble_eq_true rfl, Nat.le_of_ble_eq_true rfl⟩ ⟨Nat.le_of_ble_eq_true rfl, Nat.le_of_ble_eq_true rfl⟩ (fun v9 L9 f37 H locs hp hI => ?_)
      refine W.cs (cells' := 0) (slots' := 0) rfl rfl ?_
      obtain ⟨hv9, rfl, rfl⟩ := hp
      cases hv9
      refine hw_stk (st' := []) rfl ?_
      rcases hB2 : inR i2 0 40 with _ | _
      · refine lv_iload_n hx hb d_Wf_round_8 rfl (lv_at hl 3 rfl) ?_
        refine lv_i2l hx hb d_Wf_round_9 rfl ?_
        refine lv_lconst (v := lN 0) hx hb d_Wf_round_10 rfl ?_
        refine hw_ldc2 (v := lN 40) hx hb hown (hT _ w_590) d_Wf_round_11 ?_
        have hop : opRnd σ (nI j0) (nI j1) i2 i3 = (1, σ) := by unfold opRnd; exact if_neg (by simp [hB2])
        refine hw_xS (As := [.long ((i2).toInt64), .long (lN 0), .long (lN 40)]) (rest := []) S hI m_Wf_requireWithin w_279 (c_Wf_requireWithin_bad l hlt D t0 L _ _ i2.toInt64 (lN 0) (lN 40) (inR_no (by decide) (by decide) hB2)) hl.1 rfl rfl (Nat.le_of_ble_eq_true rfl) d_Wf_round_14 ⟨Nat.le_of_ble_eq_true rfl, Nat.le_of_ble_eq_true rfl⟩ ⟨Nat.le_of_ble_eq_true rfl, Nat.le_of_ble_eq_true rfl⟩ (fun v9 L9 f38 H locs hp hI => hp.elim) (fun E9 ce9 q9 L9 f38 H locs hp hI hc9 hv9 hl9 => ?_)
        obtain ⟨rfl, rfl, rfl⟩ := hp
        exact hw_on hI hout hlocks hc9 hv9 hl9 (⟨Or.inl (⟨rfl, by rw [hop]⟩), rfl, ⟨x, sg, rs, hW, hR⟩, hF⟩) ⟨Nat.le_of_ble_eq_true rfl, Nat.le_of_ble_eq_true rfl⟩
      · obtain ⟨j2, hl2, hj2, rfl⟩ := inR_of (by decide) (by decide) hB2
        have hw9 := win_ok hl2 hj2 (by decide)
        refine lv_iload_n hx hb d_Wf_round_8 rfl (lv_at hl 3 rfl) ?_
        refine lv_i2l (v := lN j2) hx hb d_Wf_round_9 (nI_l (by omega)) ?_
        refine lv_lconst (v := lN 0) hx hb d_Wf_round_10 rfl ?_
        refine hw_ldc2 (v := lN 40) hx hb hown (hT _ w_590) d_Wf_round_11 ?_
        refine hw_cS (As := [.long (lN j2), .long (lN 0), .long (lN 40)]) (rest := []) S hI m_Wf_requireWithin w_279 (c_Wf_requireWithin_ok l D t0 L _ _ (lN j2) (lN 0) (lN 40) hw9.1 hw9.2) hl.1 rfl rfl (Nat.le_of_ble_eq_true rfl) d_Wf_round_14 ⟨Nat.le_of_ble_eq_true rfl, Nat.le_of_ble_eq_true rfl⟩ ⟨Nat.le_of_ble_eq_true rfl, Nat.le_of_ble_eq_true rfl⟩ (fun v9 L9 f39 H locs hp hI => ?_)
        refine W.cs (cells' := 0) (slots' := 0) rfl rfl ?_
        obtain ⟨hv9, rfl, rfl⟩ := hp
        cases hv9
        refine hw_stk (st' := []) rfl ?_
        rcases hB3 : inR i3 0 2 with _ | _
        · refine lv_iload hx hb d_Wf_round_17 (lv_at hl 4 rfl) ?_
          refine lv_i2l hx hb d_Wf_round_19 rfl ?_
          refine lv_lconst (v := lN 0) hx hb d_Wf_round_20 rfl ?_
          refine hw_ldc2 (v := lN 2) hx hb hown (hT _ w_591) d_Wf_round_21 ?_
          have hop : opRnd σ (nI j0) (nI j1) (nI j2) i3 = (1, σ) := by unfold opRnd; exact if_neg (by simp [hB3])
          refine hw_xS (As := [.long ((i3).toInt64), .long (lN 0), .long (lN 2)]) (rest := []) S hI m_Wf_requireWithin w_279 (c_Wf_requireWithin_bad l hlt D t0 L _ _ i3.toInt64 (lN 0) (lN 2) (inR_no (by decide) (by decide) hB3)) hl.1 rfl rfl (Nat.le_of_ble_eq_true rfl) d_Wf_round_24 ⟨Nat.le_of_ble_eq_true rfl, Nat.le_of_ble_eq_true rfl⟩ ⟨Nat.le_of_ble_eq_true rfl, Nat.le_of_ble_eq_true rfl⟩ (fun v9 L9 f40 H locs hp hI => hp.elim) (fun E9 ce9 q9 L9 f40 H locs hp hI hc9 hv9 hl9 => ?_)
          obtain ⟨rfl, rfl, rfl⟩ := hp
          exact hw_on hI hout hlocks hc9 hv9 hl9 (⟨Or.inl (⟨rfl, by rw [hop]⟩), rfl, ⟨x, sg, rs, hW, hR⟩, hF⟩) ⟨Nat.le_of_ble_eq_true rfl, Nat.le_of_ble_eq_true rfl⟩
        · obtain ⟨j3, hl3, hj3, rfl⟩ := inR_of (by decide) (by decide) hB3
          have hw9 := win_ok hl3 hj3 (by decide)
          refine lv_iload hx hb d_Wf_round_17 (lv_at hl 4 rfl) ?_
          refine lv_i2l (v := lN j3) hx hb d_Wf_round_19 (nI_l (by omega)) ?_
          refine lv_lconst (v := lN 0) hx hb d_Wf_round_20 rfl ?_
          refine hw_ldc2 (v := lN 2) hx hb hown (hT _ w_591) d_Wf_round_21 ?_
          refine hw_cS (As := [.long (lN j3), .long (lN 0), .long (lN 2)]) (rest := []) S hI m_Wf_requireWithin w_279 (c_Wf_requireWithin_ok l D t0 L _ _ (lN j3) (lN 0) (lN 2) hw9.1 hw9.2) hl.1 rfl rfl (Nat.le_of_ble_eq_true rfl) d_Wf_round_24 ⟨Nat.le_of_ble_eq_true rfl, Nat.le_of_ble_eq_true rfl⟩ ⟨Nat.le_of_ble_eq_true rfl, Nat.le_of_ble_eq_true rfl⟩ (fun v9 L9 f41 H locs hp hI => ?_)
          refine W.cs (cells' := 0) (slots' := 0) rfl rfl ?_
          obtain ⟨hv9, rfl, rfl⟩ := hp
          cases hv9
          refine hw_stk (st' := []) rfl ?_
          have r10 : x (2 * j1) = (σ j1).1 := (hR j1 hj1).1
          have r11 : x (2 * j1 + 1) = (σ j1).2.1 := (hR j1 hj1).2.1
          have r12 : sg j1 = (σ j1).2.2 := (hR j1 hj1).2.2
          have hOk := fun k hk => hok.1 k hk
          have hop : opRnd σ (nI j0) (nI j1) (nI j2) (nI j3) = putR 2 σ (nI j0) (lows (rndQ (σ j1) j2 j3) (10 ^ j2) (σ j1).2.2) := by unfold opRnd; rw [if_pos (by simp [hB0, hB1, hB2, hB3]), ix_nI (j := j1) (by omega), nI_clamp (n := j2) (by omega), nI_clamp (n := j3) (by omega)]
          refine lv_aload_n hx hb d_Wf_round_27 rfl (lv_at hl 0 rfl) ?_
          refine ob_get S hI hW.Wf (C := R_Wf) (T := F_Wf) (N := 3) (ref := "WallFractions") rfl i_Wf 1 (by decide) rfl w_187 rfl d_Wf_round_28 ?_
          refine lv_aload_n hx hb d_Wf_round_31 rfl (lv_at hl 0 rfl) ?_
          refine ob_get S hI hW.Wf (C := R_Wf) (T := F_Wf) (N := 3) (ref := "WallFractions") rfl i_Wf 0 (by decide) rfl w_186 rfl d_Wf_round_32 ?_
          refine lv_iload_n hx hb d_Wf_round_35 rfl (lv_at hl 2 rfl) ?_
          refine rg_ld S hI hW.Rg (by omega) d_Wf_round_36 ?_
          refine lv_iload_n hx hb d_Wf_round_37 rfl (lv_at hl 3 rfl) ?_
          refine lv_iload hx hb d_Wf_round_38 (lv_at hl 4 rfl) ?_
          refine hw_cV (As := [.ref (fr j1), .int (nI j2), .int (nI j3)]) (rest := []) S hI m_Rk_shorten w_592 (c_Rk_shorten l D t0 L _ _ o r fr ad al ab am ak ah aw ar rg wf x sg wt rs j1 j2 j3 hg hW hj1 hj2 hj3 h20 (by rw [r11]; exact (hOk j1 hj1).2.2.1)) hW.Rk rfl hl.1 rfl rfl (Nat.le_of_ble_eq_true rfl) d_Wf_round_40 ⟨Nat.le_of_ble_eq_true rfl, Nat.le_of_ble_eq_true rfl⟩ ⟨Nat.le_of_ble_eq_true rfl, Nat.le_of_ble_eq_true rfl⟩ (fun v9 L9 f42 H locs hp hI => ?_)
          refine W.cs (cells' := 0) (slots' := 0) rfl rfl ?_
          obtain ⟨hv9, rfl, xx42, ss42, hW, e32, e33, g16, hs9, ht9, hF9⟩ := hp
          cases hv9
          refine hw_stk (st' := []) rfl ?_
          have hF := hF.trans hF9
          have hs := fun z (hz : z < 32) => (hs9 z hz).trans (hs z hz)
          have ht := fun z (hz : z < 16) => (ht9 z hz).trans (ht z hz)
          have p32 := e32
          have p33 := e33
          have p16 := g16
          refine lv_aload_n hx hb d_Wf_round_43 rfl (lv_at hl 0 rfl) ?_
          refine ob_get S hI hW.Wf (C := R_Wf) (T := F_Wf) (N := 3) (ref := "WallFractions") rfl i_Wf 1 (by decide) rfl w_187 rfl d_Wf_round_44 ?_
          refine hw_cV (As := []) (rest := []) S hI m_Rk_reduce w_430 (c_Rk_reduce l D t0 L _ _ o r fr ad al ab am ak ah aw ar rg wf xx42 ss42 wt rs  hg hW (by rw [e33]; exact Or.inr (Nat.pow_pos (by decide)))) hW.Rk rfl hl.1 rfl rfl (Nat.le_of_ble_eq_true rfl) d_Wf_round_47 ⟨Nat.le_of_ble_eq_true rfl, Nat.le_of_ble_eq_true rfl⟩ ⟨Nat.le_of_ble_eq_true rfl, Nat.le_of_ble_eq_true rfl⟩ (fun v9 L9 f43 H locs hp hI => ?_)
          refine W.cs (cells' := 0) (slots' := 0) rfl rfl ?_
          obtain ⟨hv9, rfl, xx43, ss43, hW, e32, e33, g16, hs9, ht9, hF9⟩ := hp
          cases hv9
          refine hw_stk (st' := []) rfl ?_
          have hF := hF.trans hF9
          have hs := fun z (hz : z < 32) => (hs9 z hz).trans (hs z hz)
          have ht := fun z (hz : z < 16) => (ht9 z hz).trans (ht z hz)
          rw [p32, p33] at e32 e33
          rw [p32, p16] at g16
          simp only [r10, r11, r12] at e32 e33 g16
          have h32 : xx43 32 = (lows (rndQ (σ j1) j2 j3) (10 ^ j2) (σ j1).2.2).1 := e32
          have h33 : xx43 33 = (lows (rndQ (σ j1) j2 j3) (10 ^ j2) (σ j1).2.2).2.1 := e33
          have h16 : ss43 16 = (lows (rndQ (σ j1) j2 j3) (10 ^ j2) (σ j1).2.2).2.2 := g16
          refine lv_aload_n hx hb d_Wf_round_50 rfl (lv_at hl 0 rfl) ?_
          refine lv_iload_n hx hb d_Wf_round_51 rfl (lv_at hl 1 rfl) ?_
          by_cases hfit : FitX xx43
          · have hop2 := hop.trans (putR_yes ⟨by rw [← h32]; exact hfit.1, by rw [← h33]; exact hfit.2⟩)
            rw [ix_nI (by omega)] at hop2
            refine hw_cV (As := [.int (nI j0)]) (rest := []) S hI m_Wf_keep w_330 (c_Wf_keep_ok l D t0 L _ _ o r fr ad al ab am ak ah aw ar rg wf xx43 ss43 wt rs j0 hg hW (by omega) hfit) hW.Wf rfl hl.1 rfl rfl (Nat.le_of_ble_eq_true rfl) d_Wf_round_52 ⟨Nat.le_of_ble_eq_true rfl, Nat.le_of_ble_eq_true rfl⟩ ⟨Nat.le_of_ble_eq_true rfl, Nat.le_of_ble_eq_true rfl⟩ (fun v9 L9 f45 H locs hp hI => ?_)
            refine W.cs (cells' := 0) (slots' := 0) rfl rfl ?_
            obtain ⟨hv9, rfl, xk, sk, hW, k1, k2, hs9, g9, ht9, hF9⟩ := hp
            cases hv9
            refine hw_stk (st' := []) rfl ?_
            exact W.widen (k := 1) (n := 6) (Nat.le_of_ble_eq_true rfl) (Nat.le_of_ble_eq_true rfl) (vx_ret (hw_vret hx hb hr hlocks hI d_Wf_round_55 ⟨rfl, rfl, by rw [hop2], by rw [hop2]; exact ⟨xk, sk, rs, hW, hR.put hs ht (by omega) h32 h33 h16 k1 k2 hs9 g9 ht9⟩, hF.trans hF9⟩))
          · have hop2 := hop.trans (putR_no (fun h9 => hfit ⟨by rw [h32]; exact h9.1, by rw [h33]; exact h9.2⟩))
            refine hw_xV (As := [.int (nI j0)]) (rest := []) S hI m_Wf_keep w_330 (c_Wf_keep_bad l hlt D t0 L _ _ o r fr ad al ab am ak ah aw ar rg wf xx43 ss43 wt rs j0 hg hW (by omega) hfit) hW.Wf rfl hl.1 rfl rfl (Nat.le_of_ble_eq_true rfl) d_Wf_round_52 ⟨Nat.le_of_ble_eq_true rfl, Nat.le_of_ble_eq_true rfl⟩ ⟨Nat.le_of_ble_eq_true rfl, Nat.le_of_ble_eq_true rfl⟩ (fun v9 L9 f44 H locs hp hI => hp.elim) (fun E9 ce9 q9 L9 f44 H locs hp hI hc9 hv9 hl9 => ?_)
            obtain ⟨rfl, rfl, rfl⟩ := hp
            exact hw_on hI hout hlocks hc9 hv9 hl9 (⟨Or.inr (⟨rfl, by rw [hop2]⟩), rfl, ⟨xx43, ss43, rs, hW, hR.keep hs ht⟩, hF⟩) ⟨Nat.le_of_ble_eq_true rfl, Nat.le_of_ble_eq_true rfl⟩
set_option maxHeartbeats 4000000 in
set_option maxRecDepth 100000 in
theorem c_Wf_root (l : Launch) (hlt : l.stackTraces = false) (D : va_G) (t0 : Nat) (L : List Nat) (f : Nat → va_E) (sz : Nat) (o r fr : Nat → Nat) (ad al ab am ak ah aw ar rg wf : Nat) (σ : Sg) (wt : Nat → Nat) (i0 : Int32) (i1 : Int32) (i2 : Int32) (hg : Gl o r fr ad al ab am ak ah aw ar rg wf) (hS : Sd D L f o r fr ad al ab am ak ah aw ar rg wf σ wt) (hok : Ok σ wt) : vx_Met l y_Wf_root (Cond.code y_Wf_root b_Wf_root 4 none :: TT) ({ frames := 11, cells := 1, slots := 6, locals := 238 } : Room) (hw_Pc t0 [.ref (wf), .int (i0), .int (i1), .int (i2)] D L f sz) (hw_Q D L sz (fun oc L' f' => oc = .returned none ∧ L = L' ∧ (opRoot σ i0 i1 i2).1 = 0 ∧ Sd D L f' o r fr ad al ab am ak ah aw ar rg wf (opRoot σ i0 i1 i2).2 wt ∧ Fm o r fr ad al ab am ak ah aw ar rg wf f f')) (hw_X D L sz (fun E L' f' => ((E = "java/lang/IllegalArgumentException" ∧ (opRoot σ i0 i1 i2).1 = 1) ∨ (E = "java/lang/ArithmeticException" ∧ (opRoot σ i0 i1 i2).1 = 2) ∨ (E = "java/lang/IllegalStateException" ∧ (opRoot σ i0 i1 i2).1 = 3)) ∧ L = L' ∧ Sd D L f' o r fr ad al ab am ak ah aw ar rg wf σ wt ∧ Fm o r fr ad al ab am ak ah aw ar rg wf f f')) 1 6 (hw_A L sz) := by
  refine vx_ofW (cc := b_Wf_root) (maxL := 4) (ret := none) (by decide) rfl ?_
  intro p e s m args below meth c s₁ B hml hout hv
  obtain ⟨rfl, rfl, hI⟩ := hw_start hv
  clear hv
  have hx := B.exec
  have hb := B.bytes
  have hr := B.returns
  have hlocks := B.notSynchronized
  have hown : s.vm.findClass "WallFractions" = some m.cls := findClass_of_methodNamed B.named
  have hT : ∀ w ∈ TT, w.before ([.ref (wf), .int (i0), .int (i1), .int (i2)]).toArray s = true := fun w h => atoms_spec (ws := (Cond.code y_Wf_root b_Wf_root 4 none :: TT)) B.pre w (List.mem_cons_of_mem _ h)
  have S : CallFix p m c b_Wf_root 4 s ([.ref (wf), .int (i0), .int (i1), .int (i2)]).toArray TT "WallFractions" := ⟨hx, hb, hml, hown, hT⟩
  have hl := lv_entry ([.ref (wf), .int (i0), .int (i1), .int (i2)]) (n := 4) (Nat.le_of_ble_eq_true rfl)
  rw [lg_entry_eq]
  generalize (lg_sl ([.ref (wf), .int (i0), .int (i1), .int (i2)]) ++ List.replicate (4 - (lg_sl ([.ref (wf), .int (i0), .int (i1), .int (i2)])).length) Slot.unset).toArray = ls at hl ⊢
  have hl : lv_has ls 4 [(0, .ref (wf)), (1, .int (i0)), (2, .int (i1)), (3, .int (i2))] := hl
  obtain ⟨x, sg, rs, hW, hR⟩ := hS
  have hY := hg.1
  have hF : Fm o r fr ad al ab am ak ah aw ar rg wf f f := Fm.refl
  have hs : ∀ z, z < 32 → x z = x z := fun _ _ => rfl
  have ht : ∀ k, k < 16 → sg k = sg k := fun _ _ => rfl
  have h20 := hok.h20 hR
  rcases hB0 : vr i0 with _ | _
  · refine lv_iload_n hx hb d_Wf_root_0 rfl (lv_at hl 1 rfl) ?_
    have hop : opRoot σ i0 i1 i2 = (1, σ) := by unfold opRoot; exact if_neg (by simp [hB0])
    refine hw_xS (As := [.int (i0)]) (rest := []) S hI m_Wf_requireRegister w_205 (c_Wf_requireRegister_bad l hlt D t0 L _ _ i0 (vr_no hB0)) hl.1 rfl rfl (Nat.le_of_ble_eq_true rfl) d_Wf_root_1 ⟨Nat.le_of_ble_eq_true rfl, Nat.le_of_ble_eq_true rfl⟩ ⟨Nat.le_of_ble_eq_true rfl, Nat.le_of_ble_eq_true rfl⟩ (fun v9 L9 f46 H locs hp hI => hp.elim) (fun E9 ce9 q9 L9 f46 H locs hp hI hc9 hv9 hl9 => ?_)
    obtain ⟨rfl, rfl, rfl⟩ := hp
    exact hw_on hI hout hlocks hc9 hv9 hl9 (⟨Or.inl (⟨rfl, by rw [hop]⟩), rfl, ⟨x, sg, rs, hW, hR⟩, hF⟩) ⟨Nat.le_of_ble_eq_true rfl, Nat.le_of_ble_eq_true rfl⟩
  · obtain ⟨j0, hj0, rfl⟩ := vr_of hB0
    refine lv_iload_n hx hb d_Wf_root_0 rfl (lv_at hl 1 rfl) ?_
    refine hw_cS (As := [.int (nI j0)]) (rest := []) S hI m_Wf_requireRegister w_205 (c_Wf_requireRegister_ok l D t0 L _ _ j0 hj0) hl.1 rfl rfl (Nat.le_of_ble_eq_true rfl) d_Wf_root_1 ⟨Nat.le_of_ble_eq_true rfl, Nat.le_of_ble_eq_true rfl⟩ ⟨Nat.le_of_ble_eq_true rfl, Nat.le_of_ble_eq_true rfl⟩ (fun v9 L9 f47 H locs hp hI => ?_)
    refine W.cs (cells' := 0) (slots' := 0) rfl rfl ?_
    obtain ⟨hv9, rfl, rfl⟩ := hp
    cases hv9
    refine hw_stk (st' := []) rfl ?_
    rcases hB1 : vr i1 with _ | _
    · refine lv_iload_n hx hb d_Wf_root_4 rfl (lv_at hl 2 rfl) ?_
      have hop : opRoot σ (nI j0) i1 i2 = (1, σ) := by unfold opRoot; exact if_neg (by simp [hB1])
      refine hw_xS (As := [.int (i1)]) (rest := []) S hI m_Wf_requireRegister w_205 (c_Wf_requireRegister_bad l hlt D t0 L _ _ i1 (vr_no hB1)) hl.1 rfl rfl (Nat.le_of_ble_eq_true rfl) d_Wf_root_5 ⟨Nat.le_of_ble_eq_true rfl, Nat.le_of_ble_eq_true rfl⟩ ⟨Nat.le_of_ble_eq_true rfl, Nat.le_of_ble_eq_true rfl⟩ (fun v9 L9 f48 H locs hp hI => hp.elim) (fun E9 ce9 q9 L9 f48 H locs hp hI hc9 hv9 hl9 => ?_)
      obtain ⟨rfl, rfl, rfl⟩ := hp
      exact hw_on hI hout hlocks hc9 hv9 hl9 (⟨Or.inl (⟨rfl, by rw [hop]⟩), rfl, ⟨x, sg, rs, hW, hR⟩, hF⟩) ⟨Nat.le_of_ble_eq_true rfl, Nat.le_of_ble_eq_true rfl⟩
    · obtain ⟨j1, hj1, rfl⟩ := vr_of hB1
      refine lv_iload_n hx hb d_Wf_root_4 rfl (lv_at hl 2 rfl) ?_
      refine hw_cS (As := [.int (nI j1)]) (rest := []) S hI m_Wf_requireRegister w_205 (c_Wf_requireRegister_ok l D t0 L _ _ j1 hj1) hl.1 rfl rfl (Nat.le_of_ble_eq_true rfl) d_Wf_root_5 ⟨Nat.le_of_ble_eq_true rfl, Nat.le_of_ble_eq_true rfl⟩ ⟨Nat.le_of_ble_eq_true rfl, Nat.le_of_ble_eq_true rfl⟩ (fun v9 L9 f49 H locs hp hI => ?_)
      refine W.cs (cells' := 0) (slots' := 0) rfl rfl ?_
      obtain ⟨hv9, rfl, rfl⟩ := hp
      cases hv9
      refine hw_stk (st' := []) rfl ?_
      rcases hB2 : inR i2 0 40 with _ | _
      · refine lv_iload_n hx hb d_Wf_root_8 rfl (lv_at hl 3 rfl) ?_
        refine lv_i2l hx hb d_Wf_root_9 rfl ?_
        refine lv_lconst (v := lN 0) hx hb d_Wf_root_10 rfl ?_
        refine hw_ldc2 (v := lN 40) hx hb hown (hT _ w_590) d_Wf_root_11 ?_
        have hop : opRoot σ (nI j0) (nI j1) i2 = (1, σ) := by unfold opRoot; exact if_neg (by simp [hB2])
        refine hw_xS (As := [.long ((i2).toInt64), .long (lN 0), .long (lN 40)]) (rest := []) S hI m_Wf_requireWithin w_279 (c_Wf_requireWithin_bad l hlt D t0 L _ _ i2.toInt64 (lN 0) (lN 40) (inR_no (by decide) (by decide) hB2)) hl.1 rfl rfl (Nat.le_of_ble_eq_true rfl) d_Wf_root_14 ⟨Nat.le_of_ble_eq_true rfl, Nat.le_of_ble_eq_true rfl⟩ ⟨Nat.le_of_ble_eq_true rfl, Nat.le_of_ble_eq_true rfl⟩ (fun v9 L9 f50 H locs hp hI => hp.elim) (fun E9 ce9 q9 L9 f50 H locs hp hI hc9 hv9 hl9 => ?_)
        obtain ⟨rfl, rfl, rfl⟩ := hp
        exact hw_on hI hout hlocks hc9 hv9 hl9 (⟨Or.inl (⟨rfl, by rw [hop]⟩), rfl, ⟨x, sg, rs, hW, hR⟩, hF⟩) ⟨Nat.le_of_ble_eq_true rfl, Nat.le_of_ble_eq_true rfl⟩
      · obtain ⟨j2, hl2, hj2, rfl⟩ := inR_of (by decide) (by decide) hB2
        have hw9 := win_ok hl2 hj2 (by decide)
        refine lv_iload_n hx hb d_Wf_root_8 rfl (lv_at hl 3 rfl) ?_
        refine lv_i2l (v := lN j2) hx hb d_Wf_root_9 (nI_l (by omega)) ?_
        refine lv_lconst (v := lN 0) hx hb d_Wf_root_10 rfl ?_
        refine hw_ldc2 (v := lN 40) hx hb hown (hT _ w_590) d_Wf_root_11 ?_
        refine hw_cS (As := [.long (lN j2), .long (lN 0), .long (lN 40)]) (rest := []) S hI m_Wf_requireWithin w_279 (c_Wf_requireWithin_ok l D t0 L _ _ (lN j2) (lN 0) (lN 40) hw9.1 hw9.2) hl.1 rfl rfl (Nat.le_of_ble_eq_true rfl) d_Wf_root_14 ⟨Nat.le_of_ble_eq_true rfl, Nat.le_of_ble_eq_true rfl⟩ ⟨Nat.le_of_ble_eq_true rfl, Nat.le_of_ble_eq_true rfl⟩ (fun v9 L9 f51 H locs hp hI => ?_)
        refine W.cs (cells' := 0) (slots' := 0) rfl rfl ?_
        obtain ⟨hv9, rfl, rfl⟩ := hp
        cases hv9
        refine hw_stk (st' := []) rfl ?_
        have r10 : x (2 * j1) = (σ j1).1 := (hR j1 hj1).1
        have r11 : x (2 * j1 + 1) = (σ j1).2.1 := (hR j1 hj1).2.1
        have r12 : sg j1 = (σ j1).2.2 := (hR j1 hj1).2.2
        have hOk := fun k hk => hok.1 k hk
        have hop : opRoot σ (nI j0) (nI j1) (nI j2) = (if (σ j1).2.2 then (2, σ) else putR 3 σ (nI j0) (lows (isq ((σ j1).1 * 10 ^ (2 * j2) / (σ j1).2.1)) (10 ^ j2) false)) := by unfold opRoot; rw [if_pos (by simp [hB0, hB1, hB2]), ix_nI (j := j1) (by omega), nI_clamp (n := j2) (by omega)]
        refine lv_aload_n hx hb d_Wf_root_17 rfl (lv_at hl 0 rfl) ?_
        refine ob_get S hI hW.Wf (C := R_Wf) (T := F_Wf) (N := 3) (ref := "WallFractions") rfl i_Wf 0 (by decide) rfl w_186 rfl d_Wf_root_18 ?_
        refine lv_iload_n hx hb d_Wf_root_21 rfl (lv_at hl 2 rfl) ?_
        refine rg_ld S hI hW.Rg (by omega) d_Wf_root_22 ?_
        refine ob_getN S hI (hW.Fr (by omega)) (C := R_Fr) (T := F_Fr) (N := 3) (ref := "WallFractions$Fraction") rfl i_Fr 2 (by decide) rfl (by decide +kernel) rfl d_Wf_root_23 ?_
        refine lv_if_eq (tgt := 39) hx hb d_Wf_root_26 (by decide) (fun c52 => ?_) (fun c52 => ?_)
        · have hz : ¬ ((σ j1).2.2 = true) := by rw [← r12, sB_z.mp c52]; decide
          rw [if_neg hz] at hop
          refine lv_aload_n hx hb d_Wf_root_39 rfl (lv_at hl 0 rfl) ?_
          refine ob_get S hI hW.Wf (C := R_Wf) (T := F_Wf) (N := 3) (ref := "WallFractions") rfl i_Wf 1 (by decide) rfl w_187 rfl d_Wf_root_40 ?_
          refine lv_aload_n hx hb d_Wf_root_43 rfl (lv_at hl 0 rfl) ?_
          refine ob_get S hI hW.Wf (C := R_Wf) (T := F_Wf) (N := 3) (ref := "WallFractions") rfl i_Wf 0 (by decide) rfl w_186 rfl d_Wf_root_44 ?_
          refine lv_iload_n hx hb d_Wf_root_47 rfl (lv_at hl 2 rfl) ?_
          refine rg_ld S hI hW.Rg (by omega) d_Wf_root_48 ?_
          refine lv_iload_n hx hb d_Wf_root_49 rfl (lv_at hl 3 rfl) ?_
          refine hw_cV (As := [.ref (fr j1), .int (nI j2)]) (rest := []) S hI m_Rk_extractRoot w_617 (c_Rk_extractRoot l D t0 L _ _ o r fr ad al ab am ak ah aw ar rg wf x sg wt rs j1 j2 hg hW hj1 hj2 h20 (by rw [r11]; exact (hOk j1 hj1).2.2.1)) hW.Rk rfl hl.1 rfl rfl (Nat.le_of_ble_eq_true rfl) d_Wf_root_50 ⟨Nat.le_of_ble_eq_true rfl, Nat.le_of_ble_eq_true rfl⟩ ⟨Nat.le_of_ble_eq_true rfl, Nat.le_of_ble_eq_true rfl⟩ (fun v9 L9 f53 H locs hp hI => ?_)
          refine W.cs (cells' := 0) (slots' := 0) rfl rfl ?_
          obtain ⟨hv9, rfl, xx53, ss53, hW, e32, e33, g16, hs9, ht9, hF9⟩ := hp
          cases hv9
          refine hw_stk (st' := []) rfl ?_
          have hF := hF.trans hF9
          have hs := fun z (hz : z < 32) => (hs9 z hz).trans (hs z hz)
          have ht := fun z (hz : z < 16) => (ht9 z hz).trans (ht z hz)
          have p32 := e32
          have p33 := e33
          have p16 := g16
          refine lv_aload_n hx hb d_Wf_root_53 rfl (lv_at hl 0 rfl) ?_
          refine ob_get S hI hW.Wf (C := R_Wf) (T := F_Wf) (N := 3) (ref := "WallFractions") rfl i_Wf 1 (by decide) rfl w_187 rfl d_Wf_root_54 ?_
          refine hw_cV (As := []) (rest := []) S hI m_Rk_reduce w_430 (c_Rk_reduce l D t0 L _ _ o r fr ad al ab am ak ah aw ar rg wf xx53 ss53 wt rs  hg hW (by rw [e33]; exact Or.inr (Nat.pow_pos (by decide)))) hW.Rk rfl hl.1 rfl rfl (Nat.le_of_ble_eq_true rfl) d_Wf_root_57 ⟨Nat.le_of_ble_eq_true rfl, Nat.le_of_ble_eq_true rfl⟩ ⟨Nat.le_of_ble_eq_true rfl, Nat.le_of_ble_eq_true rfl⟩ (fun v9 L9 f54 H locs hp hI => ?_)
          refine W.cs (cells' := 0) (slots' := 0) rfl rfl ?_
          obtain ⟨hv9, rfl, xx54, ss54, hW, e32, e33, g16, hs9, ht9, hF9⟩ := hp
          cases hv9
          refine hw_stk (st' := []) rfl ?_
          have hF := hF.trans hF9
          have hs := fun z (hz : z < 32) => (hs9 z hz).trans (hs z hz)
          have ht := fun z (hz : z < 16) => (ht9 z hz).trans (ht z hz)
          rw [p32, p33] at e32 e33
          rw [p32, p16] at g16
          have g16 : ss54 16 = false := by rw [g16]; unfold sgz; split <;> rfl
          simp only [r10, r11] at e32 e33
          have h32 : xx54 32 = (lows (isq ((σ j1).1 * 10 ^ (2 * j2) / (σ j1).2.1)) (10 ^ j2) false).1 := e32
          have h33 : xx54 33 = (lows (isq ((σ j1).1 * 10 ^ (2 * j2) / (σ j1).2.1)) (10 ^ j2) false).2.1 := e33
          have h16 : ss54 16 = (lows (isq ((σ j1).1 * 10 ^ (2 * j2) / (σ j1).2.1)) (10 ^ j2) false).2.2 := by rw [g16]; show false = sgz _ _; unfold sgz; split <;> rfl
          refine lv_aload_n hx hb d_Wf_root_60 rfl (lv_at hl 0 rfl) ?_
          refine lv_iload_n hx hb d_Wf_root_61 rfl (lv_at hl 1 rfl) ?_
          by_cases hfit : FitX xx54
          · have hop2 := hop.trans (putR_yes ⟨by rw [← h32]; exact hfit.1, by rw [← h33]; exact hfit.2⟩)
            rw [ix_nI (by omega)] at hop2
            refine hw_cV (As := [.int (nI j0)]) (rest := []) S hI m_Wf_keep w_330 (c_Wf_keep_ok l D t0 L _ _ o r fr ad al ab am ak ah aw ar rg wf xx54 ss54 wt rs j0 hg hW (by omega) hfit) hW.Wf rfl hl.1 rfl rfl (Nat.le_of_ble_eq_true rfl) d_Wf_root_62 ⟨Nat.le_of_ble_eq_true rfl, Nat.le_of_ble_eq_true rfl⟩ ⟨Nat.le_of_ble_eq_true rfl, Nat.le_of_ble_eq_true rfl⟩ (fun v9 L9 f56 H locs hp hI => ?_)
            refine W.cs (cells' := 0) (slots' := 0) rfl rfl ?_
            obtain ⟨hv9, rfl, xk, sk, hW, k1, k2, hs9, g9, ht9, hF9⟩ := hp
            cases hv9
            refine hw_stk (st' := []) rfl ?_
            exact W.widen (k := 1) (n := 6) (Nat.le_of_ble_eq_true rfl) (Nat.le_of_ble_eq_true rfl) (vx_ret (hw_vret hx hb hr hlocks hI d_Wf_root_65 ⟨rfl, rfl, by rw [hop2], by rw [hop2]; exact ⟨xk, sk, rs, hW, hR.put hs ht (by omega) h32 h33 h16 k1 k2 hs9 g9 ht9⟩, hF.trans hF9⟩))
          · have hop2 := hop.trans (putR_no (fun h9 => hfit ⟨by rw [h32]; exact h9.1, by rw [h33]; exact h9.2⟩))
            refine hw_xV (As := [.int (nI j0)]) (rest := []) S hI m_Wf_keep w_330 (c_Wf_keep_bad l hlt D t0 L _ _ o r fr ad al ab am ak ah aw ar rg wf xx54 ss54 wt rs j0 hg hW (by omega) hfit) hW.Wf rfl hl.1 rfl rfl (Nat.le_of_ble_eq_true rfl) d_Wf_root_62 ⟨Nat.le_of_ble_eq_true rfl, Nat.le_of_ble_eq_true rfl⟩ ⟨Nat.le_of_ble_eq_true rfl, Nat.le_of_ble_eq_true rfl⟩ (fun v9 L9 f55 H locs hp hI => hp.elim) (fun E9 ce9 q9 L9 f55 H locs hp hI hc9 hv9 hl9 => ?_)
            obtain ⟨rfl, rfl, rfl⟩ := hp
            exact hw_on hI hout hlocks hc9 hv9 hl9 (⟨Or.inr (Or.inr (⟨rfl, by rw [hop2]⟩)), rfl, ⟨xx54, ss54, rs, hW, hR.keep hs ht⟩, hF⟩) ⟨Nat.le_of_ble_eq_true rfl, Nat.le_of_ble_eq_true rfl⟩
        · rw [if_pos (by rw [← r12]; exact bool_ne0 c52)] at hop
          exact hw_thr S hI hlt hout hlocks (text := "a is below 0") thr_2 (by decide) w_283 w_13 hl.1 d_Wf_root_29 d_Wf_root_32 d_Wf_root_33 d_Wf_root_35 d_Wf_root_38 (Nat.le_of_ble_eq_true rfl) (Nat.le_of_ble_eq_true rfl) ⟨Nat.le_of_ble_eq_true rfl, Nat.le_of_ble_eq_true rfl⟩ ⟨Nat.le_of_ble_eq_true rfl, Nat.le_of_ble_eq_true rfl⟩ (⟨Or.inr (Or.inl (⟨rfl, by rw [hop]⟩)), rfl, ⟨x, sg, rs, hW, hR⟩, hF⟩)
set_option maxHeartbeats 4000000 in
set_option maxRecDepth 100000 in
theorem c_Wf_share (l : Launch) (hlt : l.stackTraces = false) (D : va_G) (t0 : Nat) (L : List Nat) (f : Nat → va_E) (sz : Nat) (o r fr : Nat → Nat) (ad al ab am ak ah aw ar rg wf : Nat) (σ : Sg) (wt : Nat → Nat) (i0 : Int32) (i1 : Int32) (i2 : Int32) (hg : Gl o r fr ad al ab am ak ah aw ar rg wf) (hS : Sd D L f o r fr ad al ab am ak ah aw ar rg wf σ wt) (hok : Ok σ wt) : vx_Met l y_Wf_share (Cond.code y_Wf_share b_Wf_share 4 none :: TT) ({ frames := 10, cells := 1, slots := 6, locals := 219 } : Room) (hw_Pc t0 [.ref (wf), .int (i0), .int (i1), .int (i2)] D L f sz) (hw_Q D L sz (fun oc L' f' => oc = .returned none ∧ L = L' ∧ (opShr σ wt i0 i1 i2).1 = 0 ∧ Sd D L f' o r fr ad al ab am ak ah aw ar rg wf (opShr σ wt i0 i1 i2).2 wt ∧ Fm o r fr ad al ab am ak ah aw ar rg wf f f')) (hw_X D L sz (fun E L' f' => ((E = "java/lang/IllegalArgumentException" ∧ (opShr σ wt i0 i1 i2).1 = 1) ∨ (E = "java/lang/ArithmeticException" ∧ (opShr σ wt i0 i1 i2).1 = 2) ∨ (E = "java/lang/IllegalStateException" ∧ (opShr σ wt i0 i1 i2).1 = 3)) ∧ L = L' ∧ Sd D L f' o r fr ad al ab am ak ah aw ar rg wf σ wt ∧ Fm o r fr ad al ab am ak ah aw ar rg wf f f')) 1 6 (hw_A L sz) := by
  refine vx_ofW (cc := b_Wf_share) (maxL := 4) (ret := none) (by decide) rfl ?_
  intro p e s m args below meth c s₁ B hml hout hv
  obtain ⟨rfl, rfl, hI⟩ := hw_start hv
  clear hv
  have hx := B.exec
  have hb := B.bytes
  have hr := B.returns
  have hlocks := B.notSynchronized
  have hown : s.vm.findClass "WallFractions" = some m.cls := findClass_of_methodNamed B.named
  have hT : ∀ w ∈ TT, w.before ([.ref (wf), .int (i0), .int (i1), .int (i2)]).toArray s = true := fun w h => atoms_spec (ws := (Cond.code y_Wf_share b_Wf_share 4 none :: TT)) B.pre w (List.mem_cons_of_mem _ h)
  have S : CallFix p m c b_Wf_share 4 s ([.ref (wf), .int (i0), .int (i1), .int (i2)]).toArray TT "WallFractions" := ⟨hx, hb, hml, hown, hT⟩
  have hl := lv_entry ([.ref (wf), .int (i0), .int (i1), .int (i2)]) (n := 4) (Nat.le_of_ble_eq_true rfl)
  rw [lg_entry_eq]
  generalize (lg_sl ([.ref (wf), .int (i0), .int (i1), .int (i2)]) ++ List.replicate (4 - (lg_sl ([.ref (wf), .int (i0), .int (i1), .int (i2)])).length) Slot.unset).toArray = ls at hl ⊢
  have hl : lv_has ls 4 [(0, .ref (wf)), (1, .int (i0)), (2, .int (i1)), (3, .int (i2))] := hl
  obtain ⟨x, sg, rs, hW, hR⟩ := hS
  have hY := hg.1
  have hF : Fm o r fr ad al ab am ak ah aw ar rg wf f f := Fm.refl
  have hs : ∀ z, z < 32 → x z = x z := fun _ _ => rfl
  have ht : ∀ k, k < 16 → sg k = sg k := fun _ _ => rfl
  have h20 := hok.h20 hR
  rcases hB0 : vr i0 with _ | _
  · refine lv_iload_n hx hb d_Wf_share_0 rfl (lv_at hl 1 rfl) ?_
    have hop : opShr σ wt i0 i1 i2 = (1, σ) := by unfold opShr; exact if_neg (by simp [hB0])
    refine hw_xS (As := [.int (i0)]) (rest := []) S hI m_Wf_requireRegister w_205 (c_Wf_requireRegister_bad l hlt D t0 L _ _ i0 (vr_no hB0)) hl.1 rfl rfl (Nat.le_of_ble_eq_true rfl) d_Wf_share_1 ⟨Nat.le_of_ble_eq_true rfl, Nat.le_of_ble_eq_true rfl⟩ ⟨Nat.le_of_ble_eq_true rfl, Nat.le_of_ble_eq_true rfl⟩ (fun v9 L9 f57 H locs hp hI => hp.elim) (fun E9 ce9 q9 L9 f57 H locs hp hI hc9 hv9 hl9 => ?_)
    obtain ⟨rfl, rfl, rfl⟩ := hp
    exact hw_on hI hout hlocks hc9 hv9 hl9 (⟨Or.inl (⟨rfl, by rw [hop]⟩), rfl, ⟨x, sg, rs, hW, hR⟩, hF⟩) ⟨Nat.le_of_ble_eq_true rfl, Nat.le_of_ble_eq_true rfl⟩
  · obtain ⟨j0, hj0, rfl⟩ := vr_of hB0
    refine lv_iload_n hx hb d_Wf_share_0 rfl (lv_at hl 1 rfl) ?_
    refine hw_cS (As := [.int (nI j0)]) (rest := []) S hI m_Wf_requireRegister w_205 (c_Wf_requireRegister_ok l D t0 L _ _ j0 hj0) hl.1 rfl rfl (Nat.le_of_ble_eq_true rfl) d_Wf_share_1 ⟨Nat.le_of_ble_eq_true rfl, Nat.le_of_ble_eq_true rfl⟩ ⟨Nat.le_of_ble_eq_true rfl, Nat.le_of_ble_eq_true rfl⟩ (fun v9 L9 f58 H locs hp hI => ?_)
    refine W.cs (cells' := 0) (slots' := 0) rfl rfl ?_
    obtain ⟨hv9, rfl, rfl⟩ := hp
    cases hv9
    refine hw_stk (st' := []) rfl ?_
    rcases hB1 : vr i1 with _ | _
    · refine lv_iload_n hx hb d_Wf_share_4 rfl (lv_at hl 2 rfl) ?_
      have hop : opShr σ wt (nI j0) i1 i2 = (1, σ) := by unfold opShr; exact if_neg (by simp [hB1])
      refine hw_xS (As := [.int (i1)]) (rest := []) S hI m_Wf_requireRegister w_205 (c_Wf_requireRegister_bad l hlt D t0 L _ _ i1 (vr_no hB1)) hl.1 rfl rfl (Nat.le_of_ble_eq_true rfl) d_Wf_share_5 ⟨Nat.le_of_ble_eq_true rfl, Nat.le_of_ble_eq_true rfl⟩ ⟨Nat.le_of_ble_eq_true rfl, Nat.le_of_ble_eq_true rfl⟩ (fun v9 L9 f59 H locs hp hI => hp.elim) (fun E9 ce9 q9 L9 f59 H locs hp hI hc9 hv9 hl9 => ?_)
      obtain ⟨rfl, rfl, rfl⟩ := hp
      exact hw_on hI hout hlocks hc9 hv9 hl9 (⟨Or.inl (⟨rfl, by rw [hop]⟩), rfl, ⟨x, sg, rs, hW, hR⟩, hF⟩) ⟨Nat.le_of_ble_eq_true rfl, Nat.le_of_ble_eq_true rfl⟩
    · obtain ⟨j1, hj1, rfl⟩ := vr_of hB1
      refine lv_iload_n hx hb d_Wf_share_4 rfl (lv_at hl 2 rfl) ?_
      refine hw_cS (As := [.int (nI j1)]) (rest := []) S hI m_Wf_requireRegister w_205 (c_Wf_requireRegister_ok l D t0 L _ _ j1 hj1) hl.1 rfl rfl (Nat.le_of_ble_eq_true rfl) d_Wf_share_5 ⟨Nat.le_of_ble_eq_true rfl, Nat.le_of_ble_eq_true rfl⟩ ⟨Nat.le_of_ble_eq_true rfl, Nat.le_of_ble_eq_true rfl⟩ (fun v9 L9 f60 H locs hp hI => ?_)
      refine W.cs (cells' := 0) (slots' := 0) rfl rfl ?_
      obtain ⟨hv9, rfl, rfl⟩ := hp
      cases hv9
      refine hw_stk (st' := []) rfl ?_
      rcases hB2 : inR i2 0 9 with _ | _
      · refine lv_iload_n hx hb d_Wf_share_8 rfl (lv_at hl 3 rfl) ?_
        refine lv_i2l hx hb d_Wf_share_9 rfl ?_
        refine lv_lconst (v := lN 0) hx hb d_Wf_share_10 rfl ?_
        refine hw_ldc2 (v := lN 9) hx hb hown (hT _ w_728) d_Wf_share_11 ?_
        have hop : opShr σ wt (nI j0) (nI j1) i2 = (1, σ) := by unfold opShr; exact if_neg (by simp [hB2])
        refine hw_xS (As := [.long ((i2).toInt64), .long (lN 0), .long (lN 9)]) (rest := []) S hI m_Wf_requireWithin w_279 (c_Wf_requireWithin_bad l hlt D t0 L _ _ i2.toInt64 (lN 0) (lN 9) (inR_no (by decide) (by decide) hB2)) hl.1 rfl rfl (Nat.le_of_ble_eq_true rfl) d_Wf_share_14 ⟨Nat.le_of_ble_eq_true rfl, Nat.le_of_ble_eq_true rfl⟩ ⟨Nat.le_of_ble_eq_true rfl, Nat.le_of_ble_eq_true rfl⟩ (fun v9 L9 f61 H locs hp hI => hp.elim) (fun E9 ce9 q9 L9 f61 H locs hp hI hc9 hv9 hl9 => ?_)
        obtain ⟨rfl, rfl, rfl⟩ := hp
        exact hw_on hI hout hlocks hc9 hv9 hl9 (⟨Or.inl (⟨rfl, by rw [hop]⟩), rfl, ⟨x, sg, rs, hW, hR⟩, hF⟩) ⟨Nat.le_of_ble_eq_true rfl, Nat.le_of_ble_eq_true rfl⟩
      · obtain ⟨j2, hl2, hj2, rfl⟩ := inR_of (by decide) (by decide) hB2
        have hw9 := win_ok hl2 hj2 (by decide)
        refine lv_iload_n hx hb d_Wf_share_8 rfl (lv_at hl 3 rfl) ?_
        refine lv_i2l (v := lN j2) hx hb d_Wf_share_9 (nI_l (by omega)) ?_
        refine lv_lconst (v := lN 0) hx hb d_Wf_share_10 rfl ?_
        refine hw_ldc2 (v := lN 9) hx hb hown (hT _ w_728) d_Wf_share_11 ?_
        refine hw_cS (As := [.long (lN j2), .long (lN 0), .long (lN 9)]) (rest := []) S hI m_Wf_requireWithin w_279 (c_Wf_requireWithin_ok l D t0 L _ _ (lN j2) (lN 0) (lN 9) hw9.1 hw9.2) hl.1 rfl rfl (Nat.le_of_ble_eq_true rfl) d_Wf_share_14 ⟨Nat.le_of_ble_eq_true rfl, Nat.le_of_ble_eq_true rfl⟩ ⟨Nat.le_of_ble_eq_true rfl, Nat.le_of_ble_eq_true rfl⟩ (fun v9 L9 f62 H locs hp hI => ?_)
        refine W.cs (cells' := 0) (slots' := 0) rfl rfl ?_
        obtain ⟨hv9, rfl, rfl⟩ := hp
        cases hv9
        refine hw_stk (st' := []) rfl ?_
        have r10 : x (2 * j1) = (σ j1).1 := (hR j1 hj1).1
        have r11 : x (2 * j1 + 1) = (σ j1).2.1 := (hR j1 hj1).2.1
        have r12 : sg j1 = (σ j1).2.2 := (hR j1 hj1).2.2
        have hOk := fun k hk => hok.1 k hk
        have hop : opShr σ wt (nI j0) (nI j1) (nI j2) = (if sumN wt 10 = 0 then (2, σ) else if (σ j1).2.1 = 1 ∧ (σ j1).2.2 = false then putR 3 σ (nI j0) (shF (σ j1).1 wt j2, 1, false) else (3, σ)) := by unfold opShr; rw [if_pos (by simp [hB0, hB1, hB2]), ix_nI (j := j1) (by omega), nI_clamp (n := j2) (by omega)]
        have hsum := sumN_le hok.2
        refine lv_aload_n hx hb d_Wf_share_17 rfl (lv_at hl 0 rfl) ?_
        refine ob_get S hI hW.Wf (C := R_Wf) (T := F_Wf) (N := 3) (ref := "WallFractions") rfl i_Wf 2 (by decide) rfl w_188 rfl d_Wf_share_18 ?_
        refine hw_cV (As := []) (rest := []) S hI m_Sh_sumOfWeights w_740 (c_Sh_sumOfWeights l D t0 L _ _ o r fr ad al ab am ak ah aw ar rg wf x sg wt rs hg hW hok.2) hW.Sh rfl hl.1 rfl rfl (Nat.le_of_ble_eq_true rfl) d_Wf_share_21 ⟨Nat.le_of_ble_eq_true rfl, Nat.le_of_ble_eq_true rfl⟩ ⟨Nat.le_of_ble_eq_true rfl, Nat.le_of_ble_eq_true rfl⟩ (fun v9 L9 f63 H locs hp hI => ?_)
        refine W.cs (cells' := 0) (slots' := 0) rfl rfl ?_
        obtain ⟨hv9, rfl, rfl⟩ := hp
        cases hv9
        refine hw_stk (st' := [.long (lN (sumN wt 10))]) rfl ?_
        refine lv_lconst (v := lN 0) hx hb d_Wf_share_24 rfl ?_
        refine hw_l_ne (tgt := 39) hx hb d_Wf_share_25 d_Wf_share_26 (by decide) (fun c64 => ?_) (fun c64 => ?_)
        · have hz : sumN wt 10 ≠ 0 := fun h => c64 (by rw [h])
          rw [if_neg hz] at hop
          refine lv_aload_n hx hb d_Wf_share_39 rfl (lv_at hl 0 rfl) ?_
          refine ob_get S hI hW.Wf (C := R_Wf) (T := F_Wf) (N := 3) (ref := "WallFractions") rfl i_Wf 0 (by decide) rfl w_186 rfl d_Wf_share_40 ?_
          refine lv_iload_n hx hb d_Wf_share_43 rfl (lv_at hl 2 rfl) ?_
          refine rg_ld S hI hW.Rg (by omega) d_Wf_share_44 ?_
          by_cases hwh : x (2 * j1 + 1) = 1
          · refine hw_cS (As := [.ref (fr j1)]) (rest := []) S hI m_Wf_requireWhole w_365 (c_Wf_requireWhole_ok l D t0 L _ _ o r fr ad al ab am ak ah aw ar rg wf x sg wt rs j1 hg hW hj1 hwh) hl.1 rfl rfl (Nat.le_of_ble_eq_true rfl) d_Wf_share_45 ⟨Nat.le_of_ble_eq_true rfl, Nat.le_of_ble_eq_true rfl⟩ ⟨Nat.le_of_ble_eq_true rfl, Nat.le_of_ble_eq_true rfl⟩ (fun v9 L9 f66 H locs hp hI => ?_)
            refine W.cs (cells' := 0) (slots' := 0) rfl rfl ?_
            obtain ⟨hv9, rfl, rfl⟩ := hp
            cases hv9
            refine hw_stk (st' := []) rfl ?_
            refine lv_aload_n hx hb d_Wf_share_48 rfl (lv_at hl 0 rfl) ?_
            refine ob_get S hI hW.Wf (C := R_Wf) (T := F_Wf) (N := 3) (ref := "WallFractions") rfl i_Wf 0 (by decide) rfl w_186 rfl d_Wf_share_49 ?_
            refine lv_iload_n hx hb d_Wf_share_52 rfl (lv_at hl 2 rfl) ?_
            refine rg_ld S hI hW.Rg (by omega) d_Wf_share_53 ?_
            refine ob_getN S hI (hW.Fr (by omega)) (C := R_Fr) (T := F_Fr) (N := 3) (ref := "WallFractions$Fraction") rfl i_Fr 2 (by decide) rfl (by decide +kernel) rfl d_Wf_share_54 ?_
            refine lv_if_eq (tgt := 70) hx hb d_Wf_share_57 (by decide) (fun c67 => ?_) (fun c67 => ?_)
            · rw [if_pos ⟨by rw [← r11]; exact hwh, by rw [← r12]; exact sB_z.mp c67⟩] at hop
              refine lv_aload_n hx hb d_Wf_share_70 rfl (lv_at hl 0 rfl) ?_
              refine ob_get S hI hW.Wf (C := R_Wf) (T := F_Wf) (N := 3) (ref := "WallFractions") rfl i_Wf 1 (by decide) rfl w_187 rfl d_Wf_share_71 ?_
              refine lv_aload_n hx hb d_Wf_share_74 rfl (lv_at hl 0 rfl) ?_
              refine ob_get S hI hW.Wf (C := R_Wf) (T := F_Wf) (N := 3) (ref := "WallFractions") rfl i_Wf 2 (by decide) rfl w_188 rfl d_Wf_share_75 ?_
              refine lv_aload_n hx hb d_Wf_share_78 rfl (lv_at hl 0 rfl) ?_
              refine ob_get S hI hW.Wf (C := R_Wf) (T := F_Wf) (N := 3) (ref := "WallFractions") rfl i_Wf 0 (by decide) rfl w_186 rfl d_Wf_share_79 ?_
              refine lv_iload_n hx hb d_Wf_share_82 rfl (lv_at hl 2 rfl) ?_
              refine rg_ld S hI hW.Rg (by omega) d_Wf_share_83 ?_
              refine ob_getN S hI (hW.Fr (by omega)) (C := R_Fr) (T := F_Fr) (N := 3) (ref := "WallFractions$Fraction") rfl i_Fr 0 (by decide) rfl (by decide +kernel) rfl d_Wf_share_84 ?_
              refine lv_iload_n hx hb d_Wf_share_87 rfl (lv_at hl 3 rfl) ?_
              refine hw_cV (As := [.ref (o (2 * j1)), .int (nI j2)]) (rest := [.ref (ak)]) S hI m_Sh_shareOf w_745 (c_Sh_shareOf l D t0 L _ _ o r fr ad al ab am ak ah aw ar rg wf x sg wt rs (2 * j1) j2 hg hW hok.2 (by omega) (by omega) (h20 _ (by omega)) (by omega)) hW.Sh rfl hl.1 rfl rfl (Nat.le_of_ble_eq_true rfl) d_Wf_share_88 ⟨Nat.le_of_ble_eq_true rfl, Nat.le_of_ble_eq_true rfl⟩ ⟨Nat.le_of_ble_eq_true rfl, Nat.le_of_ble_eq_true rfl⟩ (fun v9 L9 f68 H locs hp hI => ?_)
              refine W.cs (cells' := 0) (slots' := 0) rfl rfl ?_
              obtain ⟨hv9, rfl, xh, rh, hW, e45, hs9, hF9⟩ := hp
              cases hv9
              refine hw_stk (st' := [.ref (o 45), .ref (ak)]) rfl ?_
              have hF := hF.trans hF9
              have hs := fun z (hz : z < 32) => (hs9 z hz).trans (hs z hz)
              rw [r10] at e45
              refine lv_iconst (v := nI 0) hx hb d_Wf_share_91 (by decide) ?_
              refine lv_iconst (v := nI 0) hx hb d_Wf_share_92 (by decide) ?_
              refine hw_ti (show _ = sB false from rfl) ?_
              refine hw_cV (As := [.ref (o 45), .int (nI 0), .int (sB false)]) (rest := []) S hI m_Rk_putOut w_759 (c_Rk_putOut l D t0 L _ _ o r fr ad al ab am ak ah aw ar rg wf xh sg wt rh 45 0 false hg hW (by omega) (by omega) (by omega)) hW.Rk rfl hl.1 rfl rfl (Nat.le_of_ble_eq_true rfl) d_Wf_share_93 ⟨Nat.le_of_ble_eq_true rfl, Nat.le_of_ble_eq_true rfl⟩ ⟨Nat.le_of_ble_eq_true rfl, Nat.le_of_ble_eq_true rfl⟩ (fun v9 L9 f69 H locs hp hI => ?_)
              refine W.cs (cells' := 0) (slots' := 0) rfl rfl ?_
              obtain ⟨hv9, rfl, xx69, ss69, hW, e32, e33, g16, hs9, ht9, hF9⟩ := hp
              cases hv9
              refine hw_stk (st' := []) rfl ?_
              have hF := hF.trans hF9
              have hs := fun z (hz : z < 32) => (hs9 z hz).trans (hs z hz)
              have ht := fun z (hz : z < 16) => (ht9 z hz).trans (ht z hz)
              have h32 : xx69 32 = ((shF (σ j1).1 wt j2, 1, false) : Rg).1 := e32.trans e45
              have h33 : xx69 33 = ((shF (σ j1).1 wt j2, 1, false) : Rg).2.1 := e33
              have h16 : ss69 16 = ((shF (σ j1).1 wt j2, 1, false) : Rg).2.2 := g16
              refine lv_aload_n hx hb d_Wf_share_96 rfl (lv_at hl 0 rfl) ?_
              refine lv_iload_n hx hb d_Wf_share_97 rfl (lv_at hl 1 rfl) ?_
              by_cases hfit : FitX xx69
              · have hop2 := hop.trans (putR_yes ⟨by rw [← h32]; exact hfit.1, by rw [← h33]; exact hfit.2⟩)
                rw [ix_nI (by omega)] at hop2
                refine hw_cV (As := [.int (nI j0)]) (rest := []) S hI m_Wf_keep w_330 (c_Wf_keep_ok l D t0 L _ _ o r fr ad al ab am ak ah aw ar rg wf xx69 ss69 wt rh j0 hg hW (by omega) hfit) hW.Wf rfl hl.1 rfl rfl (Nat.le_of_ble_eq_true rfl) d_Wf_share_98 ⟨Nat.le_of_ble_eq_true rfl, Nat.le_of_ble_eq_true rfl⟩ ⟨Nat.le_of_ble_eq_true rfl, Nat.le_of_ble_eq_true rfl⟩ (fun v9 L9 f71 H locs hp hI => ?_)
                refine W.cs (cells' := 0) (slots' := 0) rfl rfl ?_
                obtain ⟨hv9, rfl, xk, sk, hW, k1, k2, hs9, g9, ht9, hF9⟩ := hp
                cases hv9
                refine hw_stk (st' := []) rfl ?_
                exact W.widen (k := 1) (n := 6) (Nat.le_of_ble_eq_true rfl) (Nat.le_of_ble_eq_true rfl) (vx_ret (hw_vret hx hb hr hlocks hI d_Wf_share_101 ⟨rfl, rfl, by rw [hop2], by rw [hop2]; exact ⟨xk, sk, rh, hW, hR.put hs ht (by omega) h32 h33 h16 k1 k2 hs9 g9 ht9⟩, hF.trans hF9⟩))
              · have hop2 := hop.trans (putR_no (fun h9 => hfit ⟨by rw [h32]; exact h9.1, by rw [h33]; exact h9.2⟩))
                refine hw_xV (As := [.int (nI j0)]) (rest := []) S hI m_Wf_keep w_330 (c_Wf_keep_bad l hlt D t0 L _ _ o r fr ad al ab am ak ah aw ar rg wf xx69 ss69 wt rh j0 hg hW (by omega) hfit) hW.Wf rfl hl.1 rfl rfl (Nat.le_of_ble_eq_true rfl) d_Wf_share_98 ⟨Nat.le_of_ble_eq_true rfl, Nat.le_of_ble_eq_true rfl⟩ ⟨Nat.le_of_ble_eq_true rfl, Nat.le_of_ble_eq_true rfl⟩ (fun v9 L9 f70 H locs hp hI => hp.elim) (fun E9 ce9 q9 L9 f70 H locs hp hI hc9 hv9 hl9 => ?_)
                obtain ⟨rfl, rfl, rfl⟩ := hp
                exact hw_on hI hout hlocks hc9 hv9 hl9 (⟨Or.inr (Or.inr (⟨rfl, by rw [hop2]⟩)), rfl, ⟨xx69, ss69, rh, hW, hR.keep hs ht⟩, hF⟩) ⟨Nat.le_of_ble_eq_true rfl, Nat.le_of_ble_eq_true rfl⟩
            · rw [if_neg (fun h9 => by have h8 := bool_ne0 c67; rw [r12, h9.2] at h8; cases h8)] at hop
              exact hw_thr S hI hlt hout hlocks (text := "a is below 0") thr_3 (by decide) w_372 w_15 hl.1 d_Wf_share_60 d_Wf_share_63 d_Wf_share_64 d_Wf_share_66 d_Wf_share_69 (Nat.le_of_ble_eq_true rfl) (Nat.le_of_ble_eq_true rfl) ⟨Nat.le_of_ble_eq_true rfl, Nat.le_of_ble_eq_true rfl⟩ ⟨Nat.le_of_ble_eq_true rfl, Nat.le_of_ble_eq_true rfl⟩ (⟨Or.inr (Or.inr (⟨rfl, by rw [hop]⟩)), rfl, ⟨x, sg, rs, hW, hR⟩, hF⟩)
          · rw [if_neg (fun h9 => hwh (by rw [r11]; exact h9.1))] at hop
            refine hw_xS (As := [.ref (fr j1)]) (rest := []) S hI m_Wf_requireWhole w_365 (c_Wf_requireWhole_bad l hlt D t0 L _ _ o r fr ad al ab am ak ah aw ar rg wf x sg wt rs j1 hg hW hj1 hwh) hl.1 rfl rfl (Nat.le_of_ble_eq_true rfl) d_Wf_share_45 ⟨Nat.le_of_ble_eq_true rfl, Nat.le_of_ble_eq_true rfl⟩ ⟨Nat.le_of_ble_eq_true rfl, Nat.le_of_ble_eq_true rfl⟩ (fun v9 L9 f65 H locs hp hI => hp.elim) (fun E9 ce9 q9 L9 f65 H locs hp hI hc9 hv9 hl9 => ?_)
            obtain ⟨rfl, rfl, rfl⟩ := hp
            exact hw_on hI hout hlocks hc9 hv9 hl9 (⟨Or.inr (Or.inr (⟨rfl, by rw [hop]⟩)), rfl, ⟨x, sg, rs, hW, hR⟩, hF⟩) ⟨Nat.le_of_ble_eq_true rfl, Nat.le_of_ble_eq_true rfl⟩
        · have hz : sumN wt 10 = 0 := (lN0 (by omega)).mp c64
          rw [if_pos hz] at hop
          exact hw_thr S hI hlt hout hlocks (text := "all weights are 0") thr_2 (by decide) w_283 w_13 hl.1 d_Wf_share_29 d_Wf_share_32 d_Wf_share_33 d_Wf_share_35 d_Wf_share_38 (Nat.le_of_ble_eq_true rfl) (Nat.le_of_ble_eq_true rfl) ⟨Nat.le_of_ble_eq_true rfl, Nat.le_of_ble_eq_true rfl⟩ ⟨Nat.le_of_ble_eq_true rfl, Nat.le_of_ble_eq_true rfl⟩ (⟨Or.inr (Or.inl (⟨rfl, by rw [hop]⟩)), rfl, ⟨x, sg, rs, hW, hR⟩, hF⟩)

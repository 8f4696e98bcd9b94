set_option maxHeartbeats 4000000 in
set_option maxRecDepth 100000 in
theorem c_Rk_squareRoot (l : Launch) (D : va_G) (t0 : Nat) (L : List Nat) (f : Nat → va_E) (sz : Nat) (o r fr : Nat → Nat) (ad al ab am ak ah aw ar rg wf : Nat) (x : Nat → Nat) (sg : Nat → Bool) (wt rs : Nat → Nat) (hg : Gl o r fr ad al ab am ak ah aw ar rg wf) (hW : Wd D L f o r fr ad al ab am ak ah aw ar rg wf x sg wt rs) (h30 : x 34 < nB ^ 30) : Met l y_Rk_squareRoot (Cond.code y_Rk_squareRoot b_Rk_squareRoot 5 none :: TT) ({ frames := 9, cells := 0, slots := 0, locals := 192 } : Room) (hw_Pc t0 [.ref (ak), .ref (o 34), .ref (o 35)] D L f sz) (hw_Q D L sz (fun oc L' f' => oc = .returned none ∧ L = L' ∧ ∃ x', Wd D L f' o r fr ad al ab am ak ah aw ar rg wf x' sg wt rs ∧ x' 35 = isq (x 34) ∧ (∀ z, z < 34 → x' z = x z) ∧ Fm o r fr ad al ab am ak ah aw ar rg wf f f')) 0 0 (hw_A L sz) := by
  refine Met.ofW (cc := b_Rk_squareRoot) (maxL := 5) (ret := none) (by decide) rfl ?_
  intro p e s m args below meth c s₁ B hml hv
  obtain ⟨rfl, rfl, hI⟩ := hw_start hv
  clear hv
  have hx := B.exec
  have hb := B.bytes
  have hr := B.returns
  have hlocks := B.notSynchronized
  have hown : s.vm.findClass "WallFractions$Reckoner" = some m.cls := findClass_of_methodNamed B.named
  have hT : ∀ w ∈ TT, w.before ([.ref (ak), .ref (o 34), .ref (o 35)]).toArray s = true := fun w h => atoms_spec (ws := (Cond.code y_Rk_squareRoot b_Rk_squareRoot 5 none :: TT)) B.pre w (List.mem_cons_of_mem _ h)
  have S : CallFix p m c b_Rk_squareRoot 5 s ([.ref (ak), .ref (o 34), .ref (o 35)]).toArray TT "WallFractions$Reckoner" := ⟨hx, hb, hml, hown, hT⟩
  have hl := lv_entry ([.ref (ak), .ref (o 34), .ref (o 35)]) (n := 5) (Nat.le_of_ble_eq_true rfl)
  rw [lg_entry_eq]
  generalize (lg_sl ([.ref (ak), .ref (o 34), .ref (o 35)]) ++ List.replicate (5 - (lg_sl ([.ref (ak), .ref (o 34), .ref (o 35)])).length) Slot.unset).toArray = ls at hl ⊢
  have hl : lv_has ls 5 [(0, .ref (ak)), (1, .ref (o 34)), (2, .ref (o 35))] := hl
  skip
  have hY := hg.1
  have hF : Fm o r fr ad al ab am ak ah aw ar rg wf f f := Fm.refl
  have hs : ∀ z, z < 32 → x z = x z := fun _ _ => rfl
  have ht : ∀ k, k < 16 → sg k = sg k := fun _ _ => rfl
  obtain ⟨N, hN⟩ : ∃ N, N = x 34 := ⟨_, rfl⟩
  obtain ⟨s0, hs0⟩ : ∃ s0, s0 = isq N := ⟨_, rfl⟩
  have hsq := isq_spec N
  rw [← hs0] at hsq
  have e34 : x 34 = N := hN.symm
  have hN40 : N < nB ^ 40 := by rw [hN]; exact Nat.lt_of_lt_of_le h30 (Nat.pow_le_pow_right nB_pos (by decide))
  have hs : ∀ z, z < 34 → x z = x z := fun _ _ => rfl
  refine lv_aload_n hx hb d_Rk_squareRoot_0 rfl (lv_at hl 2 rfl) ?_
  refine lv_aload_n hx hb d_Rk_squareRoot_1 rfl (lv_at hl 1 rfl) ?_
  refine hw_cV (As := []) (rest := [.ref (o 35)]) S hI m_Wh_decimalLength w_625 (c_Wh_decimalLength l D t0 L _ _ o r 46 x 34 (by omega) hY hW.N) (hW.rc (i := 34) (by omega)).choose_spec rfl hl.1 rfl rfl (Nat.le_of_ble_eq_true rfl) d_Rk_squareRoot_2 ⟨Nat.le_of_ble_eq_true rfl, Nat.le_of_ble_eq_true rfl⟩ ⟨Nat.le_of_ble_eq_true rfl, Nat.le_of_ble_eq_true rfl⟩ (fun v9 L9 f22 H locs hp hI => ?_)
  refine W.cs (cells' := 0) (slots' := 0) rfl rfl ?_
  obtain ⟨⟨T, hv9, hdl, hT9⟩, rfl, rfl⟩ := hp
  cases hv9
  refine hw_stk (st' := [.int (nI T), .ref (o 35)]) rfl ?_
  rw [← hN] at hdl
  have hst := rt_start hdl.2.1 hsq.1
  have ht85 := ten185 (e := (T + 1) / 2) (by omega)
  obtain ⟨g0, hg0⟩ : ∃ g0, g0 = 10 ^ ((T + 1) / 2) := ⟨_, rfl⟩
  rw [← hg0] at hst ht85
  have hgC : g0 < 2 ^ 2460 := by rw [hg0]; exact ten369 (by omega)
  refine lv_iconst (v := nI 1) hx hb d_Rk_squareRoot_5 (by decide) ?_
  refine lv_iadd hx hb d_Rk_squareRoot_6 ?_
  refine hw_ti (nI_add _ _) ?_
  refine lv_iconst (v := nI 2) hx hb d_Rk_squareRoot_7 (by decide) ?_
  refine lv_idiv hx hb d_Rk_squareRoot_8 (by intro h9; have h8 := (nI_eq (b := 0) (by omega) (by decide)).mp h9; omega) ?_
  refine hw_ti (pk_div (by omega) (by omega) (by omega)) ?_
  refine hw_cV (As := [.int (nI ((T + 1) / 2))]) (rest := []) S hI m_Wh_becomeTenTo w_596 (c_Wh_becomeTenTo l D t0 L _ _ o r 46 x 35 ((T + 1) / 2) (by omega) hY hW.N (by omega)) (hW.rc (i := 35) (by omega)).choose_spec rfl hl.1 rfl rfl (Nat.le_of_ble_eq_true rfl) d_Rk_squareRoot_9 ⟨Nat.le_of_ble_eq_true rfl, Nat.le_of_ble_eq_true rfl⟩ ⟨Nat.le_of_ble_eq_true rfl, Nat.le_of_ble_eq_true rfl⟩ (fun v9 L9 f23 H locs hp hI => ?_)
  refine W.cs (cells' := 0) (slots' := 0) rfl rfl ?_
  obtain ⟨hv9, rfl, hN9, hf9⟩ := hp
  cases hv9
  refine hw_stk (st' := []) rfl ?_
  have hF := hF.wh (fun q h9 _ _ _ => hf9 q (h9 35 (by omega)).1 (h9 35 (by omega)).2)
  obtain ⟨x23, hW, e9, s9⟩ := (hW.wh hN9 (fun q h9 => hf9 q (h9 35 (by omega)).1 (h9 35 (by omega)).2)).cut
  have n9 : x23 35 = g0 := by rw [e9, ← hg0]
  have e34 : x23 34 = N := (s9 34 (by omega)).trans e34
  have e35 : x23 35 = g0 := n9
  have hs := fun z (hz : z < 34) => (s9 z (by omega)).trans (hs z hz)
  have loop : ∀ (g t gg : Nat) (fl : Bool) (xx : Nat → Nat) (f1 : Nat → va_E) (H : Heap) (locs : List Loc) (ls : Array Slot), t + g = 100000 → s0 ≤ gg → gg ≤ g0 → (if fl then 2 ^ t * (gg - s0) ≤ g0 else gg = s0) → xx 34 = N → xx 35 = gg → Wd D L f1 o r fr ad al ab am ak ah aw ar rg wf xx sg wt rs → (∀ z, z < 34 → xx z = x z) → Fm o r fr ad al ab am ak ah aw ar rg wf f f1 → hw_I D t0 (hw_A L s.heap.size) s L f1 H locs → lv_has ls 5 [(4, .int (nI t)), (3, .int (sB fl)), (2, .ref (o 35)), (1, .ref (o 34)), (0, .ref (ak))] → W p l e (headSpec (Cond.code y_Rk_squareRoot b_Rk_squareRoot 5 none :: TT) ({ frames := 9, cells := 0, slots := 0, locals := 192 } : Room)).room s m ([.ref (ak), .ref (o 34), .ref (o 35)]).toArray below meth c H locs 0 0 (MQ below (hw_Q D L s.heap.size (fun oc L' f' => oc = .returned none ∧ L = L' ∧ ∃ x', Wd D L f' o r fr ad al ab am ak ah aw ar rg wf x' sg wt rs ∧ x' 35 = isq (x 34) ∧ (∀ z, z < 34 → x' z = x z) ∧ Fm o r fr ad al ab am ak ah aw ar rg wf f f')) ([.ref (ak), .ref (o 34), .ref (o 35)]).toArray s 0 0 (hw_A L s.heap.size)) (F0 m 17 ls []) := by
    intro g
    induction g with
    | zero =>
      intro t gg fl xx f1 H locs ls htg hg1 hg2 hfl e34 e35 hW hs hF hI hl
      refine lv_iload hx hb d_Rk_squareRoot_17 (lv_at hl 0 rfl) ?_
      refine hw_ldc (v := nI 100000) hx hb hown (hT _ w_630) d_Rk_squareRoot_19 ?_
      refine hw_icmp_ge (tgt := 114) hx hb d_Rk_squareRoot_21 (by decide) (by omega) (by omega) (fun c24 => ?_) (fun c24 => ?_)
      · exact hw_vret hx hb hr hlocks hI d_Rk_squareRoot_114 ⟨rfl, rfl, xx, hW, by rw [e35, ← hN, ← hs0]; cases fl; exact hfl; exact Nat.le_antisymm (rt_end (by omega) hfl hgC) hg1, hs, hF⟩
      · exact absurd c24 (by omega)
    | succ g ih =>
      intro t gg fl xx f1 H locs ls htg hg1 hg2 hfl e34 e35 hW hs hF hI hl
      refine lv_iload hx hb d_Rk_squareRoot_17 (lv_at hl 0 rfl) ?_
      refine hw_ldc (v := nI 100000) hx hb hown (hT _ w_630) d_Rk_squareRoot_19 ?_
      refine hw_icmp_ge (tgt := 114) hx hb d_Rk_squareRoot_21 (by decide) (by omega) (by omega) (fun c25 => ?_) (fun c25 => ?_)
      · exact hw_vret hx hb hr hlocks hI d_Rk_squareRoot_114 ⟨rfl, rfl, xx, hW, by rw [e35, ← hN, ← hs0]; cases fl; exact hfl; exact Nat.le_antisymm (rt_end (by omega) hfl hgC) hg1, hs, hF⟩
      · refine lv_iload_n hx hb d_Rk_squareRoot_24 rfl (lv_at hl 1 rfl) ?_
        refine lv_if_eq (tgt := 114) hx hb d_Rk_squareRoot_25 (by decide) (fun c26 => ?_) (fun c26 => ?_)
        · exact hw_vret hx hb hr hlocks hI d_Rk_squareRoot_114 ⟨rfl, rfl, xx, hW, by rw [e35, ← hN, ← hs0]; rw [sB_z.mp c26] at hfl; exact hfl, hs, hF⟩
        · have hft := bool_ne0 c26
          subst hft
          have hfl : 2 ^ t * (gg - s0) ≤ g0 := hfl
          refine lv_aload_n hx hb d_Rk_squareRoot_28 rfl (lv_at hl 2 rfl) ?_
          refine hw_cV (As := []) (rest := []) S hI m_Wh_isZero w_521 (c_Wh_isZero l D t0 L _ _ o r 46 xx 35 (by omega) hY hW.N) (hW.rc (i := 35) (by omega)).choose_spec rfl hl.1 rfl rfl (Nat.le_of_ble_eq_true rfl) d_Rk_squareRoot_29 ⟨Nat.le_of_ble_eq_true rfl, Nat.le_of_ble_eq_true rfl⟩ ⟨Nat.le_of_ble_eq_true rfl, Nat.le_of_ble_eq_true rfl⟩ (fun v9 L9 f27 H locs hp hI => ?_)
          refine W.cs (cells' := 0) (slots' := 0) rfl rfl ?_
          obtain ⟨hv9, rfl, rfl⟩ := hp
          cases hv9
          refine hw_stk (st' := [.int (if xx 35 = 0 then nI 1 else nI 0)]) rfl ?_
          by_cases hz : xx 35 = 0
          · refine hw_ti (show _ = nI 1 from if_pos hz) ?_
            refine hw_if_ne (tgt := 114) hx hb d_Rk_squareRoot_32 (by decide) (by omega) (fun c28 => ?_) (fun c28 => ?_)
            · exact hw_vret hx hb hr hlocks hI d_Rk_squareRoot_114 ⟨rfl, rfl, xx, hW, by rw [e35, ← hN, ← hs0]; omega, hs, hF⟩
            · exact absurd c28 (by decide)
          · refine hw_ti (show _ = nI 0 from if_neg hz) ?_
            refine hw_if_ne (tgt := 114) hx hb d_Rk_squareRoot_32 (by decide) (by omega) (fun c29 => ?_) (fun c29 => ?_)
            · exact absurd rfl c29
            · have hgp : 0 < gg := by omega
              refine lv_aload_n hx hb d_Rk_squareRoot_35 rfl (lv_at hl 4 rfl) ?_
              refine ob_get S hI hW.Rk (C := R_Rk) (T := F_Rk) (N := 7) (ref := "WallFractions$Reckoner") rfl i_Rk 0 (by decide) rfl w_132 rfl d_Rk_squareRoot_36 ?_
              refine lv_aload_n hx hb d_Rk_squareRoot_39 rfl (lv_at hl 3 rfl) ?_
              refine lv_aload_n hx hb d_Rk_squareRoot_40 rfl (lv_at hl 2 rfl) ?_
              refine lv_aload_n hx hb d_Rk_squareRoot_41 rfl (lv_at hl 4 rfl) ?_
              refine ob_get S hI hW.Rk (C := R_Rk) (T := F_Rk) (N := 7) (ref := "WallFractions$Reckoner") rfl i_Rk 5 (by decide) rfl w_138 rfl d_Rk_squareRoot_42 ?_
              refine lv_aload_n hx hb d_Rk_squareRoot_45 rfl (lv_at hl 4 rfl) ?_
              refine ob_get S hI hW.Rk (C := R_Rk) (T := F_Rk) (N := 7) (ref := "WallFractions$Reckoner") rfl i_Rk 6 (by decide) rfl w_139 rfl d_Rk_squareRoot_46 ?_
              obtain ⟨u9, w9, hA9, hU9, hWb9⟩ := hW.Dv
              refine hw_cV (As := [.ref (o 34), .ref (o 35), .ref (o 36), .ref (o 37)]) (rest := []) S hI m_Dv_split w_520 (c_Dv_split l D t0 L _ _ o r 46 xx ad al ab u9 w9 34 35 36 37 hY hW.N hA9 hU9 hWb9 hg.2.1 hW.off.1 hW.off.2.1 (by omega) (by omega) (by omega) (by omega) (by omega) (by rw [e35]; exact hgp)) hA9 rfl hl.1 rfl rfl (Nat.le_of_ble_eq_true rfl) d_Rk_squareRoot_49 ⟨Nat.le_of_ble_eq_true rfl, Nat.le_of_ble_eq_true rfl⟩ ⟨Nat.le_of_ble_eq_true rfl, Nat.le_of_ble_eq_true rfl⟩ (fun v9 L9 f30 H locs hp hI => ?_)
              refine W.cs (cells' := 0) (slots' := 0) rfl rfl ?_
              obtain ⟨hv9, rfl, hN9, hd9, hf9⟩ := hp
              cases hv9
              refine hw_stk (st' := []) rfl ?_
              have hF := hF.wh (fun q h9 h7 h8 _ => hf9 q (h9 36 (by omega)).1 (h9 36 (by omega)).2 (h9 37 (by omega)).1 (h9 37 (by omega)).2 h7 h8)
              obtain ⟨x30, hW, e9, e8, s9⟩ := (hW.sp hN9 hd9 (fun q h9 h7 h8 => hf9 q (h9 36 (by omega)).1 (h9 36 (by omega)).2 (h9 37 (by omega)).1 (h9 37 (by omega)).2 h7 h8)).cut2 (by omega)
              have n9 : x30 36 = N / gg := by rw [e9, e34, e35]
              have e34 : x30 34 = N := (s9 34 (by omega) (by omega)).trans e34
              have e35 : x30 35 = gg := (s9 35 (by omega) (by omega)).trans e35
              have e36 : x30 36 = N / gg := n9
              have hs := fun z (hz : z < 34) => (s9 z (by omega) (by omega)).trans (hs z hz)
              have hdl9 := Nat.div_le_self N gg
              refine lv_aload_n hx hb d_Rk_squareRoot_52 rfl (lv_at hl 4 rfl) ?_
              refine ob_get S hI hW.Rk (C := R_Rk) (T := F_Rk) (N := 7) (ref := "WallFractions$Reckoner") rfl i_Rk 5 (by decide) rfl w_138 rfl d_Rk_squareRoot_53 ?_
              refine lv_aload_n hx hb d_Rk_squareRoot_56 rfl (lv_at hl 4 rfl) ?_
              refine ob_get S hI hW.Rk (C := R_Rk) (T := F_Rk) (N := 7) (ref := "WallFractions$Reckoner") rfl i_Rk 5 (by decide) rfl w_138 rfl d_Rk_squareRoot_57 ?_
              refine lv_aload_n hx hb d_Rk_squareRoot_60 rfl (lv_at hl 2 rfl) ?_
              refine hw_cV (As := [.ref (o 36), .ref (o 35)]) (rest := []) S hI m_Wh_becomeSum w_411 (c_Wh_becomeSum l D t0 L _ _ o r 46 x30 36 36 35 (by omega) hY hW.N (by omega) (by omega) (by rw [e36]; omega) (by rw [e35]; omega)) (hW.rc (i := 36) (by omega)).choose_spec rfl hl.1 rfl rfl (Nat.le_of_ble_eq_true rfl) d_Rk_squareRoot_61 ⟨Nat.le_of_ble_eq_true rfl, Nat.le_of_ble_eq_true rfl⟩ ⟨Nat.le_of_ble_eq_true rfl, Nat.le_of_ble_eq_true rfl⟩ (fun v9 L9 f31 H locs hp hI => ?_)
              refine W.cs (cells' := 0) (slots' := 0) rfl rfl ?_
              obtain ⟨hv9, rfl, hN9, hf9⟩ := hp
              cases hv9
              refine hw_stk (st' := []) rfl ?_
              have hF := hF.wh (fun q h9 _ _ _ => hf9 q (h9 36 (by omega)).1 (h9 36 (by omega)).2)
              obtain ⟨x31, hW, e9, s9⟩ := (hW.wh hN9 (fun q h9 => hf9 q (h9 36 (by omega)).1 (h9 36 (by omega)).2)).cut
              have n9 : x31 36 = N / gg + gg := by rw [e9, e36, e35]
              have e34 : x31 34 = N := (s9 34 (by omega)).trans e34
              have e35 : x31 35 = gg := (s9 35 (by omega)).trans e35
              have e36 : x31 36 = N / gg + gg := n9
              have hs := fun z (hz : z < 34) => (s9 z (by omega)).trans (hs z hz)
              refine lv_aload_n hx hb d_Rk_squareRoot_64 rfl (lv_at hl 4 rfl) ?_
              refine ob_get S hI hW.Rk (C := R_Rk) (T := F_Rk) (N := 7) (ref := "WallFractions$Reckoner") rfl i_Rk 5 (by decide) rfl w_138 rfl d_Rk_squareRoot_65 ?_
              refine lv_aload_n hx hb d_Rk_squareRoot_68 rfl (lv_at hl 4 rfl) ?_
              refine ob_get S hI hW.Rk (C := R_Rk) (T := F_Rk) (N := 7) (ref := "WallFractions$Reckoner") rfl i_Rk 5 (by decide) rfl w_138 rfl d_Rk_squareRoot_69 ?_
              refine hw_ldc2 (v := lN 2) hx hb hown (hT _ w_604) d_Rk_squareRoot_72 ?_
              refine hw_cV (As := [.ref (o 36), .long (lN 2)]) (rest := []) S hI m_Wh_becomeQuotient w_582 (c_Wh_becomeQuotient l D t0 L _ _ o r 46 x31 36 36 2 (by omega) hY hW.N (by omega) (by decide) (by decide)) (hW.rc (i := 36) (by omega)).choose_spec rfl hl.1 rfl rfl (Nat.le_of_ble_eq_true rfl) d_Rk_squareRoot_75 ⟨Nat.le_of_ble_eq_true rfl, Nat.le_of_ble_eq_true rfl⟩ ⟨Nat.le_of_ble_eq_true rfl, Nat.le_of_ble_eq_true rfl⟩ (fun v9 L9 f32 H locs hp hI => ?_)
              refine W.cs (cells' := 0) (slots' := 0) rfl rfl ?_
              obtain ⟨hv9, rfl, hN9, hf9⟩ := hp
              cases hv9
              refine hw_stk (st' := [.long (lN (x31 36 % 2))]) rfl ?_
              have hF := hF.wh (fun q h9 _ _ _ => hf9 q (h9 36 (by omega)).1 (h9 36 (by omega)).2)
              obtain ⟨x32, hW, e9, s9⟩ := (hW.wh hN9 (fun q h9 => hf9 q (h9 36 (by omega)).1 (h9 36 (by omega)).2)).cut
              have n9 : x32 36 = (N / gg + gg) / 2 := by rw [e9, e36]
              have e34 : x32 34 = N := (s9 34 (by omega)).trans e34
              have e35 : x32 35 = gg := (s9 35 (by omega)).trans e35
              have e36 : x32 36 = (N / gg + gg) / 2 := n9
              have hs := fun z (hz : z < 34) => (s9 z (by omega)).trans (hs z hz)
              obtain ⟨hh, hhh⟩ : ∃ hh, hh = (N / gg + gg) / 2 := ⟨_, rfl⟩
              rw [← hhh] at e36
              have hge : s0 ≤ hh := by rw [hhh]; exact nw_ge hsq.1 hgp
              refine lv_pop2_2 hx hb d_Rk_squareRoot_78 rfl ?_
              refine lv_aload_n hx hb d_Rk_squareRoot_79 rfl (lv_at hl 4 rfl) ?_
              refine ob_get S hI hW.Rk (C := R_Rk) (T := F_Rk) (N := 7) (ref := "WallFractions$Reckoner") rfl i_Rk 5 (by decide) rfl w_138 rfl d_Rk_squareRoot_80 ?_
              refine lv_aload_n hx hb d_Rk_squareRoot_83 rfl (lv_at hl 2 rfl) ?_
              refine hw_cV (As := [.ref (o 35)]) (rest := []) S hI m_Wh_order w_422 (c_Wh_order l D t0 L _ _ o r 46 x32 36 35 (by omega) hY hW.N (by omega)) (hW.rc (i := 36) (by omega)).choose_spec rfl hl.1 rfl rfl (Nat.le_of_ble_eq_true rfl) d_Rk_squareRoot_84 ⟨Nat.le_of_ble_eq_true rfl, Nat.le_of_ble_eq_true rfl⟩ ⟨Nat.le_of_ble_eq_true rfl, Nat.le_of_ble_eq_true rfl⟩ (fun v9 L9 f33 H locs hp hI => ?_)
              refine W.cs (cells' := 0) (slots' := 0) rfl rfl ?_
              obtain ⟨hv9, rfl, rfl⟩ := hp
              cases hv9
              refine hw_stk (st' := [.int (cmpN (x32 36) (x32 35))]) rfl ?_
              refine hw_ti (show _ = cmpN hh gg from by rw [e36, e35]) ?_
              refine lv_if_ge (tgt := 94) hx hb d_Rk_squareRoot_87 (by decide) (fun c34 => ?_) (fun c34 => ?_)
              · have hgh : gg ≤ hh := Nat.not_lt.mp (fun h => absurd (cmpN_neg.mpr h) (Int32.not_lt.mpr c34))
                have hend : gg = s0 := nw_end hsq.1 hsq.2 hg1 hgp (by rw [← hhh]; exact hgh)
                refine lv_iconst (v := nI 0) hx hb d_Rk_squareRoot_94 (by decide) ?_
                refine lv_istore_n (lv' := [(3, .int (nI 0)), (4, .int (nI t)), (2, .ref (o 35)), (1, .ref (o 34)), (0, .ref (ak))]) hx hb d_Rk_squareRoot_95 rfl hl (by decide) rfl (fun ls hl => ?_)
                refine lv_iload_n hx hb d_Rk_squareRoot_96 rfl (lv_at hl 0 rfl) ?_
                refine hw_if_eq (tgt := 108) hx hb d_Rk_squareRoot_97 (by decide) (by omega) (fun c35 => ?_) (fun c35 => ?_)
                · refine lv_iinc (v := nI (t + 1)) (lv' := [(4, .int (nI (t + 1))), (3, .int (nI 0)), (2, .ref (o 35)), (1, .ref (o 34)), (0, .ref (ak))]) hx hb d_Rk_squareRoot_108 hl (k := 1) rfl (nI_1 _) (by decide) rfl (fun ls hl => ?_)
                  refine lv_goto (tgt := 17) hx hb d_Rk_squareRoot_111 (by decide) ?_
                  exact ih (t + 1) gg false _ _ _ _ _ (by omega) hg1 hg2 hend e34 e35 hW hs hF hI hl
                · exact absurd rfl c35
              · have hlt : hh < gg := cmpN_neg.mp (Int32.not_le.mp c34)
                refine lv_iconst (v := nI 1) hx hb d_Rk_squareRoot_90 (by decide) ?_
                refine lv_goto (tgt := 95) hx hb d_Rk_squareRoot_91 (by decide) ?_
                refine lv_istore_n (lv' := [(3, .int (nI 1)), (4, .int (nI t)), (2, .ref (o 35)), (1, .ref (o 34)), (0, .ref (ak))]) hx hb d_Rk_squareRoot_95 rfl hl (by decide) rfl (fun ls hl => ?_)
                refine lv_iload_n hx hb d_Rk_squareRoot_96 rfl (lv_at hl 0 rfl) ?_
                refine hw_if_eq (tgt := 108) hx hb d_Rk_squareRoot_97 (by decide) (by omega) (fun c36 => ?_) (fun c36 => ?_)
                · exact absurd c36 (by decide)
                · refine lv_aload_n hx hb d_Rk_squareRoot_100 rfl (lv_at hl 2 rfl) ?_
                  refine lv_aload_n hx hb d_Rk_squareRoot_101 rfl (lv_at hl 4 rfl) ?_
                  refine ob_get S hI hW.Rk (C := R_Rk) (T := F_Rk) (N := 7) (ref := "WallFractions$Reckoner") rfl i_Rk 5 (by decide) rfl w_138 rfl d_Rk_squareRoot_102 ?_
                  refine hw_cV (As := [.ref (o 36)]) (rest := []) S hI m_Wh_copyFrom w_565 (c_Wh_copyFrom l D t0 L _ _ o r 46 x32 35 36 (by omega) hY hW.N (by omega)) (hW.rc (i := 35) (by omega)).choose_spec rfl hl.1 rfl rfl (Nat.le_of_ble_eq_true rfl) d_Rk_squareRoot_105 ⟨Nat.le_of_ble_eq_true rfl, Nat.le_of_ble_eq_true rfl⟩ ⟨Nat.le_of_ble_eq_true rfl, Nat.le_of_ble_eq_true rfl⟩ (fun v9 L9 f37 H locs hp hI => ?_)
                  refine W.cs (cells' := 0) (slots' := 0) rfl rfl ?_
                  obtain ⟨hv9, rfl, hN9, hf9⟩ := hp
                  cases hv9
                  refine hw_stk (st' := []) rfl ?_
                  have hF := hF.wh (fun q h9 _ _ _ => hf9 q (h9 35 (by omega)).1 (h9 35 (by omega)).2)
                  obtain ⟨x37, hW, e9, s9⟩ := (hW.wh hN9 (fun q h9 => hf9 q (h9 35 (by omega)).1 (h9 35 (by omega)).2)).cut
                  have n9 : x37 35 = hh := by rw [e9, e36]
                  have e34 : x37 34 = N := (s9 34 (by omega)).trans e34
                  have e36 : x37 36 = hh := (s9 36 (by omega)).trans e36
                  have e35 : x37 35 = hh := n9
                  have hs := fun z (hz : z < 34) => (s9 z (by omega)).trans (hs z hz)
                  refine lv_iinc (v := nI (t + 1)) (lv' := [(4, .int (nI (t + 1))), (3, .int (nI 1)), (2, .ref (o 35)), (1, .ref (o 34)), (0, .ref (ak))]) hx hb d_Rk_squareRoot_108 hl (k := 1) rfl (nI_1 _) (by decide) rfl (fun ls hl => ?_)
                  refine lv_goto (tgt := 17) hx hb d_Rk_squareRoot_111 (by decide) ?_
                  exact ih (t + 1) hh true _ _ _ _ _ (by omega) hge (by omega) (pw_half (by rw [hhh]; exact nw_half hsq.2 (by omega)) hfl) e34 e35 hW hs hF hI hl
  refine lv_iconst (v := nI 1) hx hb d_Rk_squareRoot_12 (by decide) ?_
  refine lv_istore_n (lv' := [(3, .int (nI 1)), (0, .ref (ak)), (1, .ref (o 34)), (2, .ref (o 35))]) hx hb d_Rk_squareRoot_13 rfl hl (by decide) rfl (fun ls hl => ?_)
  refine lv_iconst (v := nI 0) hx hb d_Rk_squareRoot_14 (by decide) ?_
  refine lv_istore (lv' := [(4, .int (nI 0)), (3, .int (nI 1)), (0, .ref (ak)), (1, .ref (o 34)), (2, .ref (o 35))]) hx hb d_Rk_squareRoot_15 hl (by decide) rfl (fun ls hl => ?_)
  exact loop 100000 0 g0 true _ _ _ _ _ (by omega) hst (Nat.le_refl _) (by rw [if_pos rfl, Nat.pow_zero]; omega) e34 e35 hW hs hF hI (lv_sub hl [0, 1, 4, 3, 2] rfl)
set_option maxHeartbeats 4000000 in
set_option maxRecDepth 100000 in
theorem c_Rk_extractRoot (l : Launch) (D : va_G) (t0 : Nat) (L : List Nat) (f : Nat → va_E) (sz : Nat) (o r fr : Nat → Nat) (ad al ab am ak ah aw ar rg wf : Nat) (x : Nat → Nat) (sg : Nat → Bool) (wt rs : Nat → Nat) (a dc : Nat) (hg : Gl o r fr ad al ab am ak ah aw ar rg wf) (hW : Wd D L f o r fr ad al ab am ak ah aw ar rg wf x sg wt rs) (ha : a < 16) (hdc : dc ≤ 40) (h20 : ∀ z, z < 32 → x z < nB ^ 20) (hB0 : 0 < x (2 * a + 1)) : Met l y_Rk_extractRoot (Cond.code y_Rk_extractRoot b_Rk_extractRoot 3 none :: TT) ({ frames := 10, cells := 0, slots := 0, locals := 216 } : Room) (hw_Pc t0 [.ref (ak), .ref (fr a), .int (nI dc)] D L f sz) (hw_Q D L sz (fun oc L' f' => oc = .returned none ∧ L = L' ∧ ∃ x' sg', Wd D L f' o r fr ad al ab am ak ah aw ar rg wf x' sg' wt rs ∧ x' 32 = isq (x (2 * a) * 10 ^ (2 * dc) / x (2 * a + 1)) ∧ x' 33 = 10 ^ dc ∧ sg' 16 = false ∧ (∀ z, z < 32 → x' z = x z) ∧ (∀ k, k < 16 → sg' k = sg k) ∧ Fm o r fr ad al ab am ak ah aw ar rg wf f f')) 0 0 (hw_A L sz) := by
  refine Met.ofW (cc := b_Rk_extractRoot) (maxL := 3) (ret := none) (by decide) rfl ?_
  intro p e s m args below meth c s₁ B hml hv
  obtain ⟨rfl, rfl, hI⟩ := hw_start hv
  clear hv
  have hx := B.exec
  have hb := B.bytes
  have hr := B.returns
  have hlocks := B.notSynchronized
  have hown : s.vm.findClass "WallFractions$Reckoner" = some m.cls := findClass_of_methodNamed B.named
  have hT : ∀ w ∈ TT, w.before ([.ref (ak), .ref (fr a), .int (nI dc)]).toArray s = true := fun w h => atoms_spec (ws := (Cond.code y_Rk_extractRoot b_Rk_extractRoot 3 none :: TT)) B.pre w (List.mem_cons_of_mem _ h)
  have S : CallFix p m c b_Rk_extractRoot 3 s ([.ref (ak), .ref (fr a), .int (nI dc)]).toArray TT "WallFractions$Reckoner" := ⟨hx, hb, hml, hown, hT⟩
  have hl := lv_entry ([.ref (ak), .ref (fr a), .int (nI dc)]) (n := 3) (Nat.le_of_ble_eq_true rfl)
  rw [lg_entry_eq]
  generalize (lg_sl ([.ref (ak), .ref (fr a), .int (nI dc)]) ++ List.replicate (3 - (lg_sl ([.ref (ak), .ref (fr a), .int (nI dc)])).length) Slot.unset).toArray = ls at hl ⊢
  have hl : lv_has ls 3 [(0, .ref (ak)), (1, .ref (fr a)), (2, .int (nI dc))] := hl
  skip
  have hY := hg.1
  have hF : Fm o r fr ad al ab am ak ah aw ar rg wf f f := Fm.refl
  have hs : ∀ z, z < 32 → x z = x z := fun _ _ => rfl
  have ht : ∀ k, k < 16 → sg k = sg k := fun _ _ => rfl
  obtain ⟨B0, hB⟩ : ∃ B0, B0 = x (2 * a + 1) := ⟨_, rfl⟩
  obtain ⟨A0, hA0⟩ : ∃ A0, A0 = x (2 * a) * 10 ^ (2 * dc) := ⟨_, rfl⟩
  have hBp : 0 < B0 := by rw [hB]; exact hB0
  have ht9 : 10 ^ (2 * dc) < nB ^ 9 := Nat.lt_of_le_of_lt (Nat.pow_le_pow_right (by decide) (show 2 * dc ≤ 80 by omega)) (by decide)
  have hA29 : A0 < nB ^ 29 := by rw [hA0]; exact mul_lt_pow (h20 _ (by omega)) ht9
  refine lv_aload_n hx hb d_Rk_extractRoot_0 rfl (lv_at hl 0 rfl) ?_
  refine ob_get S hI hW.Rk (C := R_Rk) (T := F_Rk) (N := 7) (ref := "WallFractions$Reckoner") rfl i_Rk 3 (by decide) rfl w_136 rfl d_Rk_extractRoot_1 ?_
  refine lv_iconst (v := nI 2) hx hb d_Rk_extractRoot_4 (by decide) ?_
  refine lv_iload_n hx hb d_Rk_extractRoot_5 rfl (lv_at hl 2 rfl) ?_
  refine lv_imul hx hb d_Rk_extractRoot_6 ?_
  refine hw_ti (pk_mul _ _) ?_
  refine hw_cV (As := [.int (nI (2 * dc))]) (rest := []) S hI m_Wh_becomeTenTo w_596 (c_Wh_becomeTenTo l D t0 L _ _ o r 46 x 34 (2 * dc) (by omega) hY hW.N (by omega)) (hW.rc (i := 34) (by omega)).choose_spec rfl hl.1 rfl rfl (Nat.le_of_ble_eq_true rfl) d_Rk_extractRoot_7 ⟨Nat.le_of_ble_eq_true rfl, Nat.le_of_ble_eq_true rfl⟩ ⟨Nat.le_of_ble_eq_true rfl, Nat.le_of_ble_eq_true rfl⟩ (fun v9 L9 f38 H locs hp hI => ?_)
  refine W.cs (cells' := 0) (slots' := 0) rfl rfl ?_
  obtain ⟨hv9, rfl, hN9, hf9⟩ := hp
  cases hv9
  refine hw_stk (st' := []) rfl ?_
  have hF := hF.wh (fun q h9 _ _ _ => hf9 q (h9 34 (by omega)).1 (h9 34 (by omega)).2)
  obtain ⟨x38, hW, e9, s9⟩ := (hW.wh hN9 (fun q h9 => hf9 q (h9 34 (by omega)).1 (h9 34 (by omega)).2)).cut
  have n9 : x38 34 = 10 ^ (2 * dc) := by rw [e9]
  have e34 : x38 34 = 10 ^ (2 * dc) := n9
  have hs := fun z (hz : z < 32) => (s9 z (by omega)).trans (hs z hz)
  have q1 := hs (2 * a) (by omega)
  refine lv_aload_n hx hb d_Rk_extractRoot_10 rfl (lv_at hl 0 rfl) ?_
  refine ob_get S hI hW.Rk (C := R_Rk) (T := F_Rk) (N := 7) (ref := "WallFractions$Reckoner") rfl i_Rk 4 (by decide) rfl w_137 rfl d_Rk_extractRoot_11 ?_
  refine lv_aload_n hx hb d_Rk_extractRoot_14 rfl (lv_at hl 1 rfl) ?_
  refine ob_getN S hI (hW.Fr (by omega)) (C := R_Fr) (T := F_Fr) (N := 3) (ref := "WallFractions$Fraction") rfl i_Fr 0 (by decide) rfl (by decide +kernel) rfl d_Rk_extractRoot_15 ?_
  refine lv_aload_n hx hb d_Rk_extractRoot_18 rfl (lv_at hl 0 rfl) ?_
  refine ob_get S hI hW.Rk (C := R_Rk) (T := F_Rk) (N := 7) (ref := "WallFractions$Reckoner") rfl i_Rk 3 (by decide) rfl w_136 rfl d_Rk_extractRoot_19 ?_
  refine hw_cV (As := [.ref (o (2 * a)), .ref (o 34)]) (rest := []) S hI m_Wh_becomeProduct w_407 (c_Wh_becomeProduct l D t0 L _ _ o r 46 x38 35 (2 * a) 34 20 9 (by omega) hY hW.N (by omega) (by omega) (by omega) (by omega) (by rw [q1]; exact h20 _ (by omega)) (by rw [e34]; exact ht9) (by decide)) (hW.rc (i := 35) (by omega)).choose_spec rfl hl.1 rfl rfl (Nat.le_of_ble_eq_true rfl) d_Rk_extractRoot_22 ⟨Nat.le_of_ble_eq_true rfl, Nat.le_of_ble_eq_true rfl⟩ ⟨Nat.le_of_ble_eq_true rfl, Nat.le_of_ble_eq_true rfl⟩ (fun v9 L9 f39 H locs hp hI => ?_)
  refine W.cs (cells' := 0) (slots' := 0) rfl rfl ?_
  obtain ⟨hv9, rfl, hN9, hf9⟩ := hp
  cases hv9
  refine hw_stk (st' := []) rfl ?_
  have hF := hF.wh (fun q h9 _ _ _ => hf9 q (h9 35 (by omega)).1 (h9 35 (by omega)).2)
  obtain ⟨x39, hW, e9, s9⟩ := (hW.wh hN9 (fun q h9 => hf9 q (h9 35 (by omega)).1 (h9 35 (by omega)).2)).cut
  have n9 : x39 35 = A0 := by rw [e9, q1, e34, ← hA0]
  have e34 : x39 34 = 10 ^ (2 * dc) := (s9 34 (by omega)).trans e34
  have e35 : x39 35 = A0 := n9
  have hs := fun z (hz : z < 32) => (s9 z (by omega)).trans (hs z hz)
  have q2 := hs (2 * a + 1) (by omega)
  rw [← hB] at q2
  refine lv_aload_n hx hb d_Rk_extractRoot_25 rfl (lv_at hl 0 rfl) ?_
  refine ob_get S hI hW.Rk (C := R_Rk) (T := F_Rk) (N := 7) (ref := "WallFractions$Reckoner") rfl i_Rk 0 (by decide) rfl w_132 rfl d_Rk_extractRoot_26 ?_
  refine lv_aload_n hx hb d_Rk_extractRoot_29 rfl (lv_at hl 0 rfl) ?_
  refine ob_get S hI hW.Rk (C := R_Rk) (T := F_Rk) (N := 7) (ref := "WallFractions$Reckoner") rfl i_Rk 4 (by decide) rfl w_137 rfl d_Rk_extractRoot_30 ?_
  refine lv_aload_n hx hb d_Rk_extractRoot_33 rfl (lv_at hl 1 rfl) ?_
  refine ob_getN S hI (hW.Fr (by omega)) (C := R_Fr) (T := F_Fr) (N := 3) (ref := "WallFractions$Fraction") rfl i_Fr 1 (by decide) rfl (by decide +kernel) rfl d_Rk_extractRoot_34 ?_
  refine lv_aload_n hx hb d_Rk_extractRoot_37 rfl (lv_at hl 0 rfl) ?_
  refine ob_get S hI hW.Rk (C := R_Rk) (T := F_Rk) (N := 7) (ref := "WallFractions$Reckoner") rfl i_Rk 3 (by decide) rfl w_136 rfl d_Rk_extractRoot_38 ?_
  refine lv_aload_n hx hb d_Rk_extractRoot_41 rfl (lv_at hl 0 rfl) ?_
  refine ob_get S hI hW.Rk (C := R_Rk) (T := F_Rk) (N := 7) (ref := "WallFractions$Reckoner") rfl i_Rk 6 (by decide) rfl w_139 rfl d_Rk_extractRoot_42 ?_
  obtain ⟨u9, w9, hA9, hU9, hWb9⟩ := hW.Dv
  refine hw_cV (As := [.ref (o 35), .ref (o (2 * a + 1)), .ref (o 34), .ref (o 37)]) (rest := []) S hI m_Dv_split w_520 (c_Dv_split l D t0 L _ _ o r 46 x39 ad al ab u9 w9 35 ((2 * a + 1)) 34 37 hY hW.N hA9 hU9 hWb9 hg.2.1 hW.off.1 hW.off.2.1 (by omega) (by omega) (by omega) (by omega) (by omega) (by rw [q2]; exact hBp)) hA9 rfl hl.1 rfl rfl (Nat.le_of_ble_eq_true rfl) d_Rk_extractRoot_45 ⟨Nat.le_of_ble_eq_true rfl, Nat.le_of_ble_eq_true rfl⟩ ⟨Nat.le_of_ble_eq_true rfl, Nat.le_of_ble_eq_true rfl⟩ (fun v9 L9 f40 H locs hp hI => ?_)
  refine W.cs (cells' := 0) (slots' := 0) rfl rfl ?_
  obtain ⟨hv9, rfl, hN9, hd9, hf9⟩ := hp
  cases hv9
  refine hw_stk (st' := []) rfl ?_
  have hF := hF.wh (fun q h9 h7 h8 _ => hf9 q (h9 34 (by omega)).1 (h9 34 (by omega)).2 (h9 37 (by omega)).1 (h9 37 (by omega)).2 h7 h8)
  obtain ⟨x40, hW, e9, e8, s9⟩ := (hW.sp hN9 hd9 (fun q h9 h7 h8 => hf9 q (h9 34 (by omega)).1 (h9 34 (by omega)).2 (h9 37 (by omega)).1 (h9 37 (by omega)).2 h7 h8)).cut2 (by omega)
  have n9 : x40 34 = A0 / B0 := by rw [e9, e35, q2]
  have n8 : x40 37 = A0 % B0 := by rw [e8, e35, q2]
  have e35 : x40 35 = A0 := (s9 35 (by omega) (by omega)).trans e35
  have e34 : x40 34 = A0 / B0 := n9
  have e37 : x40 37 = A0 % B0 := n8
  have hs := fun z (hz : z < 32) => (s9 z (by omega) (by omega)).trans (hs z hz)
  have h30 : x40 34 < nB ^ 30 := by rw [e34]; exact Nat.lt_of_le_of_lt (Nat.div_le_self _ _) (Nat.lt_of_lt_of_le hA29 (Nat.pow_le_pow_right nB_pos (by decide)))
  refine lv_aload_n hx hb d_Rk_extractRoot_48 rfl (lv_at hl 0 rfl) ?_
  refine lv_aload_n hx hb d_Rk_extractRoot_49 rfl (lv_at hl 0 rfl) ?_
  refine ob_get S hI hW.Rk (C := R_Rk) (T := F_Rk) (N := 7) (ref := "WallFractions$Reckoner") rfl i_Rk 3 (by decide) rfl w_136 rfl d_Rk_extractRoot_50 ?_
  refine lv_aload_n hx hb d_Rk_extractRoot_53 rfl (lv_at hl 0 rfl) ?_
  refine ob_get S hI hW.Rk (C := R_Rk) (T := F_Rk) (N := 7) (ref := "WallFractions$Reckoner") rfl i_Rk 4 (by decide) rfl w_137 rfl d_Rk_extractRoot_54 ?_
  refine hw_cV (As := [.ref (o 34), .ref (o 35)]) (rest := []) S hI m_Rk_squareRoot w_621 (c_Rk_squareRoot l D t0 L _ _ o r fr ad al ab am ak ah aw ar rg wf x40 sg wt rs hg hW h30) hW.Rk rfl hl.1 rfl rfl (Nat.le_of_ble_eq_true rfl) d_Rk_extractRoot_57 ⟨Nat.le_of_ble_eq_true rfl, Nat.le_of_ble_eq_true rfl⟩ ⟨Nat.le_of_ble_eq_true rfl, Nat.le_of_ble_eq_true rfl⟩ (fun v9 L9 f41 H locs hp hI => ?_)
  refine W.cs (cells' := 0) (slots' := 0) rfl rfl ?_
  obtain ⟨hv9, rfl, xq, hW, e35, hs9, hF9⟩ := hp
  cases hv9
  refine hw_stk (st' := []) rfl ?_
  rw [e34] at e35
  have hF := hF.trans hF9
  have hs := fun z (hz : z < 32) => (hs9 z (by omega)).trans (hs z hz)
  have p35 := e35
  refine lv_aload_n hx hb d_Rk_extractRoot_60 rfl (lv_at hl 0 rfl) ?_
  refine lv_aload_n hx hb d_Rk_extractRoot_61 rfl (lv_at hl 0 rfl) ?_
  refine ob_get S hI hW.Rk (C := R_Rk) (T := F_Rk) (N := 7) (ref := "WallFractions$Reckoner") rfl i_Rk 4 (by decide) rfl w_137 rfl d_Rk_extractRoot_62 ?_
  refine lv_iload_n hx hb d_Rk_extractRoot_65 rfl (lv_at hl 2 rfl) ?_
  refine lv_iconst (v := nI 0) hx hb d_Rk_extractRoot_66 (by decide) ?_
  refine hw_ti (show _ = sB false from rfl) ?_
  refine hw_cV (As := [.ref (o 35), .int (nI dc), .int (sB false)]) (rest := []) S hI m_Rk_putOut w_605 (c_Rk_putOut l D t0 L _ _ o r fr ad al ab am ak ah aw ar rg wf xq sg wt rs 35 dc false hg hW (by omega) (by omega) (by omega)) hW.Rk rfl hl.1 rfl rfl (Nat.le_of_ble_eq_true rfl) d_Rk_extractRoot_67 ⟨Nat.le_of_ble_eq_true rfl, Nat.le_of_ble_eq_true rfl⟩ ⟨Nat.le_of_ble_eq_true rfl, Nat.le_of_ble_eq_true rfl⟩ (fun v9 L9 f42 H locs hp hI => ?_)
  refine W.cs (cells' := 0) (slots' := 0) rfl rfl ?_
  obtain ⟨hv9, rfl, xx42, ss42, hW, e32, e33, g16, hs9, ht9, hF9⟩ := hp
  cases hv9
  refine hw_stk (st' := []) rfl ?_
  have hF := hF.trans hF9
  have hs := fun z (hz : z < 32) => (hs9 z hz).trans (hs z hz)
  have ht := fun z (hz : z < 16) => (ht9 z hz).trans (ht z hz)
  have e32 : xx42 32 = isq (A0 / B0) := e32.trans p35
  exact hw_vret hx hb hr hlocks hI d_Rk_extractRoot_70 ⟨rfl, rfl, xx42, ss42, hW, (by rw [← hA0, ← hB]; exact e32), e33, g16, hs, ht, hF⟩
set_option maxHeartbeats 4000000 in
set_option maxRecDepth 100000 in
theorem c_Rk_decimalBehind (l : Launch) (D : va_G) (t0 : Nat) (L : List Nat) (f : Nat → va_E) (sz : Nat) (o r fr : Nat → Nat) (ad al ab am ak ah aw ar rg wf : Nat) (x : Nat → Nat) (sg : Nat → Bool) (wt rs : Nat → Nat) (a k : Nat) (hg : Gl o r fr ad al ab am ak ah aw ar rg wf) (hW : Wd D L f o r fr ad al ab am ak ah aw ar rg wf x sg wt rs) (ha : a < 16) (hk1 : 1 ≤ k) (hk : k ≤ 300) (h20 : ∀ z, z < 32 → x z < nB ^ 20) (hB0 : 0 < x (2 * a + 1)) : Met l y_Rk_decimalBehind (Cond.code y_Rk_decimalBehind b_Rk_decimalBehind 4 (some .int) :: TT) ({ frames := 9, cells := 0, slots := 0, locals := 192 } : Room) (hw_Pc t0 [.ref (ak), .ref (fr a), .int (nI k)] D L f sz) (hw_Q D L sz (fun oc L' f' => oc = .returned (some (.int (nI (x (2 * a) * 10 ^ k / x (2 * a + 1) % 10)))) ∧ L = L' ∧ ∃ x', Wd D L f' o r fr ad al ab am ak ah aw ar rg wf x' sg wt rs ∧ (∀ z, z < 32 → x' z = x z) ∧ Fm o r fr ad al ab am ak ah aw ar rg wf f f')) 0 0 (hw_A L sz) := by
  refine Met.ofW (cc := b_Rk_decimalBehind) (maxL := 4) (ret := (some .int)) (by decide) rfl ?_
  intro p e s m args below meth c s₁ B hml hv
  obtain ⟨rfl, rfl, hI⟩ := hw_start hv
  clear hv
  have hx := B.exec
  have hb := B.bytes
  have hr := B.returns
  have hlocks := B.notSynchronized
  have hown : s.vm.findClass "WallFractions$Reckoner" = some m.cls := findClass_of_methodNamed B.named
  have hT : ∀ w ∈ TT, w.before ([.ref (ak), .ref (fr a), .int (nI k)]).toArray s = true := fun w h => atoms_spec (ws := (Cond.code y_Rk_decimalBehind b_Rk_decimalBehind 4 (some .int) :: TT)) B.pre w (List.mem_cons_of_mem _ h)
  have S : CallFix p m c b_Rk_decimalBehind 4 s ([.ref (ak), .ref (fr a), .int (nI k)]).toArray TT "WallFractions$Reckoner" := ⟨hx, hb, hml, hown, hT⟩
  have hl := lv_entry ([.ref (ak), .ref (fr a), .int (nI k)]) (n := 4) (Nat.le_of_ble_eq_true rfl)
  rw [lg_entry_eq]
  generalize (lg_sl ([.ref (ak), .ref (fr a), .int (nI k)]) ++ List.replicate (4 - (lg_sl ([.ref (ak), .ref (fr a), .int (nI k)])).length) Slot.unset).toArray = ls at hl ⊢
  have hl : lv_has ls 4 [(0, .ref (ak)), (1, .ref (fr a)), (2, .int (nI k))] := hl
  skip
  have hY := hg.1
  have hF : Fm o r fr ad al ab am ak ah aw ar rg wf f f := Fm.refl
  have hs : ∀ z, z < 32 → x z = x z := fun _ _ => rfl
  have ht : ∀ k, k < 16 → sg k = sg k := fun _ _ => rfl
  have hnB : nB = 1000000000 := rfl
  obtain ⟨B0, hB⟩ : ∃ B0, B0 = x (2 * a + 1) := ⟨_, rfl⟩
  obtain ⟨A0, hA0⟩ : ∃ A0, A0 = x (2 * a) := ⟨_, rfl⟩
  have hBp : 0 < B0 := by rw [hB]; exact hB0
  have hB20 : B0 < nB ^ 20 := by rw [hB]; exact h20 _ (by omega)
  have h240 : nB ^ 20 ≤ nB ^ 40 := Nat.pow_le_pow_right nB_pos (by decide)
  have loop : ∀ (g h : Nat) (xx : Nat → Nat) (f1 : Nat → va_E) (H : Heap) (locs : List Loc) (ls : Array Slot), h ≤ 9 + 9 * g → 1 ≤ h → h ≤ k → xx 37 = A0 * 10 ^ (k - h) % B0 → Wd D L f1 o r fr ad al ab am ak ah aw ar rg wf xx sg wt rs → (∀ z, z < 32 → xx z = x z) → Fm o r fr ad al ab am ak ah aw ar rg wf f f1 → hw_I D t0 (hw_A L s.heap.size) s L f1 H locs → lv_has ls 4 [(3, .int (nI h)), (1, .ref (fr a)), (0, .ref (ak))] → W p l e (headSpec (Cond.code y_Rk_decimalBehind b_Rk_decimalBehind 4 (some .int) :: TT) ({ frames := 9, cells := 0, slots := 0, locals := 192 } : Room)).room s m ([.ref (ak), .ref (fr a), .int (nI k)]).toArray below meth c H locs 0 0 (MQ below (hw_Q D L s.heap.size (fun oc L' f' => oc = .returned (some (.int (nI (x (2 * a) * 10 ^ k / x (2 * a + 1) % 10)))) ∧ L = L' ∧ ∃ x', Wd D L f' o r fr ad al ab am ak ah aw ar rg wf x' sg wt rs ∧ (∀ z, z < 32 → x' z = x z) ∧ Fm o r fr ad al ab am ak ah aw ar rg wf f f')) ([.ref (ak), .ref (fr a), .int (nI k)]).toArray s 0 0 (hw_A L s.heap.size)) (F0 m 25 ls []) := by
    intro g
    induction g with
    | zero =>
      intro h xx f1 H locs ls hgh h1 hk9 e37 hW hs hF hI hl
      have hmb := Nat.mod_lt (A0 * 10 ^ (k - h)) hBp
      refine lv_iload_n hx hb d_Rk_decimalBehind_25 rfl (lv_at hl 0 rfl) ?_
      refine lv_bipush (v := nI 9) hx hb d_Rk_decimalBehind_26 (by decide) ?_
      refine hw_icmp_le (tgt := 71) hx hb d_Rk_decimalBehind_28 (by decide) (by omega) (by omega) (fun c43 => ?_) (fun c43 => ?_)
      · have h9 : 10 ^ h ≤ nB := by rw [nB10]; exact Nat.pow_le_pow_right (by decide) c43
        refine lv_aload_n hx hb d_Rk_decimalBehind_71 rfl (lv_at hl 2 rfl) ?_
        refine ob_get S hI hW.Rk (C := R_Rk) (T := F_Rk) (N := 7) (ref := "WallFractions$Reckoner") rfl i_Rk 6 (by decide) rfl w_139 rfl d_Rk_decimalBehind_72 ?_
        refine hw_tens S hI (by decide) d_Rk_decimalBehind_75 ?_
        refine lv_iload_n hx hb d_Rk_decimalBehind_78 rfl (lv_at hl 0 rfl) ?_
        refine hw_tld S hI (by omega) d_Rk_decimalBehind_79 ?_
        refine lv_lconst (v := lN 0) hx hb d_Rk_decimalBehind_80 rfl ?_
        refine hw_cV (As := [.long (lN (10 ^ h)), .long (lN 0)]) (rest := []) S hI m_Wh_grow w_381 (c_Wh_grow l D t0 L _ _ o r 46 xx 37 (10 ^ h) 0 (by omega) hY hW.N (by rw [e37]; omega) h9 nB_pos) (hW.rc (i := 37) (by omega)).choose_spec rfl hl.1 rfl rfl (Nat.le_of_ble_eq_true rfl) d_Rk_decimalBehind_81 ⟨Nat.le_of_ble_eq_true rfl, Nat.le_of_ble_eq_true rfl⟩ ⟨Nat.le_of_ble_eq_true rfl, Nat.le_of_ble_eq_true rfl⟩ (fun v9 L9 f44 H locs hp hI => ?_)
        refine W.cs (cells' := 0) (slots' := 0) rfl rfl ?_
        obtain ⟨hv9, rfl, hN9, hf9⟩ := hp
        cases hv9
        refine hw_stk (st' := []) rfl ?_
        have hF := hF.wh (fun q h9 _ _ _ => hf9 q (h9 37 (by omega)).1 (h9 37 (by omega)).2)
        obtain ⟨x44, hW, e9, s9⟩ := (hW.wh hN9 (fun q h9 => hf9 q (h9 37 (by omega)).1 (h9 37 (by omega)).2)).cut
        have n9 : x44 37 = A0 * 10 ^ (k - h) % B0 * 10 ^ h := by rw [e9, e37, Nat.add_zero]
        have e37 : x44 37 = A0 * 10 ^ (k - h) % B0 * 10 ^ h := n9
        have hs := fun z (hz : z < 32) => (s9 z (by omega)).trans (hs z hz)
        have q2 := hs (2 * a + 1) (by omega)
        rw [← hB] at q2
        refine lv_aload_n hx hb d_Rk_decimalBehind_84 rfl (lv_at hl 2 rfl) ?_
        refine ob_get S hI hW.Rk (C := R_Rk) (T := F_Rk) (N := 7) (ref := "WallFractions$Reckoner") rfl i_Rk 0 (by decide) rfl w_132 rfl d_Rk_decimalBehind_85 ?_
        refine lv_aload_n hx hb d_Rk_decimalBehind_88 rfl (lv_at hl 2 rfl) ?_
        refine ob_get S hI hW.Rk (C := R_Rk) (T := F_Rk) (N := 7) (ref := "WallFractions$Reckoner") rfl i_Rk 6 (by decide) rfl w_139 rfl d_Rk_decimalBehind_89 ?_
        refine lv_aload_n hx hb d_Rk_decimalBehind_92 rfl (lv_at hl 1 rfl) ?_
        refine ob_getN S hI (hW.Fr (by omega)) (C := R_Fr) (T := F_Fr) (N := 3) (ref := "WallFractions$Fraction") rfl i_Fr 1 (by decide) rfl (by decide +kernel) rfl d_Rk_decimalBehind_93 ?_
        refine lv_aload_n hx hb d_Rk_decimalBehind_96 rfl (lv_at hl 2 rfl) ?_
        refine ob_get S hI hW.Rk (C := R_Rk) (T := F_Rk) (N := 7) (ref := "WallFractions$Reckoner") rfl i_Rk 5 (by decide) rfl w_138 rfl d_Rk_decimalBehind_97 ?_
        refine lv_aload_n hx hb d_Rk_decimalBehind_100 rfl (lv_at hl 2 rfl) ?_
        refine ob_get S hI hW.Rk (C := R_Rk) (T := F_Rk) (N := 7) (ref := "WallFractions$Reckoner") rfl i_Rk 6 (by decide) rfl w_139 rfl d_Rk_decimalBehind_101 ?_
        obtain ⟨u9, w9, hA9, hU9, hWb9⟩ := hW.Dv
        refine hw_cV (As := [.ref (o 37), .ref (o (2 * a + 1)), .ref (o 36), .ref (o 37)]) (rest := []) S hI m_Dv_split w_520 (c_Dv_split l D t0 L _ _ o r 46 x44 ad al ab u9 w9 37 ((2 * a + 1)) 36 37 hY hW.N hA9 hU9 hWb9 hg.2.1 hW.off.1 hW.off.2.1 (by omega) (by omega) (by omega) (by omega) (by omega) (by rw [q2]; exact hBp)) hA9 rfl hl.1 rfl rfl (Nat.le_of_ble_eq_true rfl) d_Rk_decimalBehind_104 ⟨Nat.le_of_ble_eq_true rfl, Nat.le_of_ble_eq_true rfl⟩ ⟨Nat.le_of_ble_eq_true rfl, Nat.le_of_ble_eq_true rfl⟩ (fun v9 L9 f45 H locs hp hI => ?_)
        refine W.cs (cells' := 0) (slots' := 0) rfl rfl ?_
        obtain ⟨hv9, rfl, hN9, hd9, hf9⟩ := hp
        cases hv9
        refine hw_stk (st' := []) rfl ?_
        have hF := hF.wh (fun q h9 h7 h8 _ => hf9 q (h9 36 (by omega)).1 (h9 36 (by omega)).2 (h9 37 (by omega)).1 (h9 37 (by omega)).2 h7 h8)
        obtain ⟨x45, hW, e9, e8, s9⟩ := (hW.sp hN9 hd9 (fun q h9 h7 h8 => hf9 q (h9 36 (by omega)).1 (h9 36 (by omega)).2 (h9 37 (by omega)).1 (h9 37 (by omega)).2 h7 h8)).cut2 (by omega)
        have n9 : x45 36 = A0 * 10 ^ (k - h) % B0 * 10 ^ h / B0 := by rw [e9, e37, q2]
        have n8 : x45 37 = A0 * 10 ^ (k - h) % B0 * 10 ^ h % B0 := by rw [e8, e37, q2]
        have e36 : x45 36 = A0 * 10 ^ (k - h) % B0 * 10 ^ h / B0 := n9
        have e37 : x45 37 = A0 * 10 ^ (k - h) % B0 * 10 ^ h % B0 := n8
        have hs := fun z (hz : z < 32) => (s9 z (by omega) (by omega)).trans (hs z hz)
        refine lv_aload_n hx hb d_Rk_decimalBehind_107 rfl (lv_at hl 2 rfl) ?_
        refine ob_get S hI hW.Rk (C := R_Rk) (T := F_Rk) (N := 7) (ref := "WallFractions$Reckoner") rfl i_Rk 5 (by decide) rfl w_138 rfl d_Rk_decimalBehind_108 ?_
        refine lv_iconst (v := nI 0) hx hb d_Rk_decimalBehind_111 (by decide) ?_
        refine hw_cV (As := [.int (nI 0)]) (rest := []) S hI m_Wh_decimalAt w_708 (c_Wh_decimalAt l D t0 L _ _ o r 46 x45 36 0 (by omega) hY hW.N (by decide)) (hW.rc (i := 36) (by omega)).choose_spec rfl hl.1 rfl rfl (Nat.le_of_ble_eq_true rfl) d_Rk_decimalBehind_112 ⟨Nat.le_of_ble_eq_true rfl, Nat.le_of_ble_eq_true rfl⟩ ⟨Nat.le_of_ble_eq_true rfl, Nat.le_of_ble_eq_true rfl⟩ (fun v9 L9 f46 H locs hp hI => ?_)
        refine W.cs (cells' := 0) (slots' := 0) rfl rfl ?_
        obtain ⟨hv9, rfl, rfl⟩ := hp
        cases hv9
        refine hw_stk (st' := [.int (nI (x45 36 / 10 ^ 0 % 10))]) rfl ?_
        exact hw_iret hx hb hr hlocks hI d_Rk_decimalBehind_115 ⟨by rw [e36, Nat.pow_zero, Nat.div_one, db_end hBp rfl h1, Nat.mul_assoc, ← Nat.pow_add, show k - h + h = k by omega, hA0, hB], rfl, x45, hW, hs, hF⟩
      · exact absurd c43 (by omega)
    | succ g ih =>
      intro h xx f1 H locs ls hgh h1 hk9 e37 hW hs hF hI hl
      have hmb := Nat.mod_lt (A0 * 10 ^ (k - h)) hBp
      refine lv_iload_n hx hb d_Rk_decimalBehind_25 rfl (lv_at hl 0 rfl) ?_
      refine lv_bipush (v := nI 9) hx hb d_Rk_decimalBehind_26 (by decide) ?_
      refine hw_icmp_le (tgt := 71) hx hb d_Rk_decimalBehind_28 (by decide) (by omega) (by omega) (fun c47 => ?_) (fun c47 => ?_)
      · have h9 : 10 ^ h ≤ nB := by rw [nB10]; exact Nat.pow_le_pow_right (by decide) c47
        refine lv_aload_n hx hb d_Rk_decimalBehind_71 rfl (lv_at hl 2 rfl) ?_
        refine ob_get S hI hW.Rk (C := R_Rk) (T := F_Rk) (N := 7) (ref := "WallFractions$Reckoner") rfl i_Rk 6 (by decide) rfl w_139 rfl d_Rk_decimalBehind_72 ?_
        refine hw_tens S hI (by decide) d_Rk_decimalBehind_75 ?_
        refine lv_iload_n hx hb d_Rk_decimalBehind_78 rfl (lv_at hl 0 rfl) ?_
        refine hw_tld S hI (by omega) d_Rk_decimalBehind_79 ?_
        refine lv_lconst (v := lN 0) hx hb d_Rk_decimalBehind_80 rfl ?_
        refine hw_cV (As := [.long (lN (10 ^ h)), .long (lN 0)]) (rest := []) S hI m_Wh_grow w_381 (c_Wh_grow l D t0 L _ _ o r 46 xx 37 (10 ^ h) 0 (by omega) hY hW.N (by rw [e37]; omega) h9 nB_pos) (hW.rc (i := 37) (by omega)).choose_spec rfl hl.1 rfl rfl (Nat.le_of_ble_eq_true rfl) d_Rk_decimalBehind_81 ⟨Nat.le_of_ble_eq_true rfl, Nat.le_of_ble_eq_true rfl⟩ ⟨Nat.le_of_ble_eq_true rfl, Nat.le_of_ble_eq_true rfl⟩ (fun v9 L9 f48 H locs hp hI => ?_)
        refine W.cs (cells' := 0) (slots' := 0) rfl rfl ?_
        obtain ⟨hv9, rfl, hN9, hf9⟩ := hp
        cases hv9
        refine hw_stk (st' := []) rfl ?_
        have hF := hF.wh (fun q h9 _ _ _ => hf9 q (h9 37 (by omega)).1 (h9 37 (by omega)).2)
        obtain ⟨x48, hW, e9, s9⟩ := (hW.wh hN9 (fun q h9 => hf9 q (h9 37 (by omega)).1 (h9 37 (by omega)).2)).cut
        have n9 : x48 37 = A0 * 10 ^ (k - h) % B0 * 10 ^ h := by rw [e9, e37, Nat.add_zero]
        have e37 : x48 37 = A0 * 10 ^ (k - h) % B0 * 10 ^ h := n9
        have hs := fun z (hz : z < 32) => (s9 z (by omega)).trans (hs z hz)
        have q2 := hs (2 * a + 1) (by omega)
        rw [← hB] at q2
        refine lv_aload_n hx hb d_Rk_decimalBehind_84 rfl (lv_at hl 2 rfl) ?_
        refine ob_get S hI hW.Rk (C := R_Rk) (T := F_Rk) (N := 7) (ref := "WallFractions$Reckoner") rfl i_Rk 0 (by decide) rfl w_132 rfl d_Rk_decimalBehind_85 ?_
        refine lv_aload_n hx hb d_Rk_decimalBehind_88 rfl (lv_at hl 2 rfl) ?_
        refine ob_get S hI hW.Rk (C := R_Rk) (T := F_Rk) (N := 7) (ref := "WallFractions$Reckoner") rfl i_Rk 6 (by decide) rfl w_139 rfl d_Rk_decimalBehind_89 ?_
        refine lv_aload_n hx hb d_Rk_decimalBehind_92 rfl (lv_at hl 1 rfl) ?_
        refine ob_getN S hI (hW.Fr (by omega)) (C := R_Fr) (T := F_Fr) (N := 3) (ref := "WallFractions$Fraction") rfl i_Fr 1 (by decide) rfl (by decide +kernel) rfl d_Rk_decimalBehind_93 ?_
        refine lv_aload_n hx hb d_Rk_decimalBehind_96 rfl (lv_at hl 2 rfl) ?_
        refine ob_get S hI hW.Rk (C := R_Rk) (T := F_Rk) (N := 7) (ref := "WallFractions$Reckoner") rfl i_Rk 5 (by decide) rfl w_138 rfl d_Rk_decimalBehind_97 ?_
        refine lv_aload_n hx hb d_Rk_decimalBehind_100 rfl (lv_at hl 2 rfl) ?_
        refine ob_get S hI hW.Rk (C := R_Rk) (T := F_Rk) (N := 7) (ref := "WallFractions$Reckoner") rfl i_Rk 6 (by decide) rfl w_139 rfl d_Rk_decimalBehind_101 ?_
        obtain ⟨u9, w9, hA9, hU9, hWb9⟩ := hW.Dv
        refine hw_cV (As := [.ref (o 37), .ref (o (2 * a + 1)), .ref (o 36), .ref (o 37)]) (rest := []) S hI m_Dv_split w_520 (c_Dv_split l D t0 L _ _ o r 46 x48 ad al ab u9 w9 37 ((2 * a + 1)) 36 37 hY hW.N hA9 hU9 hWb9 hg.2.1 hW.off.1 hW.off.2.1 (by omega) (by omega) (by omega) (by omega) (by omega) (by rw [q2]; exact hBp)) hA9 rfl hl.1 rfl rfl (Nat.le_of_ble_eq_true rfl) d_Rk_decimalBehind_104 ⟨Nat.le_of_ble_eq_true rfl, Nat.le_of_ble_eq_true rfl⟩ ⟨Nat.le_of_ble_eq_true rfl, Nat.le_of_ble_eq_true rfl⟩ (fun v9 L9 f49 H locs hp hI => ?_)
        refine W.cs (cells' := 0) (slots' := 0) rfl rfl ?_
        obtain ⟨hv9, rfl, hN9, hd9, hf9⟩ := hp
        cases hv9
        refine hw_stk (st' := []) rfl ?_
        have hF := hF.wh (fun q h9 h7 h8 _ => hf9 q (h9 36 (by omega)).1 (h9 36 (by omega)).2 (h9 37 (by omega)).1 (h9 37 (by omega)).2 h7 h8)
        obtain ⟨x49, hW, e9, e8, s9⟩ := (hW.sp hN9 hd9 (fun q h9 h7 h8 => hf9 q (h9 36 (by omega)).1 (h9 36 (by omega)).2 (h9 37 (by omega)).1 (h9 37 (by omega)).2 h7 h8)).cut2 (by omega)
        have n9 : x49 36 = A0 * 10 ^ (k - h) % B0 * 10 ^ h / B0 := by rw [e9, e37, q2]
        have n8 : x49 37 = A0 * 10 ^ (k - h) % B0 * 10 ^ h % B0 := by rw [e8, e37, q2]
        have e36 : x49 36 = A0 * 10 ^ (k - h) % B0 * 10 ^ h / B0 := n9
        have e37 : x49 37 = A0 * 10 ^ (k - h) % B0 * 10 ^ h % B0 := n8
        have hs := fun z (hz : z < 32) => (s9 z (by omega) (by omega)).trans (hs z hz)
        refine lv_aload_n hx hb d_Rk_decimalBehind_107 rfl (lv_at hl 2 rfl) ?_
        refine ob_get S hI hW.Rk (C := R_Rk) (T := F_Rk) (N := 7) (ref := "WallFractions$Reckoner") rfl i_Rk 5 (by decide) rfl w_138 rfl d_Rk_decimalBehind_108 ?_
        refine lv_iconst (v := nI 0) hx hb d_Rk_decimalBehind_111 (by decide) ?_
        refine hw_cV (As := [.int (nI 0)]) (rest := []) S hI m_Wh_decimalAt w_708 (c_Wh_decimalAt l D t0 L _ _ o r 46 x49 36 0 (by omega) hY hW.N (by decide)) (hW.rc (i := 36) (by omega)).choose_spec rfl hl.1 rfl rfl (Nat.le_of_ble_eq_true rfl) d_Rk_decimalBehind_112 ⟨Nat.le_of_ble_eq_true rfl, Nat.le_of_ble_eq_true rfl⟩ ⟨Nat.le_of_ble_eq_true rfl, Nat.le_of_ble_eq_true rfl⟩ (fun v9 L9 f50 H locs hp hI => ?_)
        refine W.cs (cells' := 0) (slots' := 0) rfl rfl ?_
        obtain ⟨hv9, rfl, rfl⟩ := hp
        cases hv9
        refine hw_stk (st' := [.int (nI (x49 36 / 10 ^ 0 % 10))]) rfl ?_
        exact hw_iret hx hb hr hlocks hI d_Rk_decimalBehind_115 ⟨by rw [e36, Nat.pow_zero, Nat.div_one, db_end hBp rfl h1, Nat.mul_assoc, ← Nat.pow_add, show k - h + h = k by omega, hA0, hB], rfl, x49, hW, hs, hF⟩
      · refine lv_aload_n hx hb d_Rk_decimalBehind_31 rfl (lv_at hl 2 rfl) ?_
        refine ob_get S hI hW.Rk (C := R_Rk) (T := F_Rk) (N := 7) (ref := "WallFractions$Reckoner") rfl i_Rk 6 (by decide) rfl w_139 rfl d_Rk_decimalBehind_32 ?_
        refine hw_ldc2 (v := lN nB) hx hb hown (hT _ w_380) d_Rk_decimalBehind_35 ?_
        refine lv_lconst (v := lN 0) hx hb d_Rk_decimalBehind_38 rfl ?_
        refine hw_cV (As := [.long (lN nB), .long (lN 0)]) (rest := []) S hI m_Wh_grow w_381 (c_Wh_grow l D t0 L _ _ o r 46 xx 37 nB 0 (by omega) hY hW.N (by rw [e37]; omega) (Nat.le_refl _) nB_pos) (hW.rc (i := 37) (by omega)).choose_spec rfl hl.1 rfl rfl (Nat.le_of_ble_eq_true rfl) d_Rk_decimalBehind_39 ⟨Nat.le_of_ble_eq_true rfl, Nat.le_of_ble_eq_true rfl⟩ ⟨Nat.le_of_ble_eq_true rfl, Nat.le_of_ble_eq_true rfl⟩ (fun v9 L9 f51 H locs hp hI => ?_)
        refine W.cs (cells' := 0) (slots' := 0) rfl rfl ?_
        obtain ⟨hv9, rfl, hN9, hf9⟩ := hp
        cases hv9
        refine hw_stk (st' := []) rfl ?_
        have hF := hF.wh (fun q h9 _ _ _ => hf9 q (h9 37 (by omega)).1 (h9 37 (by omega)).2)
        obtain ⟨x51, hW, e9, s9⟩ := (hW.wh hN9 (fun q h9 => hf9 q (h9 37 (by omega)).1 (h9 37 (by omega)).2)).cut
        have n9 : x51 37 = A0 * 10 ^ (k - h) % B0 * nB := by rw [e9, e37, Nat.add_zero]
        have e37 : x51 37 = A0 * 10 ^ (k - h) % B0 * nB := n9
        have hs := fun z (hz : z < 32) => (s9 z (by omega)).trans (hs z hz)
        have q2 := hs (2 * a + 1) (by omega)
        rw [← hB] at q2
        refine lv_aload_n hx hb d_Rk_decimalBehind_42 rfl (lv_at hl 2 rfl) ?_
        refine ob_get S hI hW.Rk (C := R_Rk) (T := F_Rk) (N := 7) (ref := "WallFractions$Reckoner") rfl i_Rk 0 (by decide) rfl w_132 rfl d_Rk_decimalBehind_43 ?_
        refine lv_aload_n hx hb d_Rk_decimalBehind_46 rfl (lv_at hl 2 rfl) ?_
        refine ob_get S hI hW.Rk (C := R_Rk) (T := F_Rk) (N := 7) (ref := "WallFractions$Reckoner") rfl i_Rk 6 (by decide) rfl w_139 rfl d_Rk_decimalBehind_47 ?_
        refine lv_aload_n hx hb d_Rk_decimalBehind_50 rfl (lv_at hl 1 rfl) ?_
        refine ob_getN S hI (hW.Fr (by omega)) (C := R_Fr) (T := F_Fr) (N := 3) (ref := "WallFractions$Fraction") rfl i_Fr 1 (by decide) rfl (by decide +kernel) rfl d_Rk_decimalBehind_51 ?_
        refine lv_aload_n hx hb d_Rk_decimalBehind_54 rfl (lv_at hl 2 rfl) ?_
        refine ob_get S hI hW.Rk (C := R_Rk) (T := F_Rk) (N := 7) (ref := "WallFractions$Reckoner") rfl i_Rk 5 (by decide) rfl w_138 rfl d_Rk_decimalBehind_55 ?_
        refine lv_aload_n hx hb d_Rk_decimalBehind_58 rfl (lv_at hl 2 rfl) ?_
        refine ob_get S hI hW.Rk (C := R_Rk) (T := F_Rk) (N := 7) (ref := "WallFractions$Reckoner") rfl i_Rk 6 (by decide) rfl w_139 rfl d_Rk_decimalBehind_59 ?_
        obtain ⟨u9, w9, hA9, hU9, hWb9⟩ := hW.Dv
        refine hw_cV (As := [.ref (o 37), .ref (o (2 * a + 1)), .ref (o 36), .ref (o 37)]) (rest := []) S hI m_Dv_split w_520 (c_Dv_split l D t0 L _ _ o r 46 x51 ad al ab u9 w9 37 ((2 * a + 1)) 36 37 hY hW.N hA9 hU9 hWb9 hg.2.1 hW.off.1 hW.off.2.1 (by omega) (by omega) (by omega) (by omega) (by omega) (by rw [q2]; exact hBp)) hA9 rfl hl.1 rfl rfl (Nat.le_of_ble_eq_true rfl) d_Rk_decimalBehind_62 ⟨Nat.le_of_ble_eq_true rfl, Nat.le_of_ble_eq_true rfl⟩ ⟨Nat.le_of_ble_eq_true rfl, Nat.le_of_ble_eq_true rfl⟩ (fun v9 L9 f52 H locs hp hI => ?_)
        refine W.cs (cells' := 0) (slots' := 0) rfl rfl ?_
        obtain ⟨hv9, rfl, hN9, hd9, hf9⟩ := hp
        cases hv9
        refine hw_stk (st' := []) rfl ?_
        have hF := hF.wh (fun q h9 h7 h8 _ => hf9 q (h9 36 (by omega)).1 (h9 36 (by omega)).2 (h9 37 (by omega)).1 (h9 37 (by omega)).2 h7 h8)
        obtain ⟨x52, hW, e9, e8, s9⟩ := (hW.sp hN9 hd9 (fun q h9 h7 h8 => hf9 q (h9 36 (by omega)).1 (h9 36 (by omega)).2 (h9 37 (by omega)).1 (h9 37 (by omega)).2 h7 h8)).cut2 (by omega)
        have n9 : x52 36 = A0 * 10 ^ (k - h) % B0 * nB / B0 := by rw [e9, e37, q2]
        have n8 : x52 37 = A0 * 10 ^ (k - h) % B0 * nB % B0 := by rw [e8, e37, q2]
        have e36 : x52 36 = A0 * 10 ^ (k - h) % B0 * nB / B0 := n9
        have e37 : x52 37 = A0 * 10 ^ (k - h) % B0 * nB % B0 := n8
        have hs := fun z (hz : z < 32) => (s9 z (by omega) (by omega)).trans (hs z hz)
        refine lv_iinc (v := nI (h - 9)) (lv' := [(3, .int (nI (h - 9))), (1, .ref (fr a)), (0, .ref (ak))]) hx hb d_Rk_decimalBehind_65 hl (k := 0) rfl (nI_m9 (by omega)) (by decide) rfl (fun ls hl => ?_)
        refine lv_goto (tgt := 25) hx hb d_Rk_decimalBehind_68 (by decide) ?_
        exact ih (h - 9) _ _ _ _ _ (by omega) (by omega) (by omega) (by rw [e37, db_step rfl, Nat.mul_assoc, nB10, ← Nat.pow_add, show k - h + 9 = k - (h - 9) by omega]) hW hs hF hI hl
  refine lv_aload_n hx hb d_Rk_decimalBehind_0 rfl (lv_at hl 0 rfl) ?_
  refine ob_get S hI hW.Rk (C := R_Rk) (T := F_Rk) (N := 7) (ref := "WallFractions$Reckoner") rfl i_Rk 0 (by decide) rfl w_132 rfl d_Rk_decimalBehind_1 ?_
  refine lv_aload_n hx hb d_Rk_decimalBehind_4 rfl (lv_at hl 1 rfl) ?_
  refine ob_getN S hI (hW.Fr (by omega)) (C := R_Fr) (T := F_Fr) (N := 3) (ref := "WallFractions$Fraction") rfl i_Fr 0 (by decide) rfl (by decide +kernel) rfl d_Rk_decimalBehind_5 ?_
  refine lv_aload_n hx hb d_Rk_decimalBehind_8 rfl (lv_at hl 1 rfl) ?_
  refine ob_getN S hI (hW.Fr (by omega)) (C := R_Fr) (T := F_Fr) (N := 3) (ref := "WallFractions$Fraction") rfl i_Fr 1 (by decide) rfl (by decide +kernel) rfl d_Rk_decimalBehind_9 ?_
  refine lv_aload_n hx hb d_Rk_decimalBehind_12 rfl (lv_at hl 0 rfl) ?_
  refine ob_get S hI hW.Rk (C := R_Rk) (T := F_Rk) (N := 7) (ref := "WallFractions$Reckoner") rfl i_Rk 5 (by decide) rfl w_138 rfl d_Rk_decimalBehind_13 ?_
  refine lv_aload_n hx hb d_Rk_decimalBehind_16 rfl (lv_at hl 0 rfl) ?_
  refine ob_get S hI hW.Rk (C := R_Rk) (T := F_Rk) (N := 7) (ref := "WallFractions$Reckoner") rfl i_Rk 6 (by decide) rfl w_139 rfl d_Rk_decimalBehind_17 ?_
  have q1 := hs (2 * a) (by omega)
  obtain ⟨u9, w9, hA9, hU9, hWb9⟩ := hW.Dv
  refine hw_cV (As := [.ref (o (2 * a)), .ref (o (2 * a + 1)), .ref (o 36), .ref (o 37)]) (rest := []) S hI m_Dv_split w_520 (c_Dv_split l D t0 L _ _ o r 46 x ad al ab u9 w9 ((2 * a)) ((2 * a + 1)) 36 37 hY hW.N hA9 hU9 hWb9 hg.2.1 hW.off.1 hW.off.2.1 (by omega) (by omega) (by omega) (by omega) (by omega) (hB0)) hA9 rfl hl.1 rfl rfl (Nat.le_of_ble_eq_true rfl) d_Rk_decimalBehind_20 ⟨Nat.le_of_ble_eq_true rfl, Nat.le_of_ble_eq_true rfl⟩ ⟨Nat.le_of_ble_eq_true rfl, Nat.le_of_ble_eq_true rfl⟩ (fun v9 L9 f53 H locs hp hI => ?_)
  refine W.cs (cells' := 0) (slots' := 0) rfl rfl ?_
  obtain ⟨hv9, rfl, hN9, hd9, hf9⟩ := hp
  cases hv9
  refine hw_stk (st' := []) rfl ?_
  have hF := hF.wh (fun q h9 h7 h8 _ => hf9 q (h9 36 (by omega)).1 (h9 36 (by omega)).2 (h9 37 (by omega)).1 (h9 37 (by omega)).2 h7 h8)
  obtain ⟨x53, hW, e9, e8, s9⟩ := (hW.sp hN9 hd9 (fun q h9 h7 h8 => hf9 q (h9 36 (by omega)).1 (h9 36 (by omega)).2 (h9 37 (by omega)).1 (h9 37 (by omega)).2 h7 h8)).cut2 (by omega)
  have n9 : x53 36 = A0 / B0 := by rw [e9, ← hA0, ← hB]
  have n8 : x53 37 = A0 % B0 := by rw [e8, ← hA0, ← hB]
  have e36 : x53 36 = A0 / B0 := n9
  have e37 : x53 37 = A0 % B0 := n8
  have hs := fun z (hz : z < 32) => (s9 z (by omega) (by omega)).trans (hs z hz)
  refine lv_iload_n hx hb d_Rk_decimalBehind_23 rfl (lv_at hl 2 rfl) ?_
  refine lv_istore_n (lv' := [(3, .int (nI k)), (0, .ref (ak)), (1, .ref (fr a)), (2, .int (nI k))]) hx hb d_Rk_decimalBehind_24 rfl hl (by decide) rfl (fun ls hl => ?_)
  exact loop 33 k _ _ _ _ _ (by omega) hk1 (Nat.le_refl _) (by rw [e37, Nat.sub_self, Nat.pow_zero, Nat.mul_one]) hW hs hF hI (lv_sub hl [0, 2, 1] rfl)

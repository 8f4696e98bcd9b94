theorem d_Rk_goesUp_1 : decode b_Rk_goesUp 1 = .ok (.lookupswitch 93 #[(0, 27), (1, 50)], 27) := by decide +kernel
set_option maxHeartbeats 4000000 in
set_option maxRecDepth 100000 in
theorem c_Rk_goesUp (l : Launch) (D : va_G) (t0 : Nat) (L : List Nat) (f : Nat → va_E) (sz : Nat) (o r fr : Nat → Nat) (ad al ab am ak ah aw ar rg wf : Nat) (x : Nat → Nat) (sg : Nat → Bool) (wt rs : Nat → Nat) (a hw : Nat) (hg : Gl o r fr ad al ab am ak ah aw ar rg wf) (hW : Wd D L f o r fr ad al ab am ak ah aw ar rg wf x sg wt rs) (ha : a < 16) (hhw : hw ≤ 2) (h37 : x 37 < nB ^ 20) : Met l y_Rk_goesUp (Cond.code y_Rk_goesUp b_Rk_goesUp 3 (some .boolean) :: TT) ({ frames := 8, cells := 0, slots := 0, locals := 159 } : Room) (hw_Pc t0 [.ref (ak), .ref (fr a), .int (nI hw)] D L f sz) (hw_Q D L sz (fun oc L' f' => oc = .returned (some (.int (sB (upF hw (x 37) (x (2 * a + 1)) (sg a))))) ∧ L = L' ∧ ∃ x', Wd D L f' o r fr ad al ab am ak ah aw ar rg wf x' sg wt rs ∧ (∀ z, z ≠ 37 → x' z = x z) ∧ Fm o r fr ad al ab am ak ah aw ar rg wf f f')) 0 0 (hw_A L sz) := by
  refine Met.ofW (cc := b_Rk_goesUp) (maxL := 3) (ret := (some .boolean)) (by decide) rfl ?_
  intro p e s m args below meth c s₁ B hml hv
  obtain ⟨rfl, rfl, hI⟩ := hw_start hv
  clear hv
  have hx := B.exec
  have hb := B.bytes
  have hr := B.returns
  have hlocks := B.notSynchronized
  have hown : s.vm.findClass "WallFractions$Reckoner" = some m.cls := findClass_of_methodNamed B.named
  have hT : ∀ w ∈ TT, w.before ([.ref (ak), .ref (fr a), .int (nI hw)]).toArray s = true := fun w h => atoms_spec (ws := (Cond.code y_Rk_goesUp b_Rk_goesUp 3 (some .boolean) :: TT)) B.pre w (List.mem_cons_of_mem _ h)
  have S : CallFix p m c b_Rk_goesUp 3 s ([.ref (ak), .ref (fr a), .int (nI hw)]).toArray TT "WallFractions$Reckoner" := ⟨hx, hb, hml, hown, hT⟩
  have hl := lv_entry ([.ref (ak), .ref (fr a), .int (nI hw)]) (n := 3) (Nat.le_of_ble_eq_true rfl)
  rw [lg_entry_eq]
  generalize (lg_sl ([.ref (ak), .ref (fr a), .int (nI hw)]) ++ List.replicate (3 - (lg_sl ([.ref (ak), .ref (fr a), .int (nI hw)])).length) Slot.unset).toArray = ls at hl ⊢
  have hl : lv_has ls 3 [(0, .ref (ak)), (1, .ref (fr a)), (2, .int (nI hw))] := hl
  skip
  have hY := hg.1
  have hF : Fm o r fr ad al ab am ak ah aw ar rg wf f f := Fm.refl
  have hs : ∀ z, z < 32 → x z = x z := fun _ _ => rfl
  have ht : ∀ k, k < 16 → sg k = sg k := fun _ _ => rfl
  have hk : ∀ z, z ≠ 37 → x z = x z := fun _ _ => rfl
  refine lv_iload_n hx hb d_Rk_goesUp_0 rfl (lv_at hl 2 rfl) ?_
  rcases (show hw = 0 ∨ hw = 1 ∨ hw = 2 by omega) with rfl | rfl | rfl
  · refine lv_lookup (tgt := 28) hx hb d_Rk_goesUp_1 (by decide) (off := 27) (by decide) (by decide) ?_
    refine lv_aload_n hx hb d_Rk_goesUp_28 rfl (lv_at hl 1 rfl) ?_
    refine ob_getN S hI (hW.Fr (by omega)) (C := R_Fr) (T := F_Fr) (N := 3) (ref := "WallFractions$Fraction") rfl i_Fr 2 (by decide) rfl (by decide +kernel) rfl d_Rk_goesUp_29 ?_
    refine lv_if_eq (tgt := 49) hx hb d_Rk_goesUp_32 (by decide) (fun c1 => ?_) (fun c1 => ?_)
    · refine lv_iconst (v := nI 0) hx hb d_Rk_goesUp_49 (by decide) ?_
      exact hw_zret hx hb hr hlocks hI rfl d_Rk_goesUp_50 ⟨by unfold upF; rw [if_pos rfl, sB_z.mp c1]; rfl, rfl, x, hW, hk, hF⟩
    · refine lv_aload_n hx hb d_Rk_goesUp_35 rfl (lv_at hl 0 rfl) ?_
      refine ob_get S hI hW.Rk (C := R_Rk) (T := F_Rk) (N := 7) (ref := "WallFractions$Reckoner") rfl i_Rk 6 (by decide) rfl w_139 rfl d_Rk_goesUp_36 ?_
      refine hw_cV (As := []) (rest := []) S hI m_Wh_isZero w_521 (c_Wh_isZero l D t0 L _ _ o r 46 x 37 (by omega) hY hW.N) (hW.rc (i := 37) (by omega)).choose_spec rfl hl.1 rfl rfl (Nat.le_of_ble_eq_true rfl) d_Rk_goesUp_39 ⟨Nat.le_of_ble_eq_true rfl, Nat.le_of_ble_eq_true rfl⟩ ⟨Nat.le_of_ble_eq_true rfl, Nat.le_of_ble_eq_true rfl⟩ (fun v9 L9 f2 H locs hp hI => ?_)
      refine W.cs (cells' := 0) (slots' := 0) rfl rfl ?_
      obtain ⟨hv9, rfl, rfl⟩ := hp
      cases hv9
      refine hw_stk (st' := [.int (if x 37 = 0 then nI 1 else nI 0)]) rfl ?_
      by_cases hz : x 37 = 0
      · refine hw_ti (show _ = nI 1 from if_pos hz) ?_
        refine hw_if_ne (tgt := 49) hx hb d_Rk_goesUp_42 (by decide) (by omega) (fun c3 => ?_) (fun c3 => ?_)
        · refine lv_iconst (v := nI 0) hx hb d_Rk_goesUp_49 (by decide) ?_
          exact hw_zret hx hb hr hlocks hI rfl d_Rk_goesUp_50 ⟨by unfold upF; rw [if_pos rfl, bool_ne0 c1, decide_eq_false (fun h => h hz)]; rfl, rfl, x, hW, hk, hF⟩
        · exact absurd c3 (by decide)
      · refine hw_ti (show _ = nI 0 from if_neg hz) ?_
        refine hw_if_ne (tgt := 49) hx hb d_Rk_goesUp_42 (by decide) (by omega) (fun c4 => ?_) (fun c4 => ?_)
        · exact absurd rfl c4
        · refine lv_iconst (v := nI 1) hx hb d_Rk_goesUp_45 (by decide) ?_
          refine lv_goto (tgt := 50) hx hb d_Rk_goesUp_46 (by decide) ?_
          exact hw_zret hx hb hr hlocks hI rfl d_Rk_goesUp_50 ⟨by unfold upF; rw [if_pos rfl, bool_ne0 c1, decide_eq_true hz]; rfl, rfl, x, hW, hk, hF⟩
  · refine lv_lookup (tgt := 51) hx hb d_Rk_goesUp_1 (by decide) (off := 50) (by decide) (by decide) ?_
    refine lv_aload_n hx hb d_Rk_goesUp_51 rfl (lv_at hl 0 rfl) ?_
    refine ob_get S hI hW.Rk (C := R_Rk) (T := F_Rk) (N := 7) (ref := "WallFractions$Reckoner") rfl i_Rk 6 (by decide) rfl w_139 rfl d_Rk_goesUp_52 ?_
    refine hw_ldc2 (v := lN 2) hx hb hown (hT _ w_604) d_Rk_goesUp_55 ?_
    refine lv_lconst (v := lN 0) hx hb d_Rk_goesUp_58 rfl ?_
    have h40 : x 37 < nB ^ 40 := Nat.lt_of_lt_of_le h37 (Nat.pow_le_pow_right nB_pos (by decide))
    refine hw_cV (As := [.long (lN 2), .long (lN 0)]) (rest := []) S hI m_Wh_grow w_381 (c_Wh_grow l D t0 L _ _ o r 46 x 37 2 0 (by omega) hY hW.N h40 (by decide) (by decide)) (hW.rc (i := 37) (by omega)).choose_spec rfl hl.1 rfl rfl (Nat.le_of_ble_eq_true rfl) d_Rk_goesUp_59 ⟨Nat.le_of_ble_eq_true rfl, Nat.le_of_ble_eq_true rfl⟩ ⟨Nat.le_of_ble_eq_true rfl, Nat.le_of_ble_eq_true rfl⟩ (fun v9 L9 f5 H locs hp hI => ?_)
    refine W.cs (cells' := 0) (slots' := 0) rfl rfl ?_
    obtain ⟨hv9, rfl, hN9, hf9⟩ := hp
    cases hv9
    refine hw_stk (st' := []) rfl ?_
    have hF := hF.wh (fun q h9 _ _ _ => hf9 q (h9 37 (by omega)).1 (h9 37 (by omega)).2)
    obtain ⟨x5, hW, e9, s9⟩ := (hW.wh hN9 (fun q h9 => hf9 q (h9 37 (by omega)).1 (h9 37 (by omega)).2)).cut
    have n9 : x5 37 = 2 * x 37 := by rw [e9]; omega
    have e37 : x5 37 = 2 * x 37 := n9
    have hs := fun z (hz : z < 32) => (s9 z (by omega)).trans (hs z hz)
    have hk : ∀ z, z ≠ 37 → x5 z = x z := s9
    have q1 := hs (2 * a + 1) (by omega)
    refine lv_aload_n hx hb d_Rk_goesUp_62 rfl (lv_at hl 0 rfl) ?_
    refine ob_get S hI hW.Rk (C := R_Rk) (T := F_Rk) (N := 7) (ref := "WallFractions$Reckoner") rfl i_Rk 6 (by decide) rfl w_139 rfl d_Rk_goesUp_63 ?_
    refine lv_aload_n hx hb d_Rk_goesUp_66 rfl (lv_at hl 1 rfl) ?_
    refine ob_getN S hI (hW.Fr (by omega)) (C := R_Fr) (T := F_Fr) (N := 3) (ref := "WallFractions$Fraction") rfl i_Fr 1 (by decide) rfl (by decide +kernel) rfl d_Rk_goesUp_67 ?_
    refine hw_cV (As := [.ref (o (2 * a + 1))]) (rest := []) S hI m_Wh_order w_422 (c_Wh_order l D t0 L _ _ o r 46 x5 37 (2 * a + 1) (by omega) hY hW.N (by omega)) (hW.rc (i := 37) (by omega)).choose_spec rfl hl.1 rfl rfl (Nat.le_of_ble_eq_true rfl) d_Rk_goesUp_70 ⟨Nat.le_of_ble_eq_true rfl, Nat.le_of_ble_eq_true rfl⟩ ⟨Nat.le_of_ble_eq_true rfl, Nat.le_of_ble_eq_true rfl⟩ (fun v9 L9 f6 H locs hp hI => ?_)
    refine W.cs (cells' := 0) (slots' := 0) rfl rfl ?_
    obtain ⟨hv9, rfl, rfl⟩ := hp
    cases hv9
    refine hw_stk (st' := [.int (cmpN (x5 37) (x5 (2 * a + 1)))]) rfl ?_
    refine hw_ti (show _ = cmpN (2 * x 37) (x (2 * a + 1)) from by rw [e37, q1]) ?_
    refine lv_aload_n hx hb d_Rk_goesUp_73 rfl (lv_at hl 1 rfl) ?_
    refine ob_getN S hI (hW.Fr (by omega)) (C := R_Fr) (T := F_Fr) (N := 3) (ref := "WallFractions$Fraction") rfl i_Fr 2 (by decide) rfl (by decide +kernel) rfl d_Rk_goesUp_74 ?_
    refine lv_if_eq (tgt := 84) hx hb d_Rk_goesUp_77 (by decide) (fun c7 => ?_) (fun c7 => ?_)
    · refine lv_iconst (v := nI 0) hx hb d_Rk_goesUp_84 (by decide) ?_
      refine lv_icmp_lt (tgt := 92) hx hb d_Rk_goesUp_85 (by decide) (fun c8 => ?_) (fun c8 => ?_)
      · refine lv_iconst (v := nI 0) hx hb d_Rk_goesUp_92 (by decide) ?_
        exact hw_zret hx hb hr hlocks hI rfl d_Rk_goesUp_93 ⟨by unfold upF; rw [if_neg (by decide), if_pos rfl, sB_z.mp c7]; rw [decide_eq_false]; rfl; exact Nat.not_le.mpr (cmpN_neg.mp c8), rfl, x5, hW, hk, hF⟩
      · refine lv_iconst (v := nI 1) hx hb d_Rk_goesUp_88 (by decide) ?_
        refine lv_goto (tgt := 93) hx hb d_Rk_goesUp_89 (by decide) ?_
        exact hw_zret hx hb hr hlocks hI rfl d_Rk_goesUp_93 ⟨by unfold upF; rw [if_neg (by decide), if_pos rfl, sB_z.mp c7]; rw [decide_eq_true]; rfl; exact Nat.not_lt.mp (fun h => c8 (cmpN_neg.mpr h)), rfl, x5, hW, hk, hF⟩
    · refine lv_iconst (v := nI 1) hx hb d_Rk_goesUp_80 (by decide) ?_
      refine lv_goto (tgt := 85) hx hb d_Rk_goesUp_81 (by decide) ?_
      refine lv_icmp_lt (tgt := 92) hx hb d_Rk_goesUp_85 (by decide) (fun c9 => ?_) (fun c9 => ?_)
      · refine lv_iconst (v := nI 0) hx hb d_Rk_goesUp_92 (by decide) ?_
        exact hw_zret hx hb hr hlocks hI rfl d_Rk_goesUp_93 ⟨by unfold upF; rw [if_neg (by decide), if_pos rfl, bool_ne0 c7]; rw [decide_eq_false]; rfl; exact Nat.not_lt.mpr (cmpN_lt1.mp c9), rfl, x5, hW, hk, hF⟩
      · refine lv_iconst (v := nI 1) hx hb d_Rk_goesUp_88 (by decide) ?_
        refine lv_goto (tgt := 93) hx hb d_Rk_goesUp_89 (by decide) ?_
        exact hw_zret hx hb hr hlocks hI rfl d_Rk_goesUp_93 ⟨by unfold upF; rw [if_neg (by decide), if_pos rfl, bool_ne0 c7]; rw [decide_eq_true]; rfl; exact Nat.not_le.mp (fun h => c9 (cmpN_lt1.mpr h)), rfl, x5, hW, hk, hF⟩
  · refine lv_lookup (tgt := 94) hx hb d_Rk_goesUp_1 (by decide) (off := 93) (by decide) (by decide) ?_
    refine lv_iconst (v := nI 0) hx hb d_Rk_goesUp_94 (by decide) ?_
    exact hw_zret hx hb hr hlocks hI rfl d_Rk_goesUp_95 ⟨by rfl, rfl, x, hW, hk, hF⟩
set_option maxHeartbeats 4000000 in
set_option maxRecDepth 100000 in
theorem c_Rk_shorten (l : Launch) (D : va_G) (t0 : Nat) (L : List Nat) (f : Nat → va_E) (sz : Nat) (o r fr : Nat → Nat) (ad al ab am ak ah aw ar rg wf : Nat) (x : Nat → Nat) (sg : Nat → Bool) (wt rs : Nat → Nat) (a dc hw : Nat) (hg : Gl o r fr ad al ab am ak ah aw ar rg wf) (hW : Wd D L f o r fr ad al ab am ak ah aw ar rg wf x sg wt rs) (ha : a < 16) (hdc : dc ≤ 40) (hhw : hw ≤ 2) (h20 : ∀ z, z < 32 → x z < nB ^ 20) (hB0 : 0 < x (2 * a + 1)) : Met l y_Rk_shorten (Cond.code y_Rk_shorten b_Rk_shorten 4 none :: TT) ({ frames := 9, cells := 0, slots := 0, locals := 192 } : Room) (hw_Pc t0 [.ref (ak), .ref (fr a), .int (nI dc), .int (nI hw)] D L f sz) (hw_Q D L sz (fun oc L' f' => oc = .returned none ∧ L = L' ∧ ∃ x' sg', Wd D L f' o r fr ad al ab am ak ah aw ar rg wf x' sg' wt rs ∧ x' 32 = (x (2 * a) * 10 ^ dc / x (2 * a + 1) + (if upF hw (x (2 * a) * 10 ^ dc % x (2 * a + 1)) (x (2 * a + 1)) (sg a) then 1 else 0)) ∧ x' 33 = 10 ^ dc ∧ sg' 16 = sg a ∧ (∀ z, z < 32 → x' z = x z) ∧ (∀ k, k < 16 → sg' k = sg k) ∧ Fm o r fr ad al ab am ak ah aw ar rg wf f f')) 0 0 (hw_A L sz) := by
  refine Met.ofW (cc := b_Rk_shorten) (maxL := 4) (ret := none) (by decide) rfl ?_
  intro p e s m args below meth c s₁ B hml hv
  obtain ⟨rfl, rfl, hI⟩ := hw_start hv
  clear hv
  have hx := B.exec
  have hb := B.bytes
  have hr := B.returns
  have hlocks := B.notSynchronized
  have hown : s.vm.findClass "WallFractions$Reckoner" = some m.cls := findClass_of_methodNamed B.named
  have hT : ∀ w ∈ TT, w.before ([.ref (ak), .ref (fr a), .int (nI dc), .int (nI hw)]).toArray s = true := fun w h => atoms_spec (ws := (Cond.code y_Rk_shorten b_Rk_shorten 4 none :: TT)) B.pre w (List.mem_cons_of_mem _ h)
  have S : CallFix p m c b_Rk_shorten 4 s ([.ref (ak), .ref (fr a), .int (nI dc), .int (nI hw)]).toArray TT "WallFractions$Reckoner" := ⟨hx, hb, hml, hown, hT⟩
  have hl := lv_entry ([.ref (ak), .ref (fr a), .int (nI dc), .int (nI hw)]) (n := 4) (Nat.le_of_ble_eq_true rfl)
  rw [lg_entry_eq]
  generalize (lg_sl ([.ref (ak), .ref (fr a), .int (nI dc), .int (nI hw)]) ++ List.replicate (4 - (lg_sl ([.ref (ak), .ref (fr a), .int (nI dc), .int (nI hw)])).length) Slot.unset).toArray = ls at hl ⊢
  have hl : lv_has ls 4 [(0, .ref (ak)), (1, .ref (fr a)), (2, .int (nI dc)), (3, .int (nI hw))] := hl
  skip
  have hY := hg.1
  have hF : Fm o r fr ad al ab am ak ah aw ar rg wf f f := Fm.refl
  have hs : ∀ z, z < 32 → x z = x z := fun _ _ => rfl
  have ht : ∀ k, k < 16 → sg k = sg k := fun _ _ => rfl
  obtain ⟨B0, hB⟩ : ∃ B0, B0 = x (2 * a + 1) := ⟨_, rfl⟩
  obtain ⟨A0, hA0⟩ : ∃ A0, A0 = x (2 * a) * 10 ^ dc := ⟨_, rfl⟩
  obtain ⟨up, hup⟩ : ∃ up, up = upF hw (A0 % B0) B0 (sg a) := ⟨_, rfl⟩
  have hBp : 0 < B0 := by rw [hB]; exact hB0
  have hB20 : B0 < nB ^ 20 := by rw [hB]; exact h20 _ (by omega)
  have ht5 : 10 ^ dc < nB ^ 5 := Nat.lt_of_le_of_lt (Nat.pow_le_pow_right (by decide) hdc) (by decide)
  have hA25 : A0 < nB ^ 25 := by rw [hA0]; exact mul_lt_pow (h20 _ (by omega)) ht5
  refine lv_aload_n hx hb d_Rk_shorten_0 rfl (lv_at hl 0 rfl) ?_
  refine ob_get S hI hW.Rk (C := R_Rk) (T := F_Rk) (N := 7) (ref := "WallFractions$Reckoner") rfl i_Rk 3 (by decide) rfl w_136 rfl d_Rk_shorten_1 ?_
  refine lv_iload_n hx hb d_Rk_shorten_4 rfl (lv_at hl 2 rfl) ?_
  refine hw_cV (As := [.int (nI dc)]) (rest := []) S hI m_Wh_becomeTenTo w_596 (c_Wh_becomeTenTo l D t0 L _ _ o r 46 x 34 dc (by omega) hY hW.N (by omega)) (hW.rc (i := 34) (by omega)).choose_spec rfl hl.1 rfl rfl (Nat.le_of_ble_eq_true rfl) d_Rk_shorten_5 ⟨Nat.le_of_ble_eq_true rfl, Nat.le_of_ble_eq_true rfl⟩ ⟨Nat.le_of_ble_eq_true rfl, Nat.le_of_ble_eq_true rfl⟩ (fun v9 L9 f10 H locs hp hI => ?_)
  refine W.cs (cells' := 0) (slots' := 0) rfl rfl ?_
  obtain ⟨hv9, rfl, hN9, hf9⟩ := hp
  cases hv9
  refine hw_stk (st' := []) rfl ?_
  have hF := hF.wh (fun q h9 _ _ _ => hf9 q (h9 34 (by omega)).1 (h9 34 (by omega)).2)
  obtain ⟨x10, hW, e9, s9⟩ := (hW.wh hN9 (fun q h9 => hf9 q (h9 34 (by omega)).1 (h9 34 (by omega)).2)).cut
  have n9 : x10 34 = 10 ^ dc := by rw [e9]
  have e34 : x10 34 = 10 ^ dc := n9
  have hs := fun z (hz : z < 32) => (s9 z (by omega)).trans (hs z hz)
  have q1 := hs (2 * a) (by omega)
  refine lv_aload_n hx hb d_Rk_shorten_8 rfl (lv_at hl 0 rfl) ?_
  refine ob_get S hI hW.Rk (C := R_Rk) (T := F_Rk) (N := 7) (ref := "WallFractions$Reckoner") rfl i_Rk 4 (by decide) rfl w_137 rfl d_Rk_shorten_9 ?_
  refine lv_aload_n hx hb d_Rk_shorten_12 rfl (lv_at hl 1 rfl) ?_
  refine ob_getN S hI (hW.Fr (by omega)) (C := R_Fr) (T := F_Fr) (N := 3) (ref := "WallFractions$Fraction") rfl i_Fr 0 (by decide) rfl (by decide +kernel) rfl d_Rk_shorten_13 ?_
  refine lv_aload_n hx hb d_Rk_shorten_16 rfl (lv_at hl 0 rfl) ?_
  refine ob_get S hI hW.Rk (C := R_Rk) (T := F_Rk) (N := 7) (ref := "WallFractions$Reckoner") rfl i_Rk 3 (by decide) rfl w_136 rfl d_Rk_shorten_17 ?_
  refine hw_cV (As := [.ref (o (2 * a)), .ref (o 34)]) (rest := []) S hI m_Wh_becomeProduct w_407 (c_Wh_becomeProduct l D t0 L _ _ o r 46 x10 35 (2 * a) 34 20 5 (by omega) hY hW.N (by omega) (by omega) (by omega) (by omega) (by rw [q1]; exact h20 _ (by omega)) (by rw [e34]; exact ht5) (by decide)) (hW.rc (i := 35) (by omega)).choose_spec rfl hl.1 rfl rfl (Nat.le_of_ble_eq_true rfl) d_Rk_shorten_20 ⟨Nat.le_of_ble_eq_true rfl, Nat.le_of_ble_eq_true rfl⟩ ⟨Nat.le_of_ble_eq_true rfl, Nat.le_of_ble_eq_true rfl⟩ (fun v9 L9 f11 H locs hp hI => ?_)
  refine W.cs (cells' := 0) (slots' := 0) rfl rfl ?_
  obtain ⟨hv9, rfl, hN9, hf9⟩ := hp
  cases hv9
  refine hw_stk (st' := []) rfl ?_
  have hF := hF.wh (fun q h9 _ _ _ => hf9 q (h9 35 (by omega)).1 (h9 35 (by omega)).2)
  obtain ⟨x11, hW, e9, s9⟩ := (hW.wh hN9 (fun q h9 => hf9 q (h9 35 (by omega)).1 (h9 35 (by omega)).2)).cut
  have n9 : x11 35 = A0 := by rw [e9, q1, e34, ← hA0]
  have e34 : x11 34 = 10 ^ dc := (s9 34 (by omega)).trans e34
  have e35 : x11 35 = A0 := n9
  have hs := fun z (hz : z < 32) => (s9 z (by omega)).trans (hs z hz)
  have q2 := hs (2 * a + 1) (by omega)
  rw [← hB] at q2
  refine lv_aload_n hx hb d_Rk_shorten_23 rfl (lv_at hl 0 rfl) ?_
  refine ob_get S hI hW.Rk (C := R_Rk) (T := F_Rk) (N := 7) (ref := "WallFractions$Reckoner") rfl i_Rk 0 (by decide) rfl w_132 rfl d_Rk_shorten_24 ?_
  refine lv_aload_n hx hb d_Rk_shorten_27 rfl (lv_at hl 0 rfl) ?_
  refine ob_get S hI hW.Rk (C := R_Rk) (T := F_Rk) (N := 7) (ref := "WallFractions$Reckoner") rfl i_Rk 4 (by decide) rfl w_137 rfl d_Rk_shorten_28 ?_
  refine lv_aload_n hx hb d_Rk_shorten_31 rfl (lv_at hl 1 rfl) ?_
  refine ob_getN S hI (hW.Fr (by omega)) (C := R_Fr) (T := F_Fr) (N := 3) (ref := "WallFractions$Fraction") rfl i_Fr 1 (by decide) rfl (by decide +kernel) rfl d_Rk_shorten_32 ?_
  refine lv_aload_n hx hb d_Rk_shorten_35 rfl (lv_at hl 0 rfl) ?_
  refine ob_get S hI hW.Rk (C := R_Rk) (T := F_Rk) (N := 7) (ref := "WallFractions$Reckoner") rfl i_Rk 5 (by decide) rfl w_138 rfl d_Rk_shorten_36 ?_
  refine lv_aload_n hx hb d_Rk_shorten_39 rfl (lv_at hl 0 rfl) ?_
  refine ob_get S hI hW.Rk (C := R_Rk) (T := F_Rk) (N := 7) (ref := "WallFractions$Reckoner") rfl i_Rk 6 (by decide) rfl w_139 rfl d_Rk_shorten_40 ?_
  obtain ⟨u9, w9, hA9, hU9, hWb9⟩ := hW.Dv
  refine hw_cV (As := [.ref (o 35), .ref (o (2 * a + 1)), .ref (o 36), .ref (o 37)]) (rest := []) S hI m_Dv_split w_520 (c_Dv_split l D t0 L _ _ o r 46 x11 ad al ab u9 w9 35 ((2 * a + 1)) 36 37 hY hW.N hA9 hU9 hWb9 hg.2.1 hW.off.1 hW.off.2.1 (by omega) (by omega) (by omega) (by omega) (by omega) (by rw [q2]; exact hBp)) hA9 rfl hl.1 rfl rfl (Nat.le_of_ble_eq_true rfl) d_Rk_shorten_43 ⟨Nat.le_of_ble_eq_true rfl, Nat.le_of_ble_eq_true rfl⟩ ⟨Nat.le_of_ble_eq_true rfl, Nat.le_of_ble_eq_true rfl⟩ (fun v9 L9 f12 H locs hp hI => ?_)
  refine W.cs (cells' := 0) (slots' := 0) rfl rfl ?_
  obtain ⟨hv9, rfl, hN9, hd9, hf9⟩ := hp
  cases hv9
  refine hw_stk (st' := []) rfl ?_
  have hF := hF.wh (fun q h9 h7 h8 _ => hf9 q (h9 36 (by omega)).1 (h9 36 (by omega)).2 (h9 37 (by omega)).1 (h9 37 (by omega)).2 h7 h8)
  obtain ⟨x12, hW, e9, e8, s9⟩ := (hW.sp hN9 hd9 (fun q h9 h7 h8 => hf9 q (h9 36 (by omega)).1 (h9 36 (by omega)).2 (h9 37 (by omega)).1 (h9 37 (by omega)).2 h7 h8)).cut2 (by omega)
  have n9 : x12 36 = A0 / B0 := by rw [e9, e35, q2]
  have n8 : x12 37 = A0 % B0 := by rw [e8, e35, q2]
  have e34 : x12 34 = 10 ^ dc := (s9 34 (by omega) (by omega)).trans e34
  have e35 : x12 35 = A0 := (s9 35 (by omega) (by omega)).trans e35
  have e36 : x12 36 = A0 / B0 := n9
  have e37 : x12 37 = A0 % B0 := n8
  have hs := fun z (hz : z < 32) => (s9 z (by omega) (by omega)).trans (hs z hz)
  have q2 := hs (2 * a + 1) (by omega)
  rw [← hB] at q2
  have hml9 := Nat.mod_lt A0 hBp
  refine lv_aload_n hx hb d_Rk_shorten_46 rfl (lv_at hl 0 rfl) ?_
  refine lv_aload_n hx hb d_Rk_shorten_47 rfl (lv_at hl 1 rfl) ?_
  refine lv_iload_n hx hb d_Rk_shorten_48 rfl (lv_at hl 3 rfl) ?_
  refine hw_cV (As := [.ref (fr a), .int (nI hw)]) (rest := []) S hI m_Rk_goesUp w_600 (c_Rk_goesUp l D t0 L _ _ o r fr ad al ab am ak ah aw ar rg wf x12 sg wt rs a hw hg hW ha hhw (by rw [e37]; omega)) hW.Rk rfl hl.1 rfl rfl (Nat.le_of_ble_eq_true rfl) d_Rk_shorten_49 ⟨Nat.le_of_ble_eq_true rfl, Nat.le_of_ble_eq_true rfl⟩ ⟨Nat.le_of_ble_eq_true rfl, Nat.le_of_ble_eq_true rfl⟩ (fun v9 L9 f13 H locs hp hI => ?_)
  refine W.cs (cells' := 0) (slots' := 0) rfl rfl ?_
  obtain ⟨hv9, rfl, xg, hW, s9, hF9⟩ := hp
  cases hv9
  refine hw_stk (st' := [.int (sB (upF hw (x12 37) (x12 (2 * a + 1)) (sg a)))]) rfl ?_
  refine hw_ti (show _ = sB up from by rw [e37, q2, hup]) ?_
  have hF := hF.trans hF9
  have e34 : xg 34 = 10 ^ dc := (s9 34 (by omega)).trans e34
  have e35 : xg 35 = A0 := (s9 35 (by omega)).trans e35
  have e36 : xg 36 = A0 / B0 := (s9 36 (by omega)).trans e36
  have hs := fun z (hz : z < 32) => (s9 z (by omega)).trans (hs z hz)
  refine lv_if_eq (tgt := 64) hx hb d_Rk_shorten_52 (by decide) (fun c14 => ?_) (fun c14 => ?_)
  · have p36 := e36
    have hu := sB_z.mp c14
    refine lv_aload_n hx hb d_Rk_shorten_64 rfl (lv_at hl 0 rfl) ?_
    refine lv_aload_n hx hb d_Rk_shorten_65 rfl (lv_at hl 0 rfl) ?_
    refine ob_get S hI hW.Rk (C := R_Rk) (T := F_Rk) (N := 7) (ref := "WallFractions$Reckoner") rfl i_Rk 5 (by decide) rfl w_138 rfl d_Rk_shorten_66 ?_
    refine lv_iload_n hx hb d_Rk_shorten_69 rfl (lv_at hl 2 rfl) ?_
    refine lv_aload_n hx hb d_Rk_shorten_70 rfl (lv_at hl 1 rfl) ?_
    refine ob_getN S hI (hW.Fr (by omega)) (C := R_Fr) (T := F_Fr) (N := 3) (ref := "WallFractions$Fraction") rfl i_Fr 2 (by decide) rfl (by decide +kernel) rfl d_Rk_shorten_71 ?_
    refine hw_cV (As := [.ref (o 36), .int (nI dc), .int (sB (sg a))]) (rest := []) S hI m_Rk_putOut w_605 (c_Rk_putOut l D t0 L _ _ o r fr ad al ab am ak ah aw ar rg wf xg sg wt rs 36 dc (sg a) hg hW (by omega) (by omega) (by omega)) hW.Rk rfl hl.1 rfl rfl (Nat.le_of_ble_eq_true rfl) d_Rk_shorten_74 ⟨Nat.le_of_ble_eq_true rfl, Nat.le_of_ble_eq_true rfl⟩ ⟨Nat.le_of_ble_eq_true rfl, Nat.le_of_ble_eq_true rfl⟩ (fun v9 L9 f15 H locs hp hI => ?_)
    refine W.cs (cells' := 0) (slots' := 0) rfl rfl ?_
    obtain ⟨hv9, rfl, xx15, ss15, hW, e32, e33, g16, hs9, ht9, hF9⟩ := hp
    cases hv9
    refine hw_stk (st' := []) rfl ?_
    have hF := hF.trans hF9
    have hs := fun z (hz : z < 32) => (hs9 z hz).trans (hs z hz)
    have ht := fun z (hz : z < 16) => (ht9 z hz).trans (ht z hz)
    have e32 : xx15 32 = A0 / B0 := e32.trans p36
    have hq : (x (2 * a) * 10 ^ dc / x (2 * a + 1) + (if upF hw (x (2 * a) * 10 ^ dc % x (2 * a + 1)) (x (2 * a + 1)) (sg a) then 1 else 0)) = A0 / B0 := by rw [← hA0, ← hB, ← hup, hu]; rfl
    exact hw_vret hx hb hr hlocks hI d_Rk_shorten_77 ⟨rfl, rfl, xx15, ss15, hW, (by rw [hq]; exact e32), e33, g16, hs, ht, hF⟩
  · have hu := bool_ne0 c14
    have h40 : xg 36 < nB ^ 40 := by rw [e36]; exact Nat.lt_of_le_of_lt (Nat.div_le_self _ _) (Nat.lt_of_lt_of_le hA25 (Nat.pow_le_pow_right nB_pos (by decide)))
    refine lv_aload_n hx hb d_Rk_shorten_55 rfl (lv_at hl 0 rfl) ?_
    refine ob_get S hI hW.Rk (C := R_Rk) (T := F_Rk) (N := 7) (ref := "WallFractions$Reckoner") rfl i_Rk 5 (by decide) rfl w_138 rfl d_Rk_shorten_56 ?_
    refine lv_lconst (v := lN 1) hx hb d_Rk_shorten_59 rfl ?_
    refine lv_lconst (v := lN 1) hx hb d_Rk_shorten_60 rfl ?_
    refine hw_cV (As := [.long (lN 1), .long (lN 1)]) (rest := []) S hI m_Wh_grow w_381 (c_Wh_grow l D t0 L _ _ o r 46 xg 36 1 1 (by omega) hY hW.N h40 (by decide) (by decide)) (hW.rc (i := 36) (by omega)).choose_spec rfl hl.1 rfl rfl (Nat.le_of_ble_eq_true rfl) d_Rk_shorten_61 ⟨Nat.le_of_ble_eq_true rfl, Nat.le_of_ble_eq_true rfl⟩ ⟨Nat.le_of_ble_eq_true rfl, Nat.le_of_ble_eq_true rfl⟩ (fun v9 L9 f16 H locs hp hI => ?_)
    refine W.cs (cells' := 0) (slots' := 0) rfl rfl ?_
    obtain ⟨hv9, rfl, hN9, hf9⟩ := hp
    cases hv9
    refine hw_stk (st' := []) rfl ?_
    have hF := hF.wh (fun q h9 _ _ _ => hf9 q (h9 36 (by omega)).1 (h9 36 (by omega)).2)
    obtain ⟨x16, hW, e9, s9⟩ := (hW.wh hN9 (fun q h9 => hf9 q (h9 36 (by omega)).1 (h9 36 (by omega)).2)).cut
    have n9 : x16 36 = A0 / B0 + 1 := by rw [e9, e36, Nat.mul_one]
    have e34 : x16 34 = 10 ^ dc := (s9 34 (by omega)).trans e34
    have e35 : x16 35 = A0 := (s9 35 (by omega)).trans e35
    have e36 : x16 36 = A0 / B0 + 1 := n9
    have hs := fun z (hz : z < 32) => (s9 z (by omega)).trans (hs z hz)
    have p36 := e36
    refine lv_aload_n hx hb d_Rk_shorten_64 rfl (lv_at hl 0 rfl) ?_
    refine lv_aload_n hx hb d_Rk_shorten_65 rfl (lv_at hl 0 rfl) ?_
    refine ob_get S hI hW.Rk (C := R_Rk) (T := F_Rk) (N := 7) (ref := "WallFractions$Reckoner") rfl i_Rk 5 (by decide) rfl w_138 rfl d_Rk_shorten_66 ?_
    refine lv_iload_n hx hb d_Rk_shorten_69 rfl (lv_at hl 2 rfl) ?_
    refine lv_aload_n hx hb d_Rk_shorten_70 rfl (lv_at hl 1 rfl) ?_
    refine ob_getN S hI (hW.Fr (by omega)) (C := R_Fr) (T := F_Fr) (N := 3) (ref := "WallFractions$Fraction") rfl i_Fr 2 (by decide) rfl (by decide +kernel) rfl d_Rk_shorten_71 ?_
    refine hw_cV (As := [.ref (o 36), .int (nI dc), .int (sB (sg a))]) (rest := []) S hI m_Rk_putOut w_605 (c_Rk_putOut l D t0 L _ _ o r fr ad al ab am ak ah aw ar rg wf x16 sg wt rs 36 dc (sg a) hg hW (by omega) (by omega) (by omega)) hW.Rk rfl hl.1 rfl rfl (Nat.le_of_ble_eq_true rfl) d_Rk_shorten_74 ⟨Nat.le_of_ble_eq_true rfl, Nat.le_of_ble_eq_true rfl⟩ ⟨Nat.le_of_ble_eq_true rfl, Nat.le_of_ble_eq_true rfl⟩ (fun v9 L9 f17 H locs hp hI => ?_)
    refine W.cs (cells' := 0) (slots' := 0) rfl rfl ?_
    obtain ⟨hv9, rfl, xx17, ss17, hW, e32, e33, g16, hs9, ht9, hF9⟩ := hp
    cases hv9
    refine hw_stk (st' := []) rfl ?_
    have hF := hF.trans hF9
    have hs := fun z (hz : z < 32) => (hs9 z hz).trans (hs z hz)
    have ht := fun z (hz : z < 16) => (ht9 z hz).trans (ht z hz)
    have e32 : xx17 32 = A0 / B0 + 1 := e32.trans p36
    have hq : (x (2 * a) * 10 ^ dc / x (2 * a + 1) + (if upF hw (x (2 * a) * 10 ^ dc % x (2 * a + 1)) (x (2 * a + 1)) (sg a) then 1 else 0)) = A0 / B0 + 1 := by rw [← hA0, ← hB, ← hup, hu]; rfl
    exact hw_vret hx hb hr hlocks hI d_Rk_shorten_77 ⟨rfl, rfl, xx17, ss17, hW, (by rw [hq]; exact e32), e33, g16, hs, ht, hF⟩

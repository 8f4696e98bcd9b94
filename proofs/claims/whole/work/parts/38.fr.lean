theorem sB_nar (b : Bool) : narrow .boolean (.int (sB b)) = .int (sB b) := by cases b <;> rfl
theorem sB_fit (b : Bool) : fits .boolean (.int (sB b)) = true := by cases b <;> rfl
theorem sB_z {b : Bool} : sB b = 0 ↔ b = false := by cases b <;> decide
theorem sB_inj {a b : Bool} : sB a = sB b ↔ a = b := by cases a <;> cases b <;> decide
set_option maxHeartbeats 4000000 in
set_option maxRecDepth 100000 in
theorem c_Fr_copyFrom (l : Launch) (D : va_G) (t0 : Nat) (L : List Nat) (f : Nat → va_E) (sz : Nat) (o r fr : Nat → Nat) (ad al ab am ak ah aw ar rg wf : Nat) (x : Nat → Nat) (sg : Nat → Bool) (wt rs : Nat → Nat) (i j : Nat) (hg : Gl o r fr ad al ab am ak ah aw ar rg wf) (hW : Wd D L f o r fr ad al ab am ak ah aw ar rg wf x sg wt rs) (hi : i < 17) (hj : j < 17) : Met l y_Fr_copyFrom (Cond.code y_Fr_copyFrom b_Fr_copyFrom 2 none :: TT) ({ frames := 2, cells := 0, slots := 0, locals := 61 } : Room) (hw_Pc t0 [.ref (fr i), .ref (fr j)] D L f sz) (hw_Q D L sz (fun oc L' f' => oc = .returned none ∧ L = L' ∧ ∃ x' sg', Wd D L f' o r fr ad al ab am ak ah aw ar rg wf x' sg' wt rs ∧ x' (2 * i) = x (2 * j) ∧ x' (2 * i + 1) = x (2 * j + 1) ∧ (∀ z, z ≠ 2 * i → z ≠ 2 * i + 1 → x' z = x z) ∧ sg' i = sg j ∧ (∀ k, k ≠ i → sg' k = sg k) ∧ Fm o r fr ad al ab am ak ah aw ar rg wf f f')) 0 0 (hw_A L sz) := by
  refine Met.ofW (cc := b_Fr_copyFrom) (maxL := 2) (ret := none) (by decide) rfl ?_
  intro p e s m args below meth c s₁ B hml hv
  obtain ⟨rfl, rfl, hI⟩ := hw_start hv
  clear hv
  have hx := B.exec
  have hb := B.bytes
  have hr := B.returns
  have hlocks := B.notSynchronized
  have hown : s.vm.findClass "WallFractions$Fraction" = some m.cls := findClass_of_methodNamed B.named
  have hT : ∀ w ∈ TT, w.before ([.ref (fr i), .ref (fr j)]).toArray s = true := fun w h => atoms_spec (ws := (Cond.code y_Fr_copyFrom b_Fr_copyFrom 2 none :: TT)) B.pre w (List.mem_cons_of_mem _ h)
  have S : CallFix p m c b_Fr_copyFrom 2 s ([.ref (fr i), .ref (fr j)]).toArray TT "WallFractions$Fraction" := ⟨hx, hb, hml, hown, hT⟩
  have hl := lv_entry ([.ref (fr i), .ref (fr j)]) (n := 2) (Nat.le_of_ble_eq_true rfl)
  rw [lg_entry_eq]
  generalize (lg_sl ([.ref (fr i), .ref (fr j)]) ++ List.replicate (2 - (lg_sl ([.ref (fr i), .ref (fr j)])).length) Slot.unset).toArray = ls at hl ⊢
  have hl : lv_has ls 2 [(0, .ref (fr i)), (1, .ref (fr j))] := hl
  skip
  have hY := hg.1
  have hF : Fm o r fr ad al ab am ak ah aw ar rg wf f f := Fm.refl
  have hs : ∀ z, z < 32 → x z = x z := fun _ _ => rfl
  have ht : ∀ k, k < 16 → sg k = sg k := fun _ _ => rfl
  have hs : ∀ z, z ≠ 2 * i → z ≠ 2 * i + 1 → x z = x z := fun _ _ _ => rfl
  have ht : ∀ k, k ≠ i → sg k = sg k := fun _ _ => rfl
  refine lv_aload_n hx hb d_Fr_copyFrom_0 rfl (lv_at hl 0 rfl) ?_
  refine ob_get S hI (hW.Fr hi) (C := R_Fr) (T := F_Fr) (N := 3) (ref := "WallFractions$Fraction") rfl i_Fr 0 (by decide) rfl w_57 rfl d_Fr_copyFrom_1 ?_
  refine lv_aload_n hx hb d_Fr_copyFrom_4 rfl (lv_at hl 1 rfl) ?_
  refine ob_get S hI (hW.Fr hj) (C := R_Fr) (T := F_Fr) (N := 3) (ref := "WallFractions$Fraction") rfl i_Fr 0 (by decide) rfl w_57 rfl d_Fr_copyFrom_5 ?_
  refine hw_cV (As := [.ref (o (2 * j))]) (rest := []) S hI m_Wh_copyFrom w_349 (c_Wh_copyFrom l D t0 L _ _ o r 46 x (2 * i) (2 * j) (by omega) hY hW.N (by omega)) (hW.rc (i := (2 * i)) (by omega)).choose_spec rfl hl.1 rfl rfl (Nat.le_of_ble_eq_true rfl) d_Fr_copyFrom_8 ⟨Nat.le_of_ble_eq_true rfl, Nat.le_of_ble_eq_true rfl⟩ ⟨Nat.le_of_ble_eq_true rfl, Nat.le_of_ble_eq_true rfl⟩ (fun v9 L9 f1 H locs hp hI => ?_)
  refine W.cs (cells' := 0) (slots' := 0) rfl rfl ?_
  obtain ⟨hv9, rfl, hN9, hf9⟩ := hp
  cases hv9
  refine hw_stk (st' := []) rfl ?_
  have hF := hF.wh (fun q h9 _ _ _ => hf9 q (h9 ((2 * i)) (by omega)).1 (h9 ((2 * i)) (by omega)).2)
  obtain ⟨x1, hW, e9, s9⟩ := (hW.wh hN9 (fun q h9 => hf9 q (h9 ((2 * i)) (by omega)).1 (h9 ((2 * i)) (by omega)).2)).cut
  have n9 : x1 ((2 * i)) = x (2 * j) := by rw [e9]
  have e_2_i_ : x1 ((2 * i)) = x (2 * j) := n9
  have hs := fun z (h1 : z ≠ 2 * i) (h2 : z ≠ 2 * i + 1) => (s9 z h1).trans (hs z h1 h2)
  have hj9 := s9 (2 * j + 1) (by omega)
  refine lv_aload_n hx hb d_Fr_copyFrom_11 rfl (lv_at hl 0 rfl) ?_
  refine ob_get S hI (hW.Fr hi) (C := R_Fr) (T := F_Fr) (N := 3) (ref := "WallFractions$Fraction") rfl i_Fr 1 (by decide) rfl w_60 rfl d_Fr_copyFrom_12 ?_
  refine lv_aload_n hx hb d_Fr_copyFrom_15 rfl (lv_at hl 1 rfl) ?_
  refine ob_get S hI (hW.Fr hj) (C := R_Fr) (T := F_Fr) (N := 3) (ref := "WallFractions$Fraction") rfl i_Fr 1 (by decide) rfl w_60 rfl d_Fr_copyFrom_16 ?_
  refine hw_cV (As := [.ref (o (2 * j + 1))]) (rest := []) S hI m_Wh_copyFrom w_349 (c_Wh_copyFrom l D t0 L _ _ o r 46 x1 (2 * i + 1) (2 * j + 1) (by omega) hY hW.N (by omega)) (hW.rc (i := (2 * i + 1)) (by omega)).choose_spec rfl hl.1 rfl rfl (Nat.le_of_ble_eq_true rfl) d_Fr_copyFrom_19 ⟨Nat.le_of_ble_eq_true rfl, Nat.le_of_ble_eq_true rfl⟩ ⟨Nat.le_of_ble_eq_true rfl, Nat.le_of_ble_eq_true rfl⟩ (fun v9 L9 f2 H locs hp hI => ?_)
  refine W.cs (cells' := 0) (slots' := 0) rfl rfl ?_
  obtain ⟨hv9, rfl, hN9, hf9⟩ := hp
  cases hv9
  refine hw_stk (st' := []) rfl ?_
  have hF := hF.wh (fun q h9 _ _ _ => hf9 q (h9 ((2 * i + 1)) (by omega)).1 (h9 ((2 * i + 1)) (by omega)).2)
  obtain ⟨x2, hW, e9, s9⟩ := (hW.wh hN9 (fun q h9 => hf9 q (h9 ((2 * i + 1)) (by omega)).1 (h9 ((2 * i + 1)) (by omega)).2)).cut
  have n9 : x2 ((2 * i + 1)) = x (2 * j + 1) := by rw [e9, hj9]
  have e_2_i_ : x2 ((2 * i)) = x (2 * j) := (s9 ((2 * i)) (by omega)).trans e_2_i_
  have e_2_i_1_ : x2 ((2 * i + 1)) = x (2 * j + 1) := n9
  have hs := fun z (h1 : z ≠ 2 * i) (h2 : z ≠ 2 * i + 1) => (s9 z h2).trans (hs z h1 h2)
  refine lv_aload_n hx hb d_Fr_copyFrom_22 rfl (lv_at hl 0 rfl) ?_
  refine lv_aload_n hx hb d_Fr_copyFrom_23 rfl (lv_at hl 1 rfl) ?_
  refine ob_get S hI (hW.Fr hj) (C := R_Fr) (T := F_Fr) (N := 3) (ref := "WallFractions$Fraction") rfl i_Fr 2 (by decide) rfl w_63 rfl d_Fr_copyFrom_24 ?_
  refine hw_ti (show _ = sB (sg j) from rfl) ?_
  refine ob_put S hI (hW.Fr hi) (fs' := [.ref (o (2 * i)), .ref (o (2 * i + 1)), .int (sB (sg j))]) (C := R_Fr) (T := F_Fr) (N := 3) (ref := "WallFractions$Fraction") rfl i_Fr t_Fr t_Fr_ok n_Fr 2 (by decide) rfl w_63 rfl (sB_nar _) (sB_fit _) (by simp only [List.length]; decide) rfl d_Fr_copyFrom_27 (fun f3 H locs hI hO9 hf3 => ?_)
  have hF := hF.sg hi hf3
  obtain ⟨sg3, hW, g9, t9⟩ := (hW.sgn hg hi hf3 (b := (sg j)) hO9).cutS
  have gi : sg3 i = (sg j) := g9
  have ht := fun k (h1 : k ≠ i) => (t9 k h1).trans (ht k h1)
  exact hw_vret hx hb hr hlocks hI d_Fr_copyFrom_30 ⟨rfl, rfl, x2, sg3, hW, e_2_i_, e_2_i_1_, hs, gi, ht, hF⟩
set_option maxHeartbeats 4000000 in
set_option maxRecDepth 100000 in
theorem c_Fr_fits (l : Launch) (D : va_G) (t0 : Nat) (L : List Nat) (f : Nat → va_E) (sz : Nat) (o r fr : Nat → Nat) (ad al ab am ak ah aw ar rg wf : Nat) (x : Nat → Nat) (sg : Nat → Bool) (wt rs : Nat → Nat) (k : Nat) (hg : Gl o r fr ad al ab am ak ah aw ar rg wf) (hW : Wd D L f o r fr ad al ab am ak ah aw ar rg wf x sg wt rs) (hk : k < 17) : Met l y_Fr_fits (Cond.code y_Fr_fits b_Fr_fits 1 (some .boolean) :: TT) ({ frames := 0, cells := 0, slots := 0, locals := 0 } : Room) (hw_Pc t0 [.ref (fr k)] D L f sz) (hw_Q D L sz (fun oc L' f' => oc = .returned (some (.int (sB (decide (x (2 * k) < nB ^ 20 ∧ x (2 * k + 1) < nB ^ 20))))) ∧ L = L' ∧ f = f')) 0 0 (hw_A L sz) := by
  refine Met.ofW (cc := b_Fr_fits) (maxL := 1) (ret := (some .boolean)) (by decide) rfl ?_
  intro p e s m args below meth c s₁ B hml hv
  obtain ⟨rfl, rfl, hI⟩ := hw_start hv
  clear hv
  have hx := B.exec
  have hb := B.bytes
  have hr := B.returns
  have hlocks := B.notSynchronized
  have hown : s.vm.findClass "WallFractions$Fraction" = some m.cls := findClass_of_methodNamed B.named
  have hT : ∀ w ∈ TT, w.before ([.ref (fr k)]).toArray s = true := fun w h => atoms_spec (ws := (Cond.code y_Fr_fits b_Fr_fits 1 (some .boolean) :: TT)) B.pre w (List.mem_cons_of_mem _ h)
  have S : CallFix p m c b_Fr_fits 1 s ([.ref (fr k)]).toArray TT "WallFractions$Fraction" := ⟨hx, hb, hml, hown, hT⟩
  have hl := lv_entry ([.ref (fr k)]) (n := 1) (Nat.le_of_ble_eq_true rfl)
  rw [lg_entry_eq]
  generalize (lg_sl ([.ref (fr k)]) ++ List.replicate (1 - (lg_sl ([.ref (fr k)])).length) Slot.unset).toArray = ls at hl ⊢
  have hl : lv_has ls 1 [(0, .ref (fr k))] := hl
  skip
  have hY := hg.1
  have hF : Fm o r fr ad al ab am ak ah aw ar rg wf f f := Fm.refl
  have hs : ∀ z, z < 32 → x z = x z := fun _ _ => rfl
  have ht : ∀ k, k < 16 → sg k = sg k := fun _ _ => rfl
  obtain ⟨v, hV, hO⟩ := hW.N
  have h1 := (hO (2 * k) (by omega)).1
  have h2 := (hO (2 * k + 1) (by omega)).1
  have z1 := (hO (2 * k) (by omega)).2.size_le nB1 (k := 20)
  have z2 := (hO (2 * k + 1) (by omega)).2.size_le nB1 (k := 20)
  refine lv_aload_n hx hb d_Fr_fits_0 rfl (lv_at hl 0 rfl) ?_
  refine ob_get S hI (hW.Fr hk) (C := R_Fr) (T := F_Fr) (N := 3) (ref := "WallFractions$Fraction") rfl i_Fr 0 (by decide) rfl w_57 rfl d_Fr_fits_1 ?_
  refine wh_sizeN S hI hV (show 2 * k < 46 by omega) (by decide) d_Fr_fits_4 ?_
  refine lv_bipush (v := nI 20) hx hb d_Fr_fits_7 (by decide) ?_
  refine hw_icmp_gt (tgt := 28) hx hb d_Fr_fits_9 (by decide) (by omega) (by omega) (fun c4 => ?_) (fun c4 => ?_)
  · refine lv_iconst (v := nI 0) hx hb d_Fr_fits_28 (by decide) ?_
    exact hw_zret hx hb hr hlocks hI rfl d_Fr_fits_29 ⟨by rw [decide_eq_false (fun h9 => by have := z1.mpr h9.1; omega)]; rfl, rfl, rfl⟩
  · refine lv_aload_n hx hb d_Fr_fits_12 rfl (lv_at hl 0 rfl) ?_
    refine ob_get S hI (hW.Fr hk) (C := R_Fr) (T := F_Fr) (N := 3) (ref := "WallFractions$Fraction") rfl i_Fr 1 (by decide) rfl w_60 rfl d_Fr_fits_13 ?_
    refine wh_sizeN S hI hV (show 2 * k + 1 < 46 by omega) (by decide) d_Fr_fits_16 ?_
    refine lv_bipush (v := nI 20) hx hb d_Fr_fits_19 (by decide) ?_
    refine hw_icmp_gt (tgt := 28) hx hb d_Fr_fits_21 (by decide) (by omega) (by omega) (fun c5 => ?_) (fun c5 => ?_)
    · refine lv_iconst (v := nI 0) hx hb d_Fr_fits_28 (by decide) ?_
      exact hw_zret hx hb hr hlocks hI rfl d_Fr_fits_29 ⟨by rw [decide_eq_false (fun h9 => by have := z2.mpr h9.2; omega)]; rfl, rfl, rfl⟩
    · refine lv_iconst (v := nI 1) hx hb d_Fr_fits_24 (by decide) ?_
      refine lv_goto (tgt := 29) hx hb d_Fr_fits_25 (by decide) ?_
      exact hw_zret hx hb hr hlocks hI rfl d_Fr_fits_29 ⟨by rw [decide_eq_true ⟨z1.mp c4, z2.mp c5⟩]; rfl, rfl, rfl⟩
set_option maxHeartbeats 4000000 in
set_option maxRecDepth 100000 in
theorem c_Fr_direction (l : Launch) (D : va_G) (t0 : Nat) (L : List Nat) (f : Nat → va_E) (sz : Nat) (o r fr : Nat → Nat) (ad al ab am ak ah aw ar rg wf : Nat) (x : Nat → Nat) (sg : Nat → Bool) (wt rs : Nat → Nat) (k : Nat) (hg : Gl o r fr ad al ab am ak ah aw ar rg wf) (hW : Wd D L f o r fr ad al ab am ak ah aw ar rg wf x sg wt rs) (hk : k < 17) : Met l y_Fr_direction (Cond.code y_Fr_direction b_Fr_direction 1 (some .int) :: TT) ({ frames := 1, cells := 0, slots := 0, locals := 20 } : Room) (hw_Pc t0 [.ref (fr k)] D L f sz) (hw_Q D L sz (fun oc L' f' => oc = .returned (some (.int (if x (2 * k) = 0 then 0 else if sg k then -1 else 1))) ∧ L = L' ∧ f = f')) 0 0 (hw_A L sz) := by
  refine Met.ofW (cc := b_Fr_direction) (maxL := 1) (ret := (some .int)) (by decide) rfl ?_
  intro p e s m args below meth c s₁ B hml hv
  obtain ⟨rfl, rfl, hI⟩ := hw_start hv
  clear hv
  have hx := B.exec
  have hb := B.bytes
  have hr := B.returns
  have hlocks := B.notSynchronized
  have hown : s.vm.findClass "WallFractions$Fraction" = some m.cls := findClass_of_methodNamed B.named
  have hT : ∀ w ∈ TT, w.before ([.ref (fr k)]).toArray s = true := fun w h => atoms_spec (ws := (Cond.code y_Fr_direction b_Fr_direction 1 (some .int) :: TT)) B.pre w (List.mem_cons_of_mem _ h)
  have S : CallFix p m c b_Fr_direction 1 s ([.ref (fr k)]).toArray TT "WallFractions$Fraction" := ⟨hx, hb, hml, hown, hT⟩
  have hl := lv_entry ([.ref (fr k)]) (n := 1) (Nat.le_of_ble_eq_true rfl)
  rw [lg_entry_eq]
  generalize (lg_sl ([.ref (fr k)]) ++ List.replicate (1 - (lg_sl ([.ref (fr k)])).length) Slot.unset).toArray = ls at hl ⊢
  have hl : lv_has ls 1 [(0, .ref (fr k))] := hl
  skip
  have hY := hg.1
  have hF : Fm o r fr ad al ab am ak ah aw ar rg wf f f := Fm.refl
  have hs : ∀ z, z < 32 → x z = x z := fun _ _ => rfl
  have ht : ∀ k, k < 16 → sg k = sg k := fun _ _ => rfl
  refine lv_aload_n hx hb d_Fr_direction_0 rfl (lv_at hl 0 rfl) ?_
  refine ob_get S hI (hW.Fr hk) (C := R_Fr) (T := F_Fr) (N := 3) (ref := "WallFractions$Fraction") rfl i_Fr 0 (by decide) rfl w_57 rfl d_Fr_direction_1 ?_
  refine hw_cV (As := []) (rest := []) S hI m_Wh_isZero w_653 (c_Wh_isZero l D t0 L _ _ o r 46 x (2 * k) (by omega) hY hW.N) (hW.rc (i := (2 * k)) (by omega)).choose_spec rfl hl.1 rfl rfl (Nat.le_of_ble_eq_true rfl) d_Fr_direction_4 ⟨Nat.le_of_ble_eq_true rfl, Nat.le_of_ble_eq_true rfl⟩ ⟨Nat.le_of_ble_eq_true rfl, Nat.le_of_ble_eq_true rfl⟩ (fun v9 L9 f6 H locs hp hI => ?_)
  refine W.cs (cells' := 0) (slots' := 0) rfl rfl ?_
  obtain ⟨hv9, rfl, rfl⟩ := hp
  cases hv9
  refine hw_stk (st' := [.int (if x (2 * k) = 0 then nI 1 else nI 0)]) rfl ?_
  by_cases hz : x (2 * k) = 0
  · refine hw_ti (show _ = nI 1 from if_pos hz) ?_
    refine hw_if_eq (tgt := 12) hx hb d_Fr_direction_7 (by decide) (by omega) (fun c7 => ?_) (fun c7 => ?_)
    · exact absurd c7 (by decide)
    · refine lv_iconst (v := nI 0) hx hb d_Fr_direction_10 (by decide) ?_
      exact hw_iret hx hb hr hlocks hI d_Fr_direction_11 ⟨by rw [if_pos hz]; rfl, rfl, rfl⟩
  · refine hw_ti (show _ = nI 0 from if_neg hz) ?_
    refine hw_if_eq (tgt := 12) hx hb d_Fr_direction_7 (by decide) (by omega) (fun c8 => ?_) (fun c8 => ?_)
    · refine lv_aload_n hx hb d_Fr_direction_12 rfl (lv_at hl 0 rfl) ?_
      refine ob_get S hI (hW.Fr hk) (C := R_Fr) (T := F_Fr) (N := 3) (ref := "WallFractions$Fraction") rfl i_Fr 2 (by decide) rfl w_63 rfl d_Fr_direction_13 ?_
      refine lv_if_eq (tgt := 23) hx hb d_Fr_direction_16 (by decide) (fun c9 => ?_) (fun c9 => ?_)
      · refine lv_iconst (v := nI 1) hx hb d_Fr_direction_23 (by decide) ?_
        exact hw_iret hx hb hr hlocks hI d_Fr_direction_24 ⟨by rw [if_neg hz, sB_z.mp c9]; rfl, rfl, rfl⟩
      · refine lv_iconst (v := -1) hx hb d_Fr_direction_19 (by decide) ?_
        refine lv_goto (tgt := 24) hx hb d_Fr_direction_20 (by decide) ?_
        exact hw_iret hx hb hr hlocks hI d_Fr_direction_24 ⟨by rw [if_neg hz, if_pos (by rcases hq : sg k with _ | _; exact absurd (sB_z.mpr hq) c9; rfl)], rfl, rfl⟩
    · exact absurd rfl c8

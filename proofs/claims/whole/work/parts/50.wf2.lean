theorem pow_fit {A p n : Nat} (h : p ≤ n) (hn : A ^ n < nB ^ 20) : A ^ p < nB ^ 20 := by
  rcases Nat.eq_zero_or_pos A with e | e
  · subst e
    rcases Nat.eq_zero_or_pos p with q | q
    · subst q; exact Nat.lt_of_le_of_lt (Nat.le_of_eq (Nat.pow_zero _)) (by decide)
    · rw [Nat.zero_pow q]; exact Nat.pow_pos nB_pos
  · exact Nat.lt_of_le_of_lt (Nat.pow_le_pow_right e h) hn
theorem bit_half (n t : Nat) : n / 2 ^ t = 2 * (n / 2 ^ (t + 1)) + n / 2 ^ t % 2 := by
  have h2 : n / 2 ^ (t + 1) = n / 2 ^ t / 2 := by rw [Nat.div_div_eq_div_mul, ← Nat.pow_succ]
  rw [h2]
  generalize n / 2 ^ t = z
  omega
theorem s_l9 : ∀ n, n < 8 → ((nI n &&& 31).toBitVec.smod 32).toNat = n := by decide
theorem shr_bit {n t : Nat} (hn : n < 2 ^ 31) (ht : t < 8) : nI n >>> (nI t &&& 31) = nI (n / 2 ^ t) := pk_shrN hn _ t (s_l9 t ht)
def powS (n : Nat) (b : Bool) : Bool := b && decide (n % 2 = 1)
set_option maxHeartbeats 4000000 in
set_option maxRecDepth 100000 in
theorem c_Rk_multiplyOut_ok (l : Launch) (D : va_G) (t0 : Nat) (L : List Nat) (f : Nat → va_E) (sz : Nat) (o r fr : Nat → Nat) (ad al ab am ak ah aw ar rg wf : Nat) (x : Nat → Nat) (sg : Nat → Bool) (wt rs : Nat → Nat) (i : Nat) (hg : Gl o r fr ad al ab am ak ah aw ar rg wf) (hW : Wd D L f o r fr ad al ab am ak ah aw ar rg wf x sg wt rs) (hi : i < 17) (h1 : x 32 < nB ^ 20) (h2 : x 33 < nB ^ 20) (h3 : x (2 * i) < nB ^ 20) (h4 : x (2 * i + 1) < nB ^ 20) (hf : (x 32 * x (2 * i) < nB ^ 20 ∧ x 33 * x (2 * i + 1) < nB ^ 20)) : Met l y_Rk_multiplyOut (Cond.code y_Rk_multiplyOut b_Rk_multiplyOut 2 none :: TT) ({ frames := 8, cells := 0, slots := 0, locals := 161 } : Room) (hw_Pc t0 [.ref (ak), .ref (fr i)] D L f sz) (hw_Q D L sz (fun oc L' f' => oc = .returned none ∧ L = L' ∧ ∃ x' sg', Wd D L f' o r fr ad al ab am ak ah aw ar rg wf x' sg' wt rs ∧ x' 32 = x 32 * x (2 * i) ∧ x' 33 = x 33 * x (2 * i + 1) ∧ sg' 16 = sg 16 ∧ (∀ z, z < 32 → x' z = x z) ∧ (∀ k, k < 16 → sg' k = sg k) ∧ Fm o r fr ad al ab am ak ah aw ar rg wf f f')) 0 0 (hw_A L sz) := by
  refine Met.ofW (cc := b_Rk_multiplyOut) (maxL := 2) (ret := none) (by decide) rfl ?_
  intro p e s m args below meth c s₁ B hml hv
  obtain ⟨rfl, rfl, hI⟩ := hw_start hv
  clear hv
  have hx := B.exec
  have hb := B.bytes
  have hr := B.returns
  have hlocks := B.notSynchronized
  have hown : s.vm.findClass "WallFractions$Reckoner" = some m.cls := findClass_of_methodNamed B.named
  have hT : ∀ w ∈ TT, w.before ([.ref (ak), .ref (fr i)]).toArray s = true := fun w h => atoms_spec (ws := (Cond.code y_Rk_multiplyOut b_Rk_multiplyOut 2 none :: TT)) B.pre w (List.mem_cons_of_mem _ h)
  have S : CallFix p m c b_Rk_multiplyOut 2 s ([.ref (ak), .ref (fr i)]).toArray TT "WallFractions$Reckoner" := ⟨hx, hb, hml, hown, hT⟩
  have hl := lv_entry ([.ref (ak), .ref (fr i)]) (n := 2) (Nat.le_of_ble_eq_true rfl)
  rw [lg_entry_eq]
  generalize (lg_sl ([.ref (ak), .ref (fr i)]) ++ List.replicate (2 - (lg_sl ([.ref (ak), .ref (fr i)])).length) Slot.unset).toArray = ls at hl ⊢
  have hl : lv_has ls 2 [(0, .ref (ak)), (1, .ref (fr i))] := hl
  skip
  have hY := hg.1
  have hF : Fm o r fr ad al ab am ak ah aw ar rg wf f f := Fm.refl
  have hs : ∀ z, z < 32 → x z = x z := fun _ _ => rfl
  have ht : ∀ k, k < 16 → sg k = sg k := fun _ _ => rfl
  obtain ⟨n1, hn1⟩ : ∃ n1, n1 = x 32 * x (2 * i) := ⟨_, rfl⟩
  obtain ⟨d1, hd1⟩ : ∃ d1, d1 = x 33 * x (2 * i + 1) := ⟨_, rfl⟩
  have hu : ∀ z, z ≠ 32 → z ≠ 33 → z ≠ 34 → z ≠ 35 → x z = x z := fun _ _ _ _ _ => rfl
  refine lv_aload_n hx hb d_Rk_multiplyOut_0 rfl (lv_at hl 0 rfl) ?_
  refine ob_get S hI hW.Rk (C := R_Rk) (T := F_Rk) (N := 7) (ref := "WallFractions$Reckoner") rfl i_Rk 3 (by decide) rfl w_136 rfl d_Rk_multiplyOut_1 ?_
  refine lv_aload_n hx hb d_Rk_multiplyOut_4 rfl (lv_at hl 0 rfl) ?_
  refine ob_get S hI hW.Rk (C := R_Rk) (T := F_Rk) (N := 7) (ref := "WallFractions$Reckoner") rfl i_Rk 2 (by decide) rfl w_134 rfl d_Rk_multiplyOut_5 ?_
  refine ob_getN S hI hW.Out (C := R_Fr) (T := F_Fr) (N := 3) (ref := "WallFractions$Fraction") rfl i_Fr 0 (by decide) rfl (by decide +kernel) rfl d_Rk_multiplyOut_8 ?_
  refine lv_aload_n hx hb d_Rk_multiplyOut_11 rfl (lv_at hl 1 rfl) ?_
  refine ob_getN S hI (hW.Fr hi) (C := R_Fr) (T := F_Fr) (N := 3) (ref := "WallFractions$Fraction") rfl i_Fr 0 (by decide) rfl (by decide +kernel) rfl d_Rk_multiplyOut_12 ?_
  refine hw_cV (As := [.ref (o 32), .ref (o (2 * i))]) (rest := []) S hI m_Wh_becomeProduct w_407 (c_Wh_becomeProduct l D t0 L _ _ o r 46 x 34 32 (2 * i) 20 20 (by omega) hY hW.N (by omega) (by omega) (by omega) (by omega) h1 h3 (by decide)) (hW.rc (i := 34) (by omega)).choose_spec rfl hl.1 rfl rfl (Nat.le_of_ble_eq_true rfl) d_Rk_multiplyOut_15 ⟨Nat.le_of_ble_eq_true rfl, Nat.le_of_ble_eq_true rfl⟩ ⟨Nat.le_of_ble_eq_true rfl, Nat.le_of_ble_eq_true rfl⟩ (fun v9 L9 f1 H locs hp hI => ?_)
  refine W.cs (cells' := 0) (slots' := 0) rfl rfl ?_
  obtain ⟨hv9, rfl, hN9, hf9⟩ := hp
  cases hv9
  refine hw_stk (st' := []) rfl ?_
  have hF := hF.wh (fun q h9 _ _ _ => hf9 q (h9 34 (by omega)).1 (h9 34 (by omega)).2)
  obtain ⟨x1, hW, e9, s9⟩ := (hW.wh hN9 (fun q h9 => hf9 q (h9 34 (by omega)).1 (h9 34 (by omega)).2)).cut
  have n9 : x1 34 = n1 := by rw [e9, ← hn1]
  have e34 : x1 34 = n1 := n9
  have hs := fun z (hz : z < 32) => (s9 z (by omega)).trans (hs z hz)
  have q1 := s9 33 (by omega)
  have q2 := s9 (2 * i + 1) (by omega)
  refine lv_aload_n hx hb d_Rk_multiplyOut_18 rfl (lv_at hl 0 rfl) ?_
  refine ob_get S hI hW.Rk (C := R_Rk) (T := F_Rk) (N := 7) (ref := "WallFractions$Reckoner") rfl i_Rk 4 (by decide) rfl w_137 rfl d_Rk_multiplyOut_19 ?_
  refine lv_aload_n hx hb d_Rk_multiplyOut_22 rfl (lv_at hl 0 rfl) ?_
  refine ob_get S hI hW.Rk (C := R_Rk) (T := F_Rk) (N := 7) (ref := "WallFractions$Reckoner") rfl i_Rk 2 (by decide) rfl w_134 rfl d_Rk_multiplyOut_23 ?_
  refine ob_getN S hI hW.Out (C := R_Fr) (T := F_Fr) (N := 3) (ref := "WallFractions$Fraction") rfl i_Fr 1 (by decide) rfl (by decide +kernel) rfl d_Rk_multiplyOut_26 ?_
  refine lv_aload_n hx hb d_Rk_multiplyOut_29 rfl (lv_at hl 1 rfl) ?_
  refine ob_getN S hI (hW.Fr hi) (C := R_Fr) (T := F_Fr) (N := 3) (ref := "WallFractions$Fraction") rfl i_Fr 1 (by decide) rfl (by decide +kernel) rfl d_Rk_multiplyOut_30 ?_
  refine hw_cV (As := [.ref (o 33), .ref (o (2 * i + 1))]) (rest := []) S hI m_Wh_becomeProduct w_407 (c_Wh_becomeProduct l D t0 L _ _ o r 46 x1 35 33 (2 * i + 1) 20 20 (by omega) hY hW.N (by omega) (by omega) (by omega) (by omega) (by rw [q1]; exact h2) (by rw [q2]; exact h4) (by decide)) (hW.rc (i := 35) (by omega)).choose_spec rfl hl.1 rfl rfl (Nat.le_of_ble_eq_true rfl) d_Rk_multiplyOut_33 ⟨Nat.le_of_ble_eq_true rfl, Nat.le_of_ble_eq_true rfl⟩ ⟨Nat.le_of_ble_eq_true rfl, Nat.le_of_ble_eq_true rfl⟩ (fun v9 L9 f2 H locs hp hI => ?_)
  refine W.cs (cells' := 0) (slots' := 0) rfl rfl ?_
  obtain ⟨hv9, rfl, hN9, hf9⟩ := hp
  cases hv9
  refine hw_stk (st' := []) rfl ?_
  have hF := hF.wh (fun q h9 _ _ _ => hf9 q (h9 35 (by omega)).1 (h9 35 (by omega)).2)
  obtain ⟨x2, hW, e9, s9⟩ := (hW.wh hN9 (fun q h9 => hf9 q (h9 35 (by omega)).1 (h9 35 (by omega)).2)).cut
  have n9 : x2 35 = d1 := by rw [e9, q1, q2, ← hd1]
  have e34 : x2 34 = n1 := (s9 34 (by omega)).trans e34
  have e35 : x2 35 = d1 := n9
  have hs := fun z (hz : z < 32) => (s9 z (by omega)).trans (hs z hz)
  refine lv_aload_n hx hb d_Rk_multiplyOut_36 rfl (lv_at hl 0 rfl) ?_
  refine ob_get S hI hW.Rk (C := R_Rk) (T := F_Rk) (N := 7) (ref := "WallFractions$Reckoner") rfl i_Rk 2 (by decide) rfl w_134 rfl d_Rk_multiplyOut_37 ?_
  refine ob_getN S hI hW.Out (C := R_Fr) (T := F_Fr) (N := 3) (ref := "WallFractions$Fraction") rfl i_Fr 0 (by decide) rfl (by decide +kernel) rfl d_Rk_multiplyOut_40 ?_
  refine lv_aload_n hx hb d_Rk_multiplyOut_43 rfl (lv_at hl 0 rfl) ?_
  refine ob_get S hI hW.Rk (C := R_Rk) (T := F_Rk) (N := 7) (ref := "WallFractions$Reckoner") rfl i_Rk 3 (by decide) rfl w_136 rfl d_Rk_multiplyOut_44 ?_
  refine hw_cV (As := [.ref (o 34)]) (rest := []) S hI m_Wh_copyFrom w_565 (c_Wh_copyFrom l D t0 L _ _ o r 46 x2 32 34 (by omega) hY hW.N (by omega)) (hW.rc (i := 32) (by omega)).choose_spec rfl hl.1 rfl rfl (Nat.le_of_ble_eq_true rfl) d_Rk_multiplyOut_47 ⟨Nat.le_of_ble_eq_true rfl, Nat.le_of_ble_eq_true rfl⟩ ⟨Nat.le_of_ble_eq_true rfl, Nat.le_of_ble_eq_true rfl⟩ (fun v9 L9 f3 H locs hp hI => ?_)
  refine W.cs (cells' := 0) (slots' := 0) rfl rfl ?_
  obtain ⟨hv9, rfl, hN9, hf9⟩ := hp
  cases hv9
  refine hw_stk (st' := []) rfl ?_
  have hF := hF.wh (fun q h9 _ _ _ => hf9 q (h9 32 (by omega)).1 (h9 32 (by omega)).2)
  obtain ⟨x3, hW, e9, s9⟩ := (hW.wh hN9 (fun q h9 => hf9 q (h9 32 (by omega)).1 (h9 32 (by omega)).2)).cut
  have n9 : x3 32 = n1 := by rw [e9, e34]
  have e34 : x3 34 = n1 := (s9 34 (by omega)).trans e34
  have e35 : x3 35 = d1 := (s9 35 (by omega)).trans e35
  have e32 : x3 32 = n1 := n9
  have hs := fun z (hz : z < 32) => (s9 z (by omega)).trans (hs z hz)
  refine lv_aload_n hx hb d_Rk_multiplyOut_50 rfl (lv_at hl 0 rfl) ?_
  refine ob_get S hI hW.Rk (C := R_Rk) (T := F_Rk) (N := 7) (ref := "WallFractions$Reckoner") rfl i_Rk 2 (by decide) rfl w_134 rfl d_Rk_multiplyOut_51 ?_
  refine ob_getN S hI hW.Out (C := R_Fr) (T := F_Fr) (N := 3) (ref := "WallFractions$Fraction") rfl i_Fr 1 (by decide) rfl (by decide +kernel) rfl d_Rk_multiplyOut_54 ?_
  refine lv_aload_n hx hb d_Rk_multiplyOut_57 rfl (lv_at hl 0 rfl) ?_
  refine ob_get S hI hW.Rk (C := R_Rk) (T := F_Rk) (N := 7) (ref := "WallFractions$Reckoner") rfl i_Rk 4 (by decide) rfl w_137 rfl d_Rk_multiplyOut_58 ?_
  refine hw_cV (As := [.ref (o 35)]) (rest := []) S hI m_Wh_copyFrom w_565 (c_Wh_copyFrom l D t0 L _ _ o r 46 x3 33 35 (by omega) hY hW.N (by omega)) (hW.rc (i := 33) (by omega)).choose_spec rfl hl.1 rfl rfl (Nat.le_of_ble_eq_true rfl) d_Rk_multiplyOut_61 ⟨Nat.le_of_ble_eq_true rfl, Nat.le_of_ble_eq_true rfl⟩ ⟨Nat.le_of_ble_eq_true rfl, Nat.le_of_ble_eq_true rfl⟩ (fun v9 L9 f4 H locs hp hI => ?_)
  refine W.cs (cells' := 0) (slots' := 0) rfl rfl ?_
  obtain ⟨hv9, rfl, hN9, hf9⟩ := hp
  cases hv9
  refine hw_stk (st' := []) rfl ?_
  have hF := hF.wh (fun q h9 _ _ _ => hf9 q (h9 33 (by omega)).1 (h9 33 (by omega)).2)
  obtain ⟨x4, hW, e9, s9⟩ := (hW.wh hN9 (fun q h9 => hf9 q (h9 33 (by omega)).1 (h9 33 (by omega)).2)).cut
  have n9 : x4 33 = d1 := by rw [e9, e35]
  have e34 : x4 34 = n1 := (s9 34 (by omega)).trans e34
  have e35 : x4 35 = d1 := (s9 35 (by omega)).trans e35
  have e32 : x4 32 = n1 := (s9 32 (by omega)).trans e32
  have e33 : x4 33 = d1 := n9
  have hs := fun z (hz : z < 32) => (s9 z (by omega)).trans (hs z hz)
  refine lv_aload_n hx hb d_Rk_multiplyOut_64 rfl (lv_at hl 0 rfl) ?_
  refine hw_cV (As := []) (rest := []) S hI m_Rk_requireFit w_566 (c_Rk_requireFit_ok l D t0 L _ _ o r fr ad al ab am ak ah aw ar rg wf x4 sg wt rs hg hW (show FitX _ from ⟨by rw [e32, hn1]; exact hf.1, by rw [e33, hd1]; exact hf.2⟩)) hW.Rk rfl hl.1 rfl rfl (Nat.le_of_ble_eq_true rfl) d_Rk_multiplyOut_65 ⟨Nat.le_of_ble_eq_true rfl, Nat.le_of_ble_eq_true rfl⟩ ⟨Nat.le_of_ble_eq_true rfl, Nat.le_of_ble_eq_true rfl⟩ (fun v9 L9 f5 H locs hp hI => ?_)
  refine W.cs (cells' := 0) (slots' := 0) rfl rfl ?_
  obtain ⟨hv9, rfl, rfl⟩ := hp
  cases hv9
  refine hw_stk (st' := []) rfl ?_
  exact hw_vret hx hb hr hlocks hI d_Rk_multiplyOut_68 ⟨rfl, rfl, x4, sg, hW, (by rw [e32, hn1]), (by rw [e33, hd1]), rfl, hs, ht, hF⟩
set_option maxHeartbeats 4000000 in
set_option maxRecDepth 100000 in
theorem c_Rk_multiplyOut_bad (l : Launch) (hlt : l.stackTraces = false) (D : va_G) (t0 : Nat) (L : List Nat) (f : Nat → va_E) (sz : Nat) (o r fr : Nat → Nat) (ad al ab am ak ah aw ar rg wf : Nat) (x : Nat → Nat) (sg : Nat → Bool) (wt rs : Nat → Nat) (i : Nat) (hg : Gl o r fr ad al ab am ak ah aw ar rg wf) (hW : Wd D L f o r fr ad al ab am ak ah aw ar rg wf x sg wt rs) (hi : i < 17) (h1 : x 32 < nB ^ 20) (h2 : x 33 < nB ^ 20) (h3 : x (2 * i) < nB ^ 20) (h4 : x (2 * i + 1) < nB ^ 20) (hf : ¬ (x 32 * x (2 * i) < nB ^ 20 ∧ x 33 * x (2 * i + 1) < nB ^ 20)) : vx_Met l y_Rk_multiplyOut (Cond.code y_Rk_multiplyOut b_Rk_multiplyOut 2 none :: TT) ({ frames := 8, cells := 1, slots := 6, locals := 161 } : Room) (hw_Pc t0 [.ref (ak), .ref (fr i)] D L f sz) (hw_Q D L sz (fun _ _ _ => False)) (hw_X D L sz (fun E L' f' => E = "java/lang/IllegalStateException" ∧ L = L' ∧ ∃ x' sg', Wd D L f' o r fr ad al ab am ak ah aw ar rg wf x' sg' wt rs ∧ (∀ z, z < 32 → x' z = x z) ∧ (∀ k, k < 16 → sg' k = sg k) ∧ Fm o r fr ad al ab am ak ah aw ar rg wf f f')) 1 6 (hw_A L sz) := by
  refine vx_ofW (cc := b_Rk_multiplyOut) (maxL := 2) (ret := none) (by decide) rfl ?_
  intro p e s m args below meth c s₁ B hml hout hv
  obtain ⟨rfl, rfl, hI⟩ := hw_start hv
  clear hv
  have hx := B.exec
  have hb := B.bytes
  have hr := B.returns
  have hlocks := B.notSynchronized
  have hown : s.vm.findClass "WallFractions$Reckoner" = some m.cls := findClass_of_methodNamed B.named
  have hT : ∀ w ∈ TT, w.before ([.ref (ak), .ref (fr i)]).toArray s = true := fun w h => atoms_spec (ws := (Cond.code y_Rk_multiplyOut b_Rk_multiplyOut 2 none :: TT)) B.pre w (List.mem_cons_of_mem _ h)
  have S : CallFix p m c b_Rk_multiplyOut 2 s ([.ref (ak), .ref (fr i)]).toArray TT "WallFractions$Reckoner" := ⟨hx, hb, hml, hown, hT⟩
  have hl := lv_entry ([.ref (ak), .ref (fr i)]) (n := 2) (Nat.le_of_ble_eq_true rfl)
  rw [lg_entry_eq]
  generalize (lg_sl ([.ref (ak), .ref (fr i)]) ++ List.replicate (2 - (lg_sl ([.ref (ak), .ref (fr i)])).length) Slot.unset).toArray = ls at hl ⊢
  have hl : lv_has ls 2 [(0, .ref (ak)), (1, .ref (fr i))] := hl
  have hY := hg.1
  have hF : Fm o r fr ad al ab am ak ah aw ar rg wf f f := Fm.refl
  have hs : ∀ z, z < 32 → x z = x z := fun _ _ => rfl
  have ht : ∀ k, k < 16 → sg k = sg k := fun _ _ => rfl
  obtain ⟨n1, hn1⟩ : ∃ n1, n1 = x 32 * x (2 * i) := ⟨_, rfl⟩
  obtain ⟨d1, hd1⟩ : ∃ d1, d1 = x 33 * x (2 * i + 1) := ⟨_, rfl⟩
  have hu : ∀ z, z ≠ 32 → z ≠ 33 → z ≠ 34 → z ≠ 35 → x z = x z := fun _ _ _ _ _ => rfl
  refine lv_aload_n hx hb d_Rk_multiplyOut_0 rfl (lv_at hl 0 rfl) ?_
  refine ob_get S hI hW.Rk (C := R_Rk) (T := F_Rk) (N := 7) (ref := "WallFractions$Reckoner") rfl i_Rk 3 (by decide) rfl w_136 rfl d_Rk_multiplyOut_1 ?_
  refine lv_aload_n hx hb d_Rk_multiplyOut_4 rfl (lv_at hl 0 rfl) ?_
  refine ob_get S hI hW.Rk (C := R_Rk) (T := F_Rk) (N := 7) (ref := "WallFractions$Reckoner") rfl i_Rk 2 (by decide) rfl w_134 rfl d_Rk_multiplyOut_5 ?_
  refine ob_getN S hI hW.Out (C := R_Fr) (T := F_Fr) (N := 3) (ref := "WallFractions$Fraction") rfl i_Fr 0 (by decide) rfl (by decide +kernel) rfl d_Rk_multiplyOut_8 ?_
  refine lv_aload_n hx hb d_Rk_multiplyOut_11 rfl (lv_at hl 1 rfl) ?_
  refine ob_getN S hI (hW.Fr hi) (C := R_Fr) (T := F_Fr) (N := 3) (ref := "WallFractions$Fraction") rfl i_Fr 0 (by decide) rfl (by decide +kernel) rfl d_Rk_multiplyOut_12 ?_
  refine hw_cV (As := [.ref (o 32), .ref (o (2 * i))]) (rest := []) S hI m_Wh_becomeProduct w_407 (c_Wh_becomeProduct l D t0 L _ _ o r 46 x 34 32 (2 * i) 20 20 (by omega) hY hW.N (by omega) (by omega) (by omega) (by omega) h1 h3 (by decide)) (hW.rc (i := 34) (by omega)).choose_spec rfl hl.1 rfl rfl (Nat.le_of_ble_eq_true rfl) d_Rk_multiplyOut_15 ⟨Nat.le_of_ble_eq_true rfl, Nat.le_of_ble_eq_true rfl⟩ ⟨Nat.le_of_ble_eq_true rfl, Nat.le_of_ble_eq_true rfl⟩ (fun v9 L9 f6 H locs hp hI => ?_)
  refine W.cs (cells' := 0) (slots' := 0) rfl rfl ?_
  obtain ⟨hv9, rfl, hN9, hf9⟩ := hp
  cases hv9
  refine hw_stk (st' := []) rfl ?_
  have hF := hF.wh (fun q h9 _ _ _ => hf9 q (h9 34 (by omega)).1 (h9 34 (by omega)).2)
  obtain ⟨x6, hW, e9, s9⟩ := (hW.wh hN9 (fun q h9 => hf9 q (h9 34 (by omega)).1 (h9 34 (by omega)).2)).cut
  have n9 : x6 34 = n1 := by rw [e9, ← hn1]
  have e34 : x6 34 = n1 := n9
  have hs := fun z (hz : z < 32) => (s9 z (by omega)).trans (hs z hz)
  have q1 := s9 33 (by omega)
  have q2 := s9 (2 * i + 1) (by omega)
  refine lv_aload_n hx hb d_Rk_multiplyOut_18 rfl (lv_at hl 0 rfl) ?_
  refine ob_get S hI hW.Rk (C := R_Rk) (T := F_Rk) (N := 7) (ref := "WallFractions$Reckoner") rfl i_Rk 4 (by decide) rfl w_137 rfl d_Rk_multiplyOut_19 ?_
  refine lv_aload_n hx hb d_Rk_multiplyOut_22 rfl (lv_at hl 0 rfl) ?_
  refine ob_get S hI hW.Rk (C := R_Rk) (T := F_Rk) (N := 7) (ref := "WallFractions$Reckoner") rfl i_Rk 2 (by decide) rfl w_134 rfl d_Rk_multiplyOut_23 ?_
  refine ob_getN S hI hW.Out (C := R_Fr) (T := F_Fr) (N := 3) (ref := "WallFractions$Fraction") rfl i_Fr 1 (by decide) rfl (by decide +kernel) rfl d_Rk_multiplyOut_26 ?_
  refine lv_aload_n hx hb d_Rk_multiplyOut_29 rfl (lv_at hl 1 rfl) ?_
  refine ob_getN S hI (hW.Fr hi) (C := R_Fr) (T := F_Fr) (N := 3) (ref := "WallFractions$Fraction") rfl i_Fr 1 (by decide) rfl (by decide +kernel) rfl d_Rk_multiplyOut_30 ?_
  refine hw_cV (As := [.ref (o 33), .ref (o (2 * i + 1))]) (rest := []) S hI m_Wh_becomeProduct w_407 (c_Wh_becomeProduct l D t0 L _ _ o r 46 x6 35 33 (2 * i + 1) 20 20 (by omega) hY hW.N (by omega) (by omega) (by omega) (by omega) (by rw [q1]; exact h2) (by rw [q2]; exact h4) (by decide)) (hW.rc (i := 35) (by omega)).choose_spec rfl hl.1 rfl rfl (Nat.le_of_ble_eq_true rfl) d_Rk_multiplyOut_33 ⟨Nat.le_of_ble_eq_true rfl, Nat.le_of_ble_eq_true rfl⟩ ⟨Nat.le_of_ble_eq_true rfl, Nat.le_of_ble_eq_true rfl⟩ (fun v9 L9 f7 H locs hp hI => ?_)
  refine W.cs (cells' := 0) (slots' := 0) rfl rfl ?_
  obtain ⟨hv9, rfl, hN9, hf9⟩ := hp
  cases hv9
  refine hw_stk (st' := []) rfl ?_
  have hF := hF.wh (fun q h9 _ _ _ => hf9 q (h9 35 (by omega)).1 (h9 35 (by omega)).2)
  obtain ⟨x7, hW, e9, s9⟩ := (hW.wh hN9 (fun q h9 => hf9 q (h9 35 (by omega)).1 (h9 35 (by omega)).2)).cut
  have n9 : x7 35 = d1 := by rw [e9, q1, q2, ← hd1]
  have e34 : x7 34 = n1 := (s9 34 (by omega)).trans e34
  have e35 : x7 35 = d1 := n9
  have hs := fun z (hz : z < 32) => (s9 z (by omega)).trans (hs z hz)
  refine lv_aload_n hx hb d_Rk_multiplyOut_36 rfl (lv_at hl 0 rfl) ?_
  refine ob_get S hI hW.Rk (C := R_Rk) (T := F_Rk) (N := 7) (ref := "WallFractions$Reckoner") rfl i_Rk 2 (by decide) rfl w_134 rfl d_Rk_multiplyOut_37 ?_
  refine ob_getN S hI hW.Out (C := R_Fr) (T := F_Fr) (N := 3) (ref := "WallFractions$Fraction") rfl i_Fr 0 (by decide) rfl (by decide +kernel) rfl d_Rk_multiplyOut_40 ?_
  refine lv_aload_n hx hb d_Rk_multiplyOut_43 rfl (lv_at hl 0 rfl) ?_
  refine ob_get S hI hW.Rk (C := R_Rk) (T := F_Rk) (N := 7) (ref := "WallFractions$Reckoner") rfl i_Rk 3 (by decide) rfl w_136 rfl d_Rk_multiplyOut_44 ?_
  refine hw_cV (As := [.ref (o 34)]) (rest := []) S hI m_Wh_copyFrom w_565 (c_Wh_copyFrom l D t0 L _ _ o r 46 x7 32 34 (by omega) hY hW.N (by omega)) (hW.rc (i := 32) (by omega)).choose_spec rfl hl.1 rfl rfl (Nat.le_of_ble_eq_true rfl) d_Rk_multiplyOut_47 ⟨Nat.le_of_ble_eq_true rfl, Nat.le_of_ble_eq_true rfl⟩ ⟨Nat.le_of_ble_eq_true rfl, Nat.le_of_ble_eq_true rfl⟩ (fun v9 L9 f8 H locs hp hI => ?_)
  refine W.cs (cells' := 0) (slots' := 0) rfl rfl ?_
  obtain ⟨hv9, rfl, hN9, hf9⟩ := hp
  cases hv9
  refine hw_stk (st' := []) rfl ?_
  have hF := hF.wh (fun q h9 _ _ _ => hf9 q (h9 32 (by omega)).1 (h9 32 (by omega)).2)
  obtain ⟨x8, hW, e9, s9⟩ := (hW.wh hN9 (fun q h9 => hf9 q (h9 32 (by omega)).1 (h9 32 (by omega)).2)).cut
  have n9 : x8 32 = n1 := by rw [e9, e34]
  have e34 : x8 34 = n1 := (s9 34 (by omega)).trans e34
  have e35 : x8 35 = d1 := (s9 35 (by omega)).trans e35
  have e32 : x8 32 = n1 := n9
  have hs := fun z (hz : z < 32) => (s9 z (by omega)).trans (hs z hz)
  refine lv_aload_n hx hb d_Rk_multiplyOut_50 rfl (lv_at hl 0 rfl) ?_
  refine ob_get S hI hW.Rk (C := R_Rk) (T := F_Rk) (N := 7) (ref := "WallFractions$Reckoner") rfl i_Rk 2 (by decide) rfl w_134 rfl d_Rk_multiplyOut_51 ?_
  refine ob_getN S hI hW.Out (C := R_Fr) (T := F_Fr) (N := 3) (ref := "WallFractions$Fraction") rfl i_Fr 1 (by decide) rfl (by decide +kernel) rfl d_Rk_multiplyOut_54 ?_
  refine lv_aload_n hx hb d_Rk_multiplyOut_57 rfl (lv_at hl 0 rfl) ?_
  refine ob_get S hI hW.Rk (C := R_Rk) (T := F_Rk) (N := 7) (ref := "WallFractions$Reckoner") rfl i_Rk 4 (by decide) rfl w_137 rfl d_Rk_multiplyOut_58 ?_
  refine hw_cV (As := [.ref (o 35)]) (rest := []) S hI m_Wh_copyFrom w_565 (c_Wh_copyFrom l D t0 L _ _ o r 46 x8 33 35 (by omega) hY hW.N (by omega)) (hW.rc (i := 33) (by omega)).choose_spec rfl hl.1 rfl rfl (Nat.le_of_ble_eq_true rfl) d_Rk_multiplyOut_61 ⟨Nat.le_of_ble_eq_true rfl, Nat.le_of_ble_eq_true rfl⟩ ⟨Nat.le_of_ble_eq_true rfl, Nat.le_of_ble_eq_true rfl⟩ (fun v9 L9 f9 H locs hp hI => ?_)
  refine W.cs (cells' := 0) (slots' := 0) rfl rfl ?_
  obtain ⟨hv9, rfl, hN9, hf9⟩ := hp
  cases hv9
  refine hw_stk (st' := []) rfl ?_
  have hF := hF.wh (fun q h9 _ _ _ => hf9 q (h9 33 (by omega)).1 (h9 33 (by omega)).2)
  obtain ⟨x9, hW, e9, s9⟩ := (hW.wh hN9 (fun q h9 => hf9 q (h9 33 (by omega)).1 (h9 33 (by omega)).2)).cut
  have n9 : x9 33 = d1 := by rw [e9, e35]
  have e34 : x9 34 = n1 := (s9 34 (by omega)).trans e34
  have e35 : x9 35 = d1 := (s9 35 (by omega)).trans e35
  have e32 : x9 32 = n1 := (s9 32 (by omega)).trans e32
  have e33 : x9 33 = d1 := n9
  have hs := fun z (hz : z < 32) => (s9 z (by omega)).trans (hs z hz)
  refine lv_aload_n hx hb d_Rk_multiplyOut_64 rfl (lv_at hl 0 rfl) ?_
  refine hw_xV (As := []) (rest := []) S hI m_Rk_requireFit w_566 (c_Rk_requireFit_bad l hlt D t0 L _ _ o r fr ad al ab am ak ah aw ar rg wf x9 sg wt rs hg hW (fun h9 => hf ⟨by have := h9.1; rw [e32, hn1] at this; exact this, by have := h9.2; rw [e33, hd1] at this; exact this⟩)) hW.Rk rfl hl.1 rfl rfl (Nat.le_of_ble_eq_true rfl) d_Rk_multiplyOut_65 ⟨Nat.le_of_ble_eq_true rfl, Nat.le_of_ble_eq_true rfl⟩ ⟨Nat.le_of_ble_eq_true rfl, Nat.le_of_ble_eq_true rfl⟩ (fun v9 L9 f10 H locs hp hI => hp.elim) (fun E9 ce9 q9 L9 f10 H locs hp hI hc9 hv9 hl9 => ?_)
  obtain ⟨rfl, rfl, rfl⟩ := hp
  exact hw_on hI hout hlocks hc9 hv9 hl9 (⟨rfl, rfl, x9, sg, hW, hs, ht, hF⟩) ⟨Nat.le_of_ble_eq_true rfl, Nat.le_of_ble_eq_true rfl⟩
set_option maxHeartbeats 4000000 in
set_option maxRecDepth 100000 in
theorem c_Rk_raise (l : Launch) (hlt : l.stackTraces = false) (D : va_G) (t0 : Nat) (L : List Nat) (f : Nat → va_E) (sz : Nat) (o r fr : Nat → Nat) (ad al ab am ak ah aw ar rg wf : Nat) (x : Nat → Nat) (sg : Nat → Bool) (wt rs : Nat → Nat) (a n : Nat) (hg : Gl o r fr ad al ab am ak ah aw ar rg wf) (hW : Wd D L f o r fr ad al ab am ak ah aw ar rg wf x sg wt rs) (ha : a < 16) (hn : n ≤ 200) (h20 : ∀ z, z < 32 → x z < nB ^ 20) : vx_Met l y_Rk_raise (Cond.code y_Rk_raise b_Rk_raise 4 none :: TT) ({ frames := 9, cells := 1, slots := 6, locals := 182 } : Room) (hw_Pc t0 [.ref (ak), .ref (fr a), .int (nI n)] D L f sz) (hw_Q D L sz (fun oc L' f' => oc = .returned none ∧ (x (2 * a) ^ n < nB ^ 20 ∧ x (2 * a + 1) ^ n < nB ^ 20) ∧ L = L' ∧ ∃ x' sg', Wd D L f' o r fr ad al ab am ak ah aw ar rg wf x' sg' wt rs ∧ x' 32 = x (2 * a) ^ n ∧ x' 33 = x (2 * a + 1) ^ n ∧ sg' 16 = powS n (sg a) ∧ (∀ z, z < 32 → x' z = x z) ∧ (∀ k, k < 16 → sg' k = sg k) ∧ Fm o r fr ad al ab am ak ah aw ar rg wf f f')) (hw_X D L sz (fun E L' f' => E = "java/lang/IllegalStateException" ∧ L = L' ∧ ¬ (x (2 * a) ^ n < nB ^ 20 ∧ x (2 * a + 1) ^ n < nB ^ 20) ∧ ∃ x' sg', Wd D L f' o r fr ad al ab am ak ah aw ar rg wf x' sg' wt rs ∧ (∀ z, z < 32 → x' z = x z) ∧ (∀ k, k < 16 → sg' k = sg k) ∧ Fm o r fr ad al ab am ak ah aw ar rg wf f f')) 1 6 (hw_A L sz) := by
  refine vx_ofW (cc := b_Rk_raise) (maxL := 4) (ret := none) (by decide) rfl ?_
  intro p e s m args below meth c s₁ B hml hout hv
  obtain ⟨rfl, rfl, hI⟩ := hw_start hv
  clear hv
  have hx := B.exec
  have hb := B.bytes
  have hr := B.returns
  have hlocks := B.notSynchronized
  have hown : s.vm.findClass "WallFractions$Reckoner" = some m.cls := findClass_of_methodNamed B.named
  have hT : ∀ w ∈ TT, w.before ([.ref (ak), .ref (fr a), .int (nI n)]).toArray s = true := fun w h => atoms_spec (ws := (Cond.code y_Rk_raise b_Rk_raise 4 none :: TT)) B.pre w (List.mem_cons_of_mem _ h)
  have S : CallFix p m c b_Rk_raise 4 s ([.ref (ak), .ref (fr a), .int (nI n)]).toArray TT "WallFractions$Reckoner" := ⟨hx, hb, hml, hown, hT⟩
  have hl := lv_entry ([.ref (ak), .ref (fr a), .int (nI n)]) (n := 4) (Nat.le_of_ble_eq_true rfl)
  rw [lg_entry_eq]
  generalize (lg_sl ([.ref (ak), .ref (fr a), .int (nI n)]) ++ List.replicate (4 - (lg_sl ([.ref (ak), .ref (fr a), .int (nI n)])).length) Slot.unset).toArray = ls at hl ⊢
  have hl : lv_has ls 4 [(0, .ref (ak)), (1, .ref (fr a)), (2, .int (nI n))] := hl
  have hY := hg.1
  have hF : Fm o r fr ad al ab am ak ah aw ar rg wf f f := Fm.refl
  have hs : ∀ z, z < 32 → x z = x z := fun _ _ => rfl
  have ht : ∀ k, k < 16 → sg k = sg k := fun _ _ => rfl
  obtain ⟨A0, hA0⟩ : ∃ A0, A0 = x (2 * a) := ⟨_, rfl⟩
  obtain ⟨B0, hB0⟩ : ∃ B0, B0 = x (2 * a + 1) := ⟨_, rfl⟩
  have hA20 : A0 < nB ^ 20 := by rw [hA0]; exact h20 _ (by omega)
  have hB20 : B0 < nB ^ 20 := by rw [hB0]; exact h20 _ (by omega)
  have loop : ∀ (t : Nat) (xx : Nat → Nat) (ss : Nat → Bool) (f1 : Nat → va_E) (H : Heap) (locs : List Loc) (ls : Array Slot), t ≤ 8 → xx 32 = A0 ^ (n / 2 ^ t) → xx 33 = B0 ^ (n / 2 ^ t) → xx 32 < nB ^ 20 → xx 33 < nB ^ 20 → ss 16 = powS n (sg a) → Wd D L f1 o r fr ad al ab am ak ah aw ar rg wf xx ss wt rs → (∀ z, z < 32 → xx z = x z) → (∀ k, k < 16 → ss k = sg k) → Fm o r fr ad al ab am ak ah aw ar rg wf f f1 → hw_I D t0 (hw_A L s.heap.size) s L f1 H locs → lv_has ls 4 [(3, .int (mI t)), (2, .int (nI n)), (1, .ref (fr a)), (0, .ref (ak))] → W p l e (headSpec (Cond.code y_Rk_raise b_Rk_raise 4 none :: TT) ({ frames := 9, cells := 1, slots := 6, locals := 182 } : Room)).room s m ([.ref (ak), .ref (fr a), .int (nI n)]).toArray below meth c H locs 0 0 (vx_MQ below (hw_Q D L s.heap.size (fun oc L' f' => oc = .returned none ∧ (x (2 * a) ^ n < nB ^ 20 ∧ x (2 * a + 1) ^ n < nB ^ 20) ∧ L = L' ∧ ∃ x' sg', Wd D L f' o r fr ad al ab am ak ah aw ar rg wf x' sg' wt rs ∧ x' 32 = x (2 * a) ^ n ∧ x' 33 = x (2 * a + 1) ^ n ∧ sg' 16 = powS n (sg a) ∧ (∀ z, z < 32 → x' z = x z) ∧ (∀ k, k < 16 → sg' k = sg k) ∧ Fm o r fr ad al ab am ak ah aw ar rg wf f f')) (hw_X D L s.heap.size (fun E L' f' => E = "java/lang/IllegalStateException" ∧ L = L' ∧ ¬ (x (2 * a) ^ n < nB ^ 20 ∧ x (2 * a + 1) ^ n < nB ^ 20) ∧ ∃ x' sg', Wd D L f' o r fr ad al ab am ak ah aw ar rg wf x' sg' wt rs ∧ (∀ z, z < 32 → x' z = x z) ∧ (∀ k, k < 16 → sg' k = sg k) ∧ Fm o r fr ad al ab am ak ah aw ar rg wf f f')) ([.ref (ak), .ref (fr a), .int (nI n)]).toArray s 1 6 (hw_A L s.heap.size)) (F0 m 51 ls []) := by
    intro t
    induction t with
    | zero =>
      intro xx ss f1 H locs ls ht8 e32 e33 f32 f33 g16 hW hs ht hF hI hl
      rw [Nat.pow_zero, Nat.div_one] at e32 e33
      refine lv_iload_n hx hb d_Rk_raise_51 rfl (lv_at hl 0 rfl) ?_
      refine hw_m0 (tgt := 83) hx hb d_Rk_raise_52 (by decide) ?_
      exact W.widen (k := 1) (n := 6) (Nat.le_of_ble_eq_true rfl) (Nat.le_of_ble_eq_true rfl) (vx_ret (hw_vret hx hb hr hlocks hI d_Rk_raise_83 ⟨rfl, ⟨by rw [← hA0, ← e32]; exact f32, by rw [← hB0, ← e33]; exact f33⟩, rfl, xx, ss, hW, by rw [e32, hA0], by rw [e33, hB0], g16, hs, ht, hF⟩))
    | succ t ih =>
      intro xx ss f1 H locs ls ht8 e32 e33 f32 f33 g16 hW hs ht hF hI hl
      rw [mI_s] at hl
      refine lv_iload_n hx hb d_Rk_raise_51 rfl (lv_at hl 0 rfl) ?_
      refine hw_if_lt (tgt := 83) hx hb d_Rk_raise_52 (by decide) (by omega) ?_
      refine lv_aload_n hx hb d_Rk_raise_55 rfl (lv_at hl 3 rfl) ?_
      refine lv_aload_n hx hb d_Rk_raise_56 rfl (lv_at hl 3 rfl) ?_
      refine ob_get S hI hW.Rk (C := R_Rk) (T := F_Rk) (N := 7) (ref := "WallFractions$Reckoner") rfl i_Rk 2 (by decide) rfl w_134 rfl d_Rk_raise_57 ?_
      have hbh := bit_half n t
      obtain ⟨m9, hm9⟩ : ∃ m9, m9 = n / 2 ^ (t + 1) := ⟨_, rfl⟩
      rw [← hm9] at e32 e33 hbh
      have hdl : n / 2 ^ t ≤ n := Nat.div_le_self _ _
      by_cases hf1 : (xx 32 * xx (2 * 16) < nB ^ 20 ∧ xx 33 * xx (2 * 16 + 1) < nB ^ 20)
      · have p1 := e32
        have p2 := e33
        have p3 := g16
        refine hw_cV (As := [.ref (fr 16)]) (rest := []) S hI m_Rk_multiplyOut w_561 (c_Rk_multiplyOut_ok l D t0 L _ _ o r fr ad al ab am ak ah aw ar rg wf xx ss wt rs 16 hg hW (by decide) f32 f33 f32 f33 hf1) hW.Rk rfl hl.1 rfl rfl (Nat.le_of_ble_eq_true rfl) d_Rk_raise_60 ⟨Nat.le_of_ble_eq_true rfl, Nat.le_of_ble_eq_true rfl⟩ ⟨Nat.le_of_ble_eq_true rfl, Nat.le_of_ble_eq_true rfl⟩ (fun v9 L9 f12 H locs hp hI => ?_)
        refine W.cs (cells' := 0) (slots' := 0) rfl rfl ?_
        obtain ⟨hv9, rfl, x2, s2, hW, e32, e33, g16, hs9, ht9, hF9⟩ := hp
        cases hv9
        refine hw_stk (st' := []) rfl ?_
        have hF := hF.trans hF9
        have hs := fun z (hz : z < 32) => (hs9 z hz).trans (hs z hz)
        have ht := fun z (hz : z < 16) => (ht9 z hz).trans (ht z hz)
        have e32 : x2 32 = A0 ^ (2 * m9) := by rw [e32, show xx (2 * 16) = xx 32 from rfl, p1, ← Nat.pow_add]; congr 1; omega
        have e33 : x2 33 = B0 ^ (2 * m9) := by rw [e33, show xx (2 * 16 + 1) = xx 33 from rfl, p2, ← Nat.pow_add]; congr 1; omega
        have g16 : s2 16 = powS n (sg a) := g16.trans p3
        have f32 : x2 32 < nB ^ 20 := by rw [e32, show 2 * m9 = m9 + m9 by omega, Nat.pow_add, ← p1]; exact hf1.1
        have f33 : x2 33 < nB ^ 20 := by rw [e33, show 2 * m9 = m9 + m9 by omega, Nat.pow_add, ← p2]; exact hf1.2
        refine lv_iload_n hx hb d_Rk_raise_63 rfl (lv_at hl 1 rfl) ?_
        refine lv_iload_n hx hb d_Rk_raise_64 rfl (lv_at hl 0 rfl) ?_
        refine lv_ishr hx hb d_Rk_raise_65 ?_
        refine hw_ti (shr_bit (by omega) (by omega)) ?_
        have hm2 := Nat.mod_lt (n / 2 ^ t) (show 0 < 2 by decide)
        refine lv_iconst (v := nI 2) hx hb d_Rk_raise_66 (by decide) ?_
        refine lv_irem hx hb d_Rk_raise_67 (by decide) ?_
        refine hw_ti (pk_rem (by omega) (by omega) (by omega)) ?_
        refine lv_iconst (v := nI 1) hx hb d_Rk_raise_68 (by decide) ?_
        refine hw_icmp_ne (tgt := 77) hx hb d_Rk_raise_69 (by decide) (by omega) (by omega) (fun c13 => ?_) (fun c13 => ?_)
        · have hev : n / 2 ^ t = 2 * m9 := by omega
          rw [← hev] at e32 e33
          refine lv_iinc (v := mI t) (lv' := [(3, .int (mI t)), (2, .int (nI n)), (1, .ref (fr a)), (0, .ref (ak))]) hx hb d_Rk_raise_77 hl (k := 0) rfl (mI_d t) (by decide) rfl (fun ls hl => ?_)
          refine lv_goto (tgt := 51) hx hb d_Rk_raise_80 (by decide) ?_
          exact ih _ _ _ _ _ _ (by omega) e32 e33 f32 f33 g16 hW hs ht hF hI hl
        · have hod : n / 2 ^ t = 2 * m9 + 1 := by omega
          refine lv_aload_n hx hb d_Rk_raise_72 rfl (lv_at hl 3 rfl) ?_
          refine lv_aload_n hx hb d_Rk_raise_73 rfl (lv_at hl 2 rfl) ?_
          have q1 : x2 (2 * a) = A0 := (hs (2 * a) (by omega)).trans hA0.symm
          have q2 : x2 (2 * a + 1) = B0 := (hs (2 * a + 1) (by omega)).trans hB0.symm
          have g3 : x2 (2 * a) < nB ^ 20 := by rw [q1]; exact hA20
          have g4 : x2 (2 * a + 1) < nB ^ 20 := by rw [q2]; exact hB20
          by_cases hf2 : (x2 32 * x2 (2 * a) < nB ^ 20 ∧ x2 33 * x2 (2 * a + 1) < nB ^ 20)
          · have p1 := e32
            have p2 := e33
            have p3 := g16
            refine hw_cV (As := [.ref (fr a)]) (rest := []) S hI m_Rk_multiplyOut w_561 (c_Rk_multiplyOut_ok l D t0 L _ _ o r fr ad al ab am ak ah aw ar rg wf x2 s2 wt rs a hg hW (by omega) f32 f33 g3 g4 hf2) hW.Rk rfl hl.1 rfl rfl (Nat.le_of_ble_eq_true rfl) d_Rk_raise_74 ⟨Nat.le_of_ble_eq_true rfl, Nat.le_of_ble_eq_true rfl⟩ ⟨Nat.le_of_ble_eq_true rfl, Nat.le_of_ble_eq_true rfl⟩ (fun v9 L9 f15 H locs hp hI => ?_)
            refine W.cs (cells' := 0) (slots' := 0) rfl rfl ?_
            obtain ⟨hv9, rfl, x3, s3, hW, e32, e33, g16, hs9, ht9, hF9⟩ := hp
            cases hv9
            refine hw_stk (st' := []) rfl ?_
            have hF := hF.trans hF9
            have hs := fun z (hz : z < 32) => (hs9 z hz).trans (hs z hz)
            have ht := fun z (hz : z < 16) => (ht9 z hz).trans (ht z hz)
            have f32 : x3 32 < nB ^ 20 := by rw [e32]; exact hf2.1
            have f33 : x3 33 < nB ^ 20 := by rw [e33]; exact hf2.2
            have e32 : x3 32 = A0 ^ (n / 2 ^ t) := by rw [e32, q1, p1, hod, Nat.pow_succ]
            have e33 : x3 33 = B0 ^ (n / 2 ^ t) := by rw [e33, q2, p2, hod, Nat.pow_succ]
            have g16 : s3 16 = powS n (sg a) := g16.trans p3
            refine lv_iinc (v := mI t) (lv' := [(3, .int (mI t)), (2, .int (nI n)), (1, .ref (fr a)), (0, .ref (ak))]) hx hb d_Rk_raise_77 hl (k := 0) rfl (mI_d t) (by decide) rfl (fun ls hl => ?_)
            refine lv_goto (tgt := 51) hx hb d_Rk_raise_80 (by decide) ?_
            exact ih _ _ _ _ _ _ (by omega) e32 e33 f32 f33 g16 hW hs ht hF hI hl
          · refine hw_xV (As := [.ref (fr a)]) (rest := []) S hI m_Rk_multiplyOut w_561 (c_Rk_multiplyOut_bad l hlt D t0 L _ _ o r fr ad al ab am ak ah aw ar rg wf x2 s2 wt rs a hg hW (by omega) f32 f33 g3 g4 hf2) hW.Rk rfl hl.1 rfl rfl (Nat.le_of_ble_eq_true rfl) d_Rk_raise_74 ⟨Nat.le_of_ble_eq_true rfl, Nat.le_of_ble_eq_true rfl⟩ ⟨Nat.le_of_ble_eq_true rfl, Nat.le_of_ble_eq_true rfl⟩ (fun v9 L9 f14 H locs hp hI => hp.elim) (fun E9 ce9 q9 L9 f14 H locs hp hI hc9 hv9 hl9 => ?_)
            obtain ⟨rfl, rfl, x8, s8, hW8, hs8, ht8, hF8⟩ := hp
            exact hw_on hI hout hlocks hc9 hv9 hl9 (⟨rfl, rfl, (fun h9 => hf2 ⟨by rw [q1, e32, show A0 ^ (2 * m9) * A0 = A0 ^ (n / 2 ^ t) by rw [hod, Nat.pow_succ]]; exact pow_fit hdl (by rw [hA0]; exact h9.1), by rw [q2, e33, show B0 ^ (2 * m9) * B0 = B0 ^ (n / 2 ^ t) by rw [hod, Nat.pow_succ]]; exact pow_fit hdl (by rw [hB0]; exact h9.2)⟩), x8, s8, hW8, fun z hz => (hs8 z hz).trans (hs z hz), fun k hk => (ht8 k hk).trans (ht k hk), hF.trans hF8⟩) ⟨Nat.le_of_ble_eq_true rfl, Nat.le_of_ble_eq_true rfl⟩
      · refine hw_xV (As := [.ref (fr 16)]) (rest := []) S hI m_Rk_multiplyOut w_561 (c_Rk_multiplyOut_bad l hlt D t0 L _ _ o r fr ad al ab am ak ah aw ar rg wf xx ss wt rs 16 hg hW (by decide) f32 f33 f32 f33 hf1) hW.Rk rfl hl.1 rfl rfl (Nat.le_of_ble_eq_true rfl) d_Rk_raise_60 ⟨Nat.le_of_ble_eq_true rfl, Nat.le_of_ble_eq_true rfl⟩ ⟨Nat.le_of_ble_eq_true rfl, Nat.le_of_ble_eq_true rfl⟩ (fun v9 L9 f11 H locs hp hI => hp.elim) (fun E9 ce9 q9 L9 f11 H locs hp hI hc9 hv9 hl9 => ?_)
        obtain ⟨rfl, rfl, x8, s8, hW8, hs8, ht8, hF8⟩ := hp
        exact hw_on hI hout hlocks hc9 hv9 hl9 (⟨rfl, rfl, (fun h9 => hf1 ⟨show xx 32 * xx 32 < nB ^ 20 by rw [e32, ← Nat.pow_add]; exact pow_fit (p := m9 + m9) (n := n) (by omega) (by rw [hA0]; exact h9.1), show xx 33 * xx 33 < nB ^ 20 by rw [e33, ← Nat.pow_add]; exact pow_fit (p := m9 + m9) (n := n) (by omega) (by rw [hB0]; exact h9.2)⟩), x8, s8, hW8, fun z hz => (hs8 z hz).trans (hs z hz), fun k hk => (ht8 k hk).trans (ht k hk), hF.trans hF8⟩) ⟨Nat.le_of_ble_eq_true rfl, Nat.le_of_ble_eq_true rfl⟩
  refine lv_aload_n hx hb d_Rk_raise_0 rfl (lv_at hl 0 rfl) ?_
  refine ob_get S hI hW.Rk (C := R_Rk) (T := F_Rk) (N := 7) (ref := "WallFractions$Reckoner") rfl i_Rk 2 (by decide) rfl w_134 rfl d_Rk_raise_1 ?_
  refine ob_getN S hI hW.Out (C := R_Fr) (T := F_Fr) (N := 3) (ref := "WallFractions$Fraction") rfl i_Fr 0 (by decide) rfl (by decide +kernel) rfl d_Rk_raise_4 ?_
  refine lv_lconst (v := lN 1) hx hb d_Rk_raise_7 rfl ?_
  refine hw_cV (As := [.long (lN 1)]) (rest := []) S hI m_Wh_become w_329 (c_Wh_become l D t0 L _ _ o r 46 x 32 1 (by omega) hY hW.N (by decide)) (hW.rc (i := 32) (by omega)).choose_spec rfl hl.1 rfl rfl (Nat.le_of_ble_eq_true rfl) d_Rk_raise_8 ⟨Nat.le_of_ble_eq_true rfl, Nat.le_of_ble_eq_true rfl⟩ ⟨Nat.le_of_ble_eq_true rfl, Nat.le_of_ble_eq_true rfl⟩ (fun v9 L9 f16 H locs hp hI => ?_)
  refine W.cs (cells' := 0) (slots' := 0) rfl rfl ?_
  obtain ⟨hv9, rfl, hN9, hf9⟩ := hp
  cases hv9
  refine hw_stk (st' := []) rfl ?_
  have hF := hF.wh (fun q h9 _ _ _ => hf9 q (h9 32 (by omega)).1 (h9 32 (by omega)).2)
  obtain ⟨x16, hW, e9, s9⟩ := (hW.wh hN9 (fun q h9 => hf9 q (h9 32 (by omega)).1 (h9 32 (by omega)).2)).cut
  have n9 : x16 32 = 1 := by rw [e9]
  have e32 : x16 32 = 1 := n9
  have hs := fun z (hz : z < 32) => (s9 z (by omega)).trans (hs z hz)
  refine lv_aload_n hx hb d_Rk_raise_11 rfl (lv_at hl 0 rfl) ?_
  refine ob_get S hI hW.Rk (C := R_Rk) (T := F_Rk) (N := 7) (ref := "WallFractions$Reckoner") rfl i_Rk 2 (by decide) rfl w_134 rfl d_Rk_raise_12 ?_
  refine ob_getN S hI hW.Out (C := R_Fr) (T := F_Fr) (N := 3) (ref := "WallFractions$Fraction") rfl i_Fr 1 (by decide) rfl (by decide +kernel) rfl d_Rk_raise_15 ?_
  refine lv_lconst (v := lN 1) hx hb d_Rk_raise_18 rfl ?_
  refine hw_cV (As := [.long (lN 1)]) (rest := []) S hI m_Wh_become w_329 (c_Wh_become l D t0 L _ _ o r 46 x16 33 1 (by omega) hY hW.N (by decide)) (hW.rc (i := 33) (by omega)).choose_spec rfl hl.1 rfl rfl (Nat.le_of_ble_eq_true rfl) d_Rk_raise_19 ⟨Nat.le_of_ble_eq_true rfl, Nat.le_of_ble_eq_true rfl⟩ ⟨Nat.le_of_ble_eq_true rfl, Nat.le_of_ble_eq_true rfl⟩ (fun v9 L9 f17 H locs hp hI => ?_)
  refine W.cs (cells' := 0) (slots' := 0) rfl rfl ?_
  obtain ⟨hv9, rfl, hN9, hf9⟩ := hp
  cases hv9
  refine hw_stk (st' := []) rfl ?_
  have hF := hF.wh (fun q h9 _ _ _ => hf9 q (h9 33 (by omega)).1 (h9 33 (by omega)).2)
  obtain ⟨x17, hW, e9, s9⟩ := (hW.wh hN9 (fun q h9 => hf9 q (h9 33 (by omega)).1 (h9 33 (by omega)).2)).cut
  have n9 : x17 33 = 1 := by rw [e9]
  have e32 : x17 32 = 1 := (s9 32 (by omega)).trans e32
  have e33 : x17 33 = 1 := n9
  have hs := fun z (hz : z < 32) => (s9 z (by omega)).trans (hs z hz)
  refine lv_aload_n hx hb d_Rk_raise_22 rfl (lv_at hl 0 rfl) ?_
  refine ob_get S hI hW.Rk (C := R_Rk) (T := F_Rk) (N := 7) (ref := "WallFractions$Reckoner") rfl i_Rk 2 (by decide) rfl w_134 rfl d_Rk_raise_23 ?_
  refine lv_aload_n hx hb d_Rk_raise_26 rfl (lv_at hl 1 rfl) ?_
  refine ob_getN S hI (hW.Fr (by omega)) (C := R_Fr) (T := F_Fr) (N := 3) (ref := "WallFractions$Fraction") rfl i_Fr 2 (by decide) rfl (by decide +kernel) rfl d_Rk_raise_27 ?_
  refine lv_if_eq (tgt := 44) hx hb d_Rk_raise_30 (by decide) (fun c18 => ?_) (fun c18 => ?_)
  · refine lv_iconst (v := nI 0) hx hb d_Rk_raise_44 (by decide) ?_
    refine hw_ti (show _ = sB (powS n (sg a)) from by unfold powS; rw [sB_z.mp c18]; rfl) ?_
    refine ob_putN S hI hW.Out (fs' := [.ref (o 32), .ref (o 33), .int (sB (powS n (sg a)))]) (C := R_Fr) (T := F_Fr) (N := 3) (ref := "WallFractions$Fraction") rfl i_Fr t_Fr t_Fr_ok n_Fr 2 (by decide) rfl (by decide +kernel) rfl (sB_nar _) (sB_fit _) (by simp only [List.length]; decide) rfl d_Rk_raise_45 (fun f19 H locs hI hO9 hf19 => ?_)
    have hF := hF.sg (by decide) hf19
    obtain ⟨sg19, hW, g9, t9⟩ := (hW.sgn hg (by decide) hf19 (b := (powS n (sg a))) hO9).cutS
    have g16 : sg19 16 = (powS n (sg a)) := g9
    have ht := fun z (hz : z < 16) => (t9 z (by omega)).trans (ht z hz)
    refine lv_bipush (v := nI 7) hx hb d_Rk_raise_48 (by decide) ?_
    refine lv_istore_n (lv' := [(3, .int (nI 7)), (0, .ref (ak)), (1, .ref (fr a)), (2, .int (nI n))]) hx hb d_Rk_raise_50 rfl hl (by decide) rfl (fun ls hl => ?_)
    have h256 : n / 2 ^ 8 = 0 := Nat.div_eq_of_lt (by omega)
    have hl : lv_has ls 4 [(3, .int (mI 8)), (2, .int (nI n)), (1, .ref (fr a)), (0, .ref (ak))] := (lv_sub hl [0, 3, 2, 1] rfl)
    exact loop 8 _ _ _ _ _ _ (Nat.le_refl _) (by rw [h256, Nat.pow_zero]; exact e32) (by rw [h256, Nat.pow_zero]; exact e33) (by rw [e32]; decide) (by rw [e33]; decide) g16 hW hs ht hF hI hl
  · refine lv_iload_n hx hb d_Rk_raise_33 rfl (lv_at hl 2 rfl) ?_
    refine lv_iconst (v := nI 2) hx hb d_Rk_raise_34 (by decide) ?_
    refine lv_irem hx hb d_Rk_raise_35 (by decide) ?_
    refine hw_ti (pk_rem (by omega) (by omega) (by omega)) ?_
    refine lv_iconst (v := nI 1) hx hb d_Rk_raise_36 (by decide) ?_
    refine hw_icmp_ne (tgt := 44) hx hb d_Rk_raise_37 (by decide) (by omega) (by omega) (fun c20 => ?_) (fun c20 => ?_)
    · refine lv_iconst (v := nI 0) hx hb d_Rk_raise_44 (by decide) ?_
      refine hw_ti (show _ = sB (powS n (sg a)) from by unfold powS; rw [decide_eq_false c20, Bool.and_false]; rfl) ?_
      refine ob_putN S hI hW.Out (fs' := [.ref (o 32), .ref (o 33), .int (sB (powS n (sg a)))]) (C := R_Fr) (T := F_Fr) (N := 3) (ref := "WallFractions$Fraction") rfl i_Fr t_Fr t_Fr_ok n_Fr 2 (by decide) rfl (by decide +kernel) rfl (sB_nar _) (sB_fit _) (by simp only [List.length]; decide) rfl d_Rk_raise_45 (fun f21 H locs hI hO9 hf21 => ?_)
      have hF := hF.sg (by decide) hf21
      obtain ⟨sg21, hW, g9, t9⟩ := (hW.sgn hg (by decide) hf21 (b := (powS n (sg a))) hO9).cutS
      have g16 : sg21 16 = (powS n (sg a)) := g9
      have ht := fun z (hz : z < 16) => (t9 z (by omega)).trans (ht z hz)
      refine lv_bipush (v := nI 7) hx hb d_Rk_raise_48 (by decide) ?_
      refine lv_istore_n (lv' := [(3, .int (nI 7)), (0, .ref (ak)), (1, .ref (fr a)), (2, .int (nI n))]) hx hb d_Rk_raise_50 rfl hl (by decide) rfl (fun ls hl => ?_)
      have h256 : n / 2 ^ 8 = 0 := Nat.div_eq_of_lt (by omega)
      have hl : lv_has ls 4 [(3, .int (mI 8)), (2, .int (nI n)), (1, .ref (fr a)), (0, .ref (ak))] := (lv_sub hl [0, 3, 2, 1] rfl)
      exact loop 8 _ _ _ _ _ _ (Nat.le_refl _) (by rw [h256, Nat.pow_zero]; exact e32) (by rw [h256, Nat.pow_zero]; exact e33) (by rw [e32]; decide) (by rw [e33]; decide) g16 hW hs ht hF hI hl
    · refine lv_iconst (v := nI 1) hx hb d_Rk_raise_40 (by decide) ?_
      refine lv_goto (tgt := 45) hx hb d_Rk_raise_41 (by decide) ?_
      refine hw_ti (show _ = sB (powS n (sg a)) from by unfold powS; rw [bool_ne0 c18, decide_eq_true c20]; rfl) ?_
      refine ob_putN S hI hW.Out (fs' := [.ref (o 32), .ref (o 33), .int (sB (powS n (sg a)))]) (C := R_Fr) (T := F_Fr) (N := 3) (ref := "WallFractions$Fraction") rfl i_Fr t_Fr t_Fr_ok n_Fr 2 (by decide) rfl (by decide +kernel) rfl (sB_nar _) (sB_fit _) (by simp only [List.length]; decide) rfl d_Rk_raise_45 (fun f22 H locs hI hO9 hf22 => ?_)
      have hF := hF.sg (by decide) hf22
      obtain ⟨sg22, hW, g9, t9⟩ := (hW.sgn hg (by decide) hf22 (b := (powS n (sg a))) hO9).cutS
      have g16 : sg22 16 = (powS n (sg a)) := g9
      have ht := fun z (hz : z < 16) => (t9 z (by omega)).trans (ht z hz)
      refine lv_bipush (v := nI 7) hx hb d_Rk_raise_48 (by decide) ?_
      refine lv_istore_n (lv' := [(3, .int (nI 7)), (0, .ref (ak)), (1, .ref (fr a)), (2, .int (nI n))]) hx hb d_Rk_raise_50 rfl hl (by decide) rfl (fun ls hl => ?_)
      have h256 : n / 2 ^ 8 = 0 := Nat.div_eq_of_lt (by omega)
      have hl : lv_has ls 4 [(3, .int (mI 8)), (2, .int (nI n)), (1, .ref (fr a)), (0, .ref (ak))] := (lv_sub hl [0, 3, 2, 1] rfl)
      exact loop 8 _ _ _ _ _ _ (Nat.le_refl _) (by rw [h256, Nat.pow_zero]; exact e32) (by rw [h256, Nat.pow_zero]; exact e33) (by rw [e32]; decide) (by rw [e33]; decide) g16 hW hs ht hF hI hl

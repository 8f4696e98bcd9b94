def Rp (σ : Sg) (x : Nat → Nat) (sg : Nat → Bool) : Prop := ∀ k, k < 16 → x (2 * k) = (σ k).1 ∧ x (2 * k + 1) = (σ k).2.1 ∧ sg k = (σ k).2.2
def Sd (D : va_G) (L : List Nat) (f : Nat → va_E) (o r fr : Nat → Nat) (ad al ab am ak ah aw ar rg wf : Nat) (σ : Sg) (wt : Nat → Nat) : Prop := ∃ (x : Nat → Nat) (sg : Nat → Bool) (rs : Nat → Nat), Wd D L f o r fr ad al ab am ak ah aw ar rg wf x sg wt rs ∧ Rp σ x sg
theorem Rp.keep {σ : Sg} {x x' : Nat → Nat} {sg sg' : Nat → Bool} (h : Rp σ x sg) (hs : ∀ z, z < 32 → x' z = x z) (ht : ∀ k, k < 16 → sg' k = sg k) : Rp σ x' sg' := fun k hk => ⟨(hs _ (by omega)).trans (h k hk).1, (hs _ (by omega)).trans (h k hk).2.1, (ht k hk).trans (h k hk).2.2⟩
theorem Rp.put {σ : Sg} {x x' y : Nat → Nat} {sg sg' s9 : Nat → Bool} (h : Rp σ x sg) (hs : ∀ z, z < 32 → x' z = x z) (ht : ∀ k, k < 16 → sg' k = sg k) {j : Nat} (hj : j < 16) {t : Rg} (h32 : x' 32 = t.1) (h33 : x' 33 = t.2.1) (h16 : sg' 16 = t.2.2) (e1 : y (2 * j) = x' 32) (e2 : y (2 * j + 1) = x' 33) (hs9 : ∀ z, z ≠ 2 * j → z ≠ 2 * j + 1 → y z = x' z) (g9 : s9 j = sg' 16) (ht9 : ∀ k, k ≠ j → s9 k = sg' k) : Rp (va_up σ j t) y s9 := by
  intro k hk
  by_cases e : k = j
  · subst e
    rw [hw_up_eq]
    exact ⟨e1.trans h32, e2.trans h33, g9.trans h16⟩
  · rw [hw_up_ne e, hs9 _ (by omega) (by omega), hs9 _ (by omega) (by omega), ht9 k e]
    exact h.keep hs ht k hk
theorem Ok.h20 {σ : Sg} {wt : Nat → Nat} {x : Nat → Nat} {sg : Nat → Bool} (h : Ok σ wt) (hR : Rp σ x sg) : ∀ z, z < 32 → x z < nB ^ 20 := by
  intro z hz
  have h1 := hR (z / 2) (by omega)
  have h2 := h.1 (z / 2) (by omega)
  rcases Nat.mod_two_eq_zero_or_one z with e | e
  · rw [show z = 2 * (z / 2) by omega, h1.1]; exact h2.1
  · rw [show z = 2 * (z / 2) + 1 by omega, h1.2.1]; exact h2.2.1
theorem putR_yes {c : Nat} {σ : Sg} {r : Int32} {t : Rg} (h : t.1 < nB ^ 20 ∧ t.2.1 < nB ^ 20) : putR c σ r t = (0, va_up σ (ix r) t) := if_pos h
theorem putR_no {c : Nat} {σ : Sg} {r : Int32} {t : Rg} (h : ¬ (t.1 < nB ^ 20 ∧ t.2.1 < nB ^ 20)) : putR c σ r t = (c, σ) := if_neg h
theorem lMin : (-9223372036854775807 : Int64) = zL (-9223372036854775807) := by decide
theorem lMax : (lN 9223372036854775807) = zL 9223372036854775807 := by decide
theorem set_fit {p g : Nat} (h : p < 2 ^ 63) : p / g < nB ^ 20 := Nat.lt_of_le_of_lt (Nat.div_le_self _ _) (Nat.lt_trans h (by decide))
theorem rat_sg (p q : Int) : ratS p q = sgz p.natAbs (decide (p < 0) != decide (q < 0)) := by
  unfold ratS sgz
  by_cases h : p = 0
  · rw [decide_eq_false (fun k => k h), if_pos (by omega)]; rfl
  · rw [decide_eq_true h, if_neg (by omega)]; rfl
theorem gcd1 (n : Nat) : Nat.gcd n 1 = 1 := Nat.gcd_one_right n
theorem lows1 (n : Nat) (s : Bool) : lows n 1 s = (n, 1, sgz n s) := by unfold lows; rw [gcd1, Nat.div_one]
set_option maxHeartbeats 4000000 in
set_option maxRecDepth 100000 in
theorem c_Wf_add (l : Launch) (hlt : l.stackTraces = false) (D : va_G) (t0 : Nat) (L : List Nat) (f : Nat → va_E) (sz : Nat) (o r fr : Nat → Nat) (ad al ab am ak ah aw ar rg wf : Nat) (σ : Sg) (wt : Nat → Nat) (i0 : Int32) (i1 : Int32) (i2 : Int32) (hg : Gl o r fr ad al ab am ak ah aw ar rg wf) (hS : Sd D L f o r fr ad al ab am ak ah aw ar rg wf σ wt) (hok : Ok σ wt) : vx_Met l y_Wf_add (Cond.code y_Wf_add b_Wf_add 4 none :: TT) ({ frames := 11, cells := 1, slots := 6, locals := 237 } : Room) (hw_Pc t0 [.ref (wf), .int (i0), .int (i1), .int (i2)] D L f sz) (hw_Q D L sz (fun oc L' f' => oc = .returned none ∧ L = L' ∧ (opAdd σ i0 i1 i2).1 = 0 ∧ Sd D L f' o r fr ad al ab am ak ah aw ar rg wf (opAdd σ i0 i1 i2).2 wt ∧ Fm o r fr ad al ab am ak ah aw ar rg wf f f')) (hw_X D L sz (fun E L' f' => ((E = "java/lang/IllegalArgumentException" ∧ (opAdd σ i0 i1 i2).1 = 1) ∨ (E = "java/lang/IllegalStateException" ∧ (opAdd σ i0 i1 i2).1 = 2)) ∧ L = L' ∧ Sd D L f' o r fr ad al ab am ak ah aw ar rg wf σ wt ∧ Fm o r fr ad al ab am ak ah aw ar rg wf f f')) 1 6 (hw_A L sz) := by
  refine vx_ofW (cc := b_Wf_add) (maxL := 4) (ret := none) (by decide) rfl ?_
  intro p e s m args below meth c s₁ B hml hout hv
  obtain ⟨rfl, rfl, hI⟩ := hw_start hv
  clear hv
  have hx := B.exec
  have hb := B.bytes
  have hr := B.returns
  have hlocks := B.notSynchronized
  have hown : s.vm.findClass "WallFractions" = some m.cls := findClass_of_methodNamed B.named
  have hT : ∀ w ∈ TT, w.before ([.ref (wf), .int (i0), .int (i1), .int (i2)]).toArray s = true := fun w h => atoms_spec (ws := (Cond.code y_Wf_add b_Wf_add 4 none :: TT)) B.pre w (List.mem_cons_of_mem _ h)
  have S : CallFix p m c b_Wf_add 4 s ([.ref (wf), .int (i0), .int (i1), .int (i2)]).toArray TT "WallFractions" := ⟨hx, hb, hml, hown, hT⟩
  have hl := lv_entry ([.ref (wf), .int (i0), .int (i1), .int (i2)]) (n := 4) (Nat.le_of_ble_eq_true rfl)
  rw [lg_entry_eq]
  generalize (lg_sl ([.ref (wf), .int (i0), .int (i1), .int (i2)]) ++ List.replicate (4 - (lg_sl ([.ref (wf), .int (i0), .int (i1), .int (i2)])).length) Slot.unset).toArray = ls at hl ⊢
  have hl : lv_has ls 4 [(0, .ref (wf)), (1, .int (i0)), (2, .int (i1)), (3, .int (i2))] := hl
  obtain ⟨x, sg, rs, hW, hR⟩ := hS
  have hY := hg.1
  have hF : Fm o r fr ad al ab am ak ah aw ar rg wf f f := Fm.refl
  have hs : ∀ z, z < 32 → x z = x z := fun _ _ => rfl
  have ht : ∀ k, k < 16 → sg k = sg k := fun _ _ => rfl
  have h20 := hok.h20 hR
  rcases hB0 : (vr i0 && vr i1 && vr i2) with _ | _
  · refine lv_iload_n hx hb d_Wf_add_0 rfl (lv_at hl 1 rfl) ?_
    refine lv_iload_n hx hb d_Wf_add_1 rfl (lv_at hl 2 rfl) ?_
    refine lv_iload_n hx hb d_Wf_add_2 rfl (lv_at hl 3 rfl) ?_
    have hop : opAdd σ i0 i1 i2 = (1, σ) := by unfold opAdd; exact if_neg (by simp [hB0])
    refine hw_xS (As := [.int (i0), .int (i1), .int (i2)]) (rest := []) S hI m_Wf_requireRegisters w_400 (c_Wf_requireRegisters_bad l hlt D t0 L _ _ i0 i1 i2 hB0) hl.1 rfl rfl (Nat.le_of_ble_eq_true rfl) d_Wf_add_3 ⟨Nat.le_of_ble_eq_true rfl, Nat.le_of_ble_eq_true rfl⟩ ⟨Nat.le_of_ble_eq_true rfl, Nat.le_of_ble_eq_true rfl⟩ (fun v9 L9 f1 H locs hp hI => hp.elim) (fun E9 ce9 q9 L9 f1 H locs hp hI hc9 hv9 hl9 => ?_)
    obtain ⟨rfl, rfl, rfl⟩ := hp
    exact hw_on hI hout hlocks hc9 hv9 hl9 (⟨Or.inl (⟨rfl, by rw [hop]⟩), rfl, ⟨x, sg, rs, hW, hR⟩, hF⟩) ⟨Nat.le_of_ble_eq_true rfl, Nat.le_of_ble_eq_true rfl⟩
  · simp only [Bool.and_eq_true] at hB0
    obtain ⟨⟨hB0, hB1⟩, hB2⟩ := hB0
    obtain ⟨j0, hj0, rfl⟩ := vr_of hB0
    obtain ⟨j1, hj1, rfl⟩ := vr_of hB1
    obtain ⟨j2, hj2, rfl⟩ := vr_of hB2
    refine lv_iload_n hx hb d_Wf_add_0 rfl (lv_at hl 1 rfl) ?_
    refine lv_iload_n hx hb d_Wf_add_1 rfl (lv_at hl 2 rfl) ?_
    refine lv_iload_n hx hb d_Wf_add_2 rfl (lv_at hl 3 rfl) ?_
    refine hw_cS (As := [.int (nI j0), .int (nI j1), .int (nI j2)]) (rest := []) S hI m_Wf_requireRegisters w_400 (c_Wf_requireRegisters_ok l D t0 L _ _ j0 j1 j2 hj0 hj1 hj2) hl.1 rfl rfl (Nat.le_of_ble_eq_true rfl) d_Wf_add_3 ⟨Nat.le_of_ble_eq_true rfl, Nat.le_of_ble_eq_true rfl⟩ ⟨Nat.le_of_ble_eq_true rfl, Nat.le_of_ble_eq_true rfl⟩ (fun v9 L9 f2 H locs hp hI => ?_)
    refine W.cs (cells' := 0) (slots' := 0) rfl rfl ?_
    obtain ⟨hv9, rfl, rfl⟩ := hp
    cases hv9
    refine hw_stk (st' := []) rfl ?_
    have r10 : x (2 * j1) = (σ j1).1 := (hR j1 hj1).1
    have r11 : x (2 * j1 + 1) = (σ j1).2.1 := (hR j1 hj1).2.1
    have r12 : sg j1 = (σ j1).2.2 := (hR j1 hj1).2.2
    have r20 : x (2 * j2) = (σ j2).1 := (hR j2 hj2).1
    have r21 : x (2 * j2 + 1) = (σ j2).2.1 := (hR j2 hj2).2.1
    have r22 : sg j2 = (σ j2).2.2 := (hR j2 hj2).2.2
    have hOk := fun k hk => hok.1 k hk
    have hop : opAdd σ (nI j0) (nI j1) (nI j2) = putR 2 σ (nI j0) (addV (σ j1) (σ j2) (σ j2).2.2) := by unfold opAdd; rw [if_pos (by simp [hB0, hB1, hB2]), ix_nI (j := j1) (by omega), ix_nI (j := j2) (by omega)]
    have hpos : 0 < x (2 * j1 + 1) * x (2 * j2 + 1) := by rw [r11, r21]; exact Nat.mul_pos (hOk j1 hj1).2.2.1 (hOk j2 hj2).2.2.1
    refine lv_aload_n hx hb d_Wf_add_6 rfl (lv_at hl 0 rfl) ?_
    refine ob_get S hI hW.Wf (C := R_Wf) (T := F_Wf) (N := 3) (ref := "WallFractions") rfl i_Wf 1 (by decide) rfl w_187 rfl d_Wf_add_7 ?_
    refine lv_aload_n hx hb d_Wf_add_10 rfl (lv_at hl 0 rfl) ?_
    refine ob_get S hI hW.Wf (C := R_Wf) (T := F_Wf) (N := 3) (ref := "WallFractions") rfl i_Wf 0 (by decide) rfl w_186 rfl d_Wf_add_11 ?_
    refine lv_iload_n hx hb d_Wf_add_14 rfl (lv_at hl 2 rfl) ?_
    refine rg_ld S hI hW.Rg (by omega) d_Wf_add_15 ?_
    refine lv_aload_n hx hb d_Wf_add_16 rfl (lv_at hl 0 rfl) ?_
    refine ob_get S hI hW.Wf (C := R_Wf) (T := F_Wf) (N := 3) (ref := "WallFractions") rfl i_Wf 0 (by decide) rfl w_186 rfl d_Wf_add_17 ?_
    refine lv_iload_n hx hb d_Wf_add_20 rfl (lv_at hl 3 rfl) ?_
    refine rg_ld S hI hW.Rg (by omega) d_Wf_add_21 ?_
    refine lv_aload_n hx hb d_Wf_add_22 rfl (lv_at hl 0 rfl) ?_
    refine ob_get S hI hW.Wf (C := R_Wf) (T := F_Wf) (N := 3) (ref := "WallFractions") rfl i_Wf 0 (by decide) rfl w_186 rfl d_Wf_add_23 ?_
    refine lv_iload_n hx hb d_Wf_add_26 rfl (lv_at hl 3 rfl) ?_
    refine rg_ld S hI hW.Rg (by omega) d_Wf_add_27 ?_
    refine ob_getN S hI (hW.Fr (by omega)) (C := R_Fr) (T := F_Fr) (N := 3) (ref := "WallFractions$Fraction") rfl i_Fr 2 (by decide) rfl (by decide +kernel) rfl d_Wf_add_28 ?_
    refine hw_cV (As := [.ref (fr j1), .ref (fr j2), .int (sB (sg j2))]) (rest := []) S hI m_Rk_total w_403 (c_Rk_total l D t0 L _ _ o r fr ad al ab am ak ah aw ar rg wf x sg wt rs j1 j2 (sg j2) hg hW hj1 hj2 h20) hW.Rk rfl hl.1 rfl rfl (Nat.le_of_ble_eq_true rfl) d_Wf_add_31 ⟨Nat.le_of_ble_eq_true rfl, Nat.le_of_ble_eq_true rfl⟩ ⟨Nat.le_of_ble_eq_true rfl, Nat.le_of_ble_eq_true rfl⟩ (fun v9 L9 f3 H locs hp hI => ?_)
    refine W.cs (cells' := 0) (slots' := 0) rfl rfl ?_
    obtain ⟨hv9, rfl, xx3, ss3, hW, e32, e33, g16, hs9, ht9, hF9⟩ := hp
    cases hv9
    refine hw_stk (st' := []) rfl ?_
    have hF := hF.trans hF9
    have hs := fun z (hz : z < 32) => (hs9 z hz).trans (hs z hz)
    have ht := fun z (hz : z < 16) => (ht9 z hz).trans (ht z hz)
    have p32 := e32
    have p33 := e33
    have p16 := g16
    refine lv_aload_n hx hb d_Wf_add_34 rfl (lv_at hl 0 rfl) ?_
    refine ob_get S hI hW.Wf (C := R_Wf) (T := F_Wf) (N := 3) (ref := "WallFractions") rfl i_Wf 1 (by decide) rfl w_187 rfl d_Wf_add_35 ?_
    refine hw_cV (As := []) (rest := []) S hI m_Rk_reduce w_430 (c_Rk_reduce l D t0 L _ _ o r fr ad al ab am ak ah aw ar rg wf xx3 ss3 wt rs  hg hW (by rw [e33]; exact Or.inr (hpos))) hW.Rk rfl hl.1 rfl rfl (Nat.le_of_ble_eq_true rfl) d_Wf_add_38 ⟨Nat.le_of_ble_eq_true rfl, Nat.le_of_ble_eq_true rfl⟩ ⟨Nat.le_of_ble_eq_true rfl, Nat.le_of_ble_eq_true rfl⟩ (fun v9 L9 f4 H locs hp hI => ?_)
    refine W.cs (cells' := 0) (slots' := 0) rfl rfl ?_
    obtain ⟨hv9, rfl, xx4, ss4, hW, e32, e33, g16, hs9, ht9, hF9⟩ := hp
    cases hv9
    refine hw_stk (st' := []) rfl ?_
    have hF := hF.trans hF9
    have hs := fun z (hz : z < 32) => (hs9 z hz).trans (hs z hz)
    have ht := fun z (hz : z < 16) => (ht9 z hz).trans (ht z hz)
    rw [p32, p33] at e32 e33
    rw [p32, p16] at g16
    simp only [r10, r11, r12, r20, r21, r22] at e32 e33 g16
    have h32 : xx4 32 = (addV (σ j1) (σ j2) (σ j2).2.2).1 := e32
    have h33 : xx4 33 = (addV (σ j1) (σ j2) (σ j2).2.2).2.1 := e33
    have h16 : ss4 16 = (addV (σ j1) (σ j2) (σ j2).2.2).2.2 := g16
    refine lv_aload_n hx hb d_Wf_add_41 rfl (lv_at hl 0 rfl) ?_
    refine lv_iload_n hx hb d_Wf_add_42 rfl (lv_at hl 1 rfl) ?_
    by_cases hfit : FitX xx4
    · have hop2 := hop.trans (putR_yes ⟨by rw [← h32]; exact hfit.1, by rw [← h33]; exact hfit.2⟩)
      rw [ix_nI (by omega)] at hop2
      refine hw_cV (As := [.int (nI j0)]) (rest := []) S hI m_Wf_keep w_330 (c_Wf_keep_ok l D t0 L _ _ o r fr ad al ab am ak ah aw ar rg wf xx4 ss4 wt rs j0 hg hW (by omega) hfit) hW.Wf rfl hl.1 rfl rfl (Nat.le_of_ble_eq_true rfl) d_Wf_add_43 ⟨Nat.le_of_ble_eq_true rfl, Nat.le_of_ble_eq_true rfl⟩ ⟨Nat.le_of_ble_eq_true rfl, Nat.le_of_ble_eq_true rfl⟩ (fun v9 L9 f6 H locs hp hI => ?_)
      refine W.cs (cells' := 0) (slots' := 0) rfl rfl ?_
      obtain ⟨hv9, rfl, xk, sk, hW, k1, k2, hs9, g9, ht9, hF9⟩ := hp
      cases hv9
      refine hw_stk (st' := []) rfl ?_
      exact W.widen (k := 1) (n := 6) (Nat.le_of_ble_eq_true rfl) (Nat.le_of_ble_eq_true rfl) (vx_ret (hw_vret hx hb hr hlocks hI d_Wf_add_46 ⟨rfl, rfl, by rw [hop2], by rw [hop2]; exact ⟨xk, sk, rs, hW, hR.put hs ht (by omega) h32 h33 h16 k1 k2 hs9 g9 ht9⟩, hF.trans hF9⟩))
    · have hop2 := hop.trans (putR_no (fun h9 => hfit ⟨by rw [h32]; exact h9.1, by rw [h33]; exact h9.2⟩))
      refine hw_xV (As := [.int (nI j0)]) (rest := []) S hI m_Wf_keep w_330 (c_Wf_keep_bad l hlt D t0 L _ _ o r fr ad al ab am ak ah aw ar rg wf xx4 ss4 wt rs j0 hg hW (by omega) hfit) hW.Wf rfl hl.1 rfl rfl (Nat.le_of_ble_eq_true rfl) d_Wf_add_43 ⟨Nat.le_of_ble_eq_true rfl, Nat.le_of_ble_eq_true rfl⟩ ⟨Nat.le_of_ble_eq_true rfl, Nat.le_of_ble_eq_true rfl⟩ (fun v9 L9 f5 H locs hp hI => hp.elim) (fun E9 ce9 q9 L9 f5 H locs hp hI hc9 hv9 hl9 => ?_)
      obtain ⟨rfl, rfl, rfl⟩ := hp
      exact hw_on hI hout hlocks hc9 hv9 hl9 (⟨Or.inr (⟨rfl, by rw [hop2]⟩), rfl, ⟨xx4, ss4, rs, hW, hR.keep hs ht⟩, hF⟩) ⟨Nat.le_of_ble_eq_true rfl, Nat.le_of_ble_eq_true rfl⟩
set_option maxHeartbeats 4000000 in
set_option maxRecDepth 100000 in
theorem c_Wf_subtract (l : Launch) (hlt : l.stackTraces = false) (D : va_G) (t0 : Nat) (L : List Nat) (f : Nat → va_E) (sz : Nat) (o r fr : Nat → Nat) (ad al ab am ak ah aw ar rg wf : Nat) (σ : Sg) (wt : Nat → Nat) (i0 : Int32) (i1 : Int32) (i2 : Int32) (hg : Gl o r fr ad al ab am ak ah aw ar rg wf) (hS : Sd D L f o r fr ad al ab am ak ah aw ar rg wf σ wt) (hok : Ok σ wt) : vx_Met l y_Wf_subtract (Cond.code y_Wf_subtract b_Wf_subtract 4 none :: TT) ({ frames := 11, cells := 1, slots := 6, locals := 237 } : Room) (hw_Pc t0 [.ref (wf), .int (i0), .int (i1), .int (i2)] D L f sz) (hw_Q D L sz (fun oc L' f' => oc = .returned none ∧ L = L' ∧ (opSub σ i0 i1 i2).1 = 0 ∧ Sd D L f' o r fr ad al ab am ak ah aw ar rg wf (opSub σ i0 i1 i2).2 wt ∧ Fm o r fr ad al ab am ak ah aw ar rg wf f f')) (hw_X D L sz (fun E L' f' => ((E = "java/lang/IllegalArgumentException" ∧ (opSub σ i0 i1 i2).1 = 1) ∨ (E = "java/lang/IllegalStateException" ∧ (opSub σ i0 i1 i2).1 = 2)) ∧ L = L' ∧ Sd D L f' o r fr ad al ab am ak ah aw ar rg wf σ wt ∧ Fm o r fr ad al ab am ak ah aw ar rg wf f f')) 1 6 (hw_A L sz) := by
  refine vx_ofW (cc := b_Wf_subtract) (maxL := 4) (ret := none) (by decide) rfl ?_
  intro p e s m args below meth c s₁ B hml hout hv
  obtain ⟨rfl, rfl, hI⟩ := hw_start hv
  clear hv
  have hx := B.exec
  have hb := B.bytes
  have hr := B.returns
  have hlocks := B.notSynchronized
  have hown : s.vm.findClass "WallFractions" = some m.cls := findClass_of_methodNamed B.named
  have hT : ∀ w ∈ TT, w.before ([.ref (wf), .int (i0), .int (i1), .int (i2)]).toArray s = true := fun w h => atoms_spec (ws := (Cond.code y_Wf_subtract b_Wf_subtract 4 none :: TT)) B.pre w (List.mem_cons_of_mem _ h)
  have S : CallFix p m c b_Wf_subtract 4 s ([.ref (wf), .int (i0), .int (i1), .int (i2)]).toArray TT "WallFractions" := ⟨hx, hb, hml, hown, hT⟩
  have hl := lv_entry ([.ref (wf), .int (i0), .int (i1), .int (i2)]) (n := 4) (Nat.le_of_ble_eq_true rfl)
  rw [lg_entry_eq]
  generalize (lg_sl ([.ref (wf), .int (i0), .int (i1), .int (i2)]) ++ List.replicate (4 - (lg_sl ([.ref (wf), .int (i0), .int (i1), .int (i2)])).length) Slot.unset).toArray = ls at hl ⊢
  have hl : lv_has ls 4 [(0, .ref (wf)), (1, .int (i0)), (2, .int (i1)), (3, .int (i2))] := hl
  obtain ⟨x, sg, rs, hW, hR⟩ := hS
  have hY := hg.1
  have hF : Fm o r fr ad al ab am ak ah aw ar rg wf f f := Fm.refl
  have hs : ∀ z, z < 32 → x z = x z := fun _ _ => rfl
  have ht : ∀ k, k < 16 → sg k = sg k := fun _ _ => rfl
  have h20 := hok.h20 hR
  rcases hB0 : (vr i0 && vr i1 && vr i2) with _ | _
  · refine lv_iload_n hx hb d_Wf_subtract_0 rfl (lv_at hl 1 rfl) ?_
    refine lv_iload_n hx hb d_Wf_subtract_1 rfl (lv_at hl 2 rfl) ?_
    refine lv_iload_n hx hb d_Wf_subtract_2 rfl (lv_at hl 3 rfl) ?_
    have hop : opSub σ i0 i1 i2 = (1, σ) := by unfold opSub; exact if_neg (by simp [hB0])
    refine hw_xS (As := [.int (i0), .int (i1), .int (i2)]) (rest := []) S hI m_Wf_requireRegisters w_400 (c_Wf_requireRegisters_bad l hlt D t0 L _ _ i0 i1 i2 hB0) hl.1 rfl rfl (Nat.le_of_ble_eq_true rfl) d_Wf_subtract_3 ⟨Nat.le_of_ble_eq_true rfl, Nat.le_of_ble_eq_true rfl⟩ ⟨Nat.le_of_ble_eq_true rfl, Nat.le_of_ble_eq_true rfl⟩ (fun v9 L9 f7 H locs hp hI => hp.elim) (fun E9 ce9 q9 L9 f7 H locs hp hI hc9 hv9 hl9 => ?_)
    obtain ⟨rfl, rfl, rfl⟩ := hp
    exact hw_on hI hout hlocks hc9 hv9 hl9 (⟨Or.inl (⟨rfl, by rw [hop]⟩), rfl, ⟨x, sg, rs, hW, hR⟩, hF⟩) ⟨Nat.le_of_ble_eq_true rfl, Nat.le_of_ble_eq_true rfl⟩
  · simp only [Bool.and_eq_true] at hB0
    obtain ⟨⟨hB0, hB1⟩, hB2⟩ := hB0
    obtain ⟨j0, hj0, rfl⟩ := vr_of hB0
    obtain ⟨j1, hj1, rfl⟩ := vr_of hB1
    obtain ⟨j2, hj2, rfl⟩ := vr_of hB2
    refine lv_iload_n hx hb d_Wf_subtract_0 rfl (lv_at hl 1 rfl) ?_
    refine lv_iload_n hx hb d_Wf_subtract_1 rfl (lv_at hl 2 rfl) ?_
    refine lv_iload_n hx hb d_Wf_subtract_2 rfl (lv_at hl 3 rfl) ?_
    refine hw_cS (As := [.int (nI j0), .int (nI j1), .int (nI j2)]) (rest := []) S hI m_Wf_requireRegisters w_400 (c_Wf_requireRegisters_ok l D t0 L _ _ j0 j1 j2 hj0 hj1 hj2) hl.1 rfl rfl (Nat.le_of_ble_eq_true rfl) d_Wf_subtract_3 ⟨Nat.le_of_ble_eq_true rfl, Nat.le_of_ble_eq_true rfl⟩ ⟨Nat.le_of_ble_eq_true rfl, Nat.le_of_ble_eq_true rfl⟩ (fun v9 L9 f8 H locs hp hI => ?_)
    refine W.cs (cells' := 0) (slots' := 0) rfl rfl ?_
    obtain ⟨hv9, rfl, rfl⟩ := hp
    cases hv9
    refine hw_stk (st' := []) rfl ?_
    have r10 : x (2 * j1) = (σ j1).1 := (hR j1 hj1).1
    have r11 : x (2 * j1 + 1) = (σ j1).2.1 := (hR j1 hj1).2.1
    have r12 : sg j1 = (σ j1).2.2 := (hR j1 hj1).2.2
    have r20 : x (2 * j2) = (σ j2).1 := (hR j2 hj2).1
    have r21 : x (2 * j2 + 1) = (σ j2).2.1 := (hR j2 hj2).2.1
    have r22 : sg j2 = (σ j2).2.2 := (hR j2 hj2).2.2
    have hOk := fun k hk => hok.1 k hk
    have hop : opSub σ (nI j0) (nI j1) (nI j2) = putR 2 σ (nI j0) (addV (σ j1) (σ j2) (!(σ j2).2.2)) := by unfold opSub; rw [if_pos (by simp [hB0, hB1, hB2]), ix_nI (j := j1) (by omega), ix_nI (j := j2) (by omega)]
    have hpos : 0 < x (2 * j1 + 1) * x (2 * j2 + 1) := by rw [r11, r21]; exact Nat.mul_pos (hOk j1 hj1).2.2.1 (hOk j2 hj2).2.2.1
    refine lv_aload_n hx hb d_Wf_subtract_6 rfl (lv_at hl 0 rfl) ?_
    refine ob_get S hI hW.Wf (C := R_Wf) (T := F_Wf) (N := 3) (ref := "WallFractions") rfl i_Wf 1 (by decide) rfl w_187 rfl d_Wf_subtract_7 ?_
    refine lv_aload_n hx hb d_Wf_subtract_10 rfl (lv_at hl 0 rfl) ?_
    refine ob_get S hI hW.Wf (C := R_Wf) (T := F_Wf) (N := 3) (ref := "WallFractions") rfl i_Wf 0 (by decide) rfl w_186 rfl d_Wf_subtract_11 ?_
    refine lv_iload_n hx hb d_Wf_subtract_14 rfl (lv_at hl 2 rfl) ?_
    refine rg_ld S hI hW.Rg (by omega) d_Wf_subtract_15 ?_
    refine lv_aload_n hx hb d_Wf_subtract_16 rfl (lv_at hl 0 rfl) ?_
    refine ob_get S hI hW.Wf (C := R_Wf) (T := F_Wf) (N := 3) (ref := "WallFractions") rfl i_Wf 0 (by decide) rfl w_186 rfl d_Wf_subtract_17 ?_
    refine lv_iload_n hx hb d_Wf_subtract_20 rfl (lv_at hl 3 rfl) ?_
    refine rg_ld S hI hW.Rg (by omega) d_Wf_subtract_21 ?_
    refine lv_aload_n hx hb d_Wf_subtract_22 rfl (lv_at hl 0 rfl) ?_
    refine ob_get S hI hW.Wf (C := R_Wf) (T := F_Wf) (N := 3) (ref := "WallFractions") rfl i_Wf 0 (by decide) rfl w_186 rfl d_Wf_subtract_23 ?_
    refine lv_iload_n hx hb d_Wf_subtract_26 rfl (lv_at hl 3 rfl) ?_
    refine rg_ld S hI hW.Rg (by omega) d_Wf_subtract_27 ?_
    refine ob_getN S hI (hW.Fr (by omega)) (C := R_Fr) (T := F_Fr) (N := 3) (ref := "WallFractions$Fraction") rfl i_Fr 2 (by decide) rfl (by decide +kernel) rfl d_Wf_subtract_28 ?_
    refine lv_if_ne (tgt := 38) hx hb d_Wf_subtract_31 (by decide) (fun c9 => ?_) (fun c9 => ?_)
    · refine lv_iconst (v := nI 0) hx hb d_Wf_subtract_38 (by decide) ?_
      refine hw_ti (show _ = sB (!sg j2) from by rw [bool_ne0 c9]; rfl) ?_
      refine hw_cV (As := [.ref (fr j1), .ref (fr j2), .int (sB (!sg j2))]) (rest := []) S hI m_Rk_total w_403 (c_Rk_total l D t0 L _ _ o r fr ad al ab am ak ah aw ar rg wf x sg wt rs j1 j2 (!sg j2) hg hW hj1 hj2 h20) hW.Rk rfl hl.1 rfl rfl (Nat.le_of_ble_eq_true rfl) d_Wf_subtract_39 ⟨Nat.le_of_ble_eq_true rfl, Nat.le_of_ble_eq_true rfl⟩ ⟨Nat.le_of_ble_eq_true rfl, Nat.le_of_ble_eq_true rfl⟩ (fun v9 L9 f10 H locs hp hI => ?_)
      refine W.cs (cells' := 0) (slots' := 0) rfl rfl ?_
      obtain ⟨hv9, rfl, xx10, ss10, hW, e32, e33, g16, hs9, ht9, hF9⟩ := hp
      cases hv9
      refine hw_stk (st' := []) rfl ?_
      have hF := hF.trans hF9
      have hs := fun z (hz : z < 32) => (hs9 z hz).trans (hs z hz)
      have ht := fun z (hz : z < 16) => (ht9 z hz).trans (ht z hz)
      have p32 := e32
      have p33 := e33
      have p16 := g16
      refine lv_aload_n hx hb d_Wf_subtract_42 rfl (lv_at hl 0 rfl) ?_
      refine ob_get S hI hW.Wf (C := R_Wf) (T := F_Wf) (N := 3) (ref := "WallFractions") rfl i_Wf 1 (by decide) rfl w_187 rfl d_Wf_subtract_43 ?_
      refine hw_cV (As := []) (rest := []) S hI m_Rk_reduce w_430 (c_Rk_reduce l D t0 L _ _ o r fr ad al ab am ak ah aw ar rg wf xx10 ss10 wt rs  hg hW (by rw [e33]; exact Or.inr (hpos))) hW.Rk rfl hl.1 rfl rfl (Nat.le_of_ble_eq_true rfl) d_Wf_subtract_46 ⟨Nat.le_of_ble_eq_true rfl, Nat.le_of_ble_eq_true rfl⟩ ⟨Nat.le_of_ble_eq_true rfl, Nat.le_of_ble_eq_true rfl⟩ (fun v9 L9 f11 H locs hp hI => ?_)
      refine W.cs (cells' := 0) (slots' := 0) rfl rfl ?_
      obtain ⟨hv9, rfl, xx11, ss11, hW, e32, e33, g16, hs9, ht9, hF9⟩ := hp
      cases hv9
      refine hw_stk (st' := []) rfl ?_
      have hF := hF.trans hF9
      have hs := fun z (hz : z < 32) => (hs9 z hz).trans (hs z hz)
      have ht := fun z (hz : z < 16) => (ht9 z hz).trans (ht z hz)
      rw [p32, p33] at e32 e33
      rw [p32, p16] at g16
      simp only [r10, r11, r12, r20, r21, r22] at e32 e33 g16
      have h32 : xx11 32 = (addV (σ j1) (σ j2) (!(σ j2).2.2)).1 := e32
      have h33 : xx11 33 = (addV (σ j1) (σ j2) (!(σ j2).2.2)).2.1 := e33
      have h16 : ss11 16 = (addV (σ j1) (σ j2) (!(σ j2).2.2)).2.2 := g16
      refine lv_aload_n hx hb d_Wf_subtract_49 rfl (lv_at hl 0 rfl) ?_
      refine lv_iload_n hx hb d_Wf_subtract_50 rfl (lv_at hl 1 rfl) ?_
      by_cases hfit : FitX xx11
      · have hop2 := hop.trans (putR_yes ⟨by rw [← h32]; exact hfit.1, by rw [← h33]; exact hfit.2⟩)
        rw [ix_nI (by omega)] at hop2
        refine hw_cV (As := [.int (nI j0)]) (rest := []) S hI m_Wf_keep w_330 (c_Wf_keep_ok l D t0 L _ _ o r fr ad al ab am ak ah aw ar rg wf xx11 ss11 wt rs j0 hg hW (by omega) hfit) hW.Wf rfl hl.1 rfl rfl (Nat.le_of_ble_eq_true rfl) d_Wf_subtract_51 ⟨Nat.le_of_ble_eq_true rfl, Nat.le_of_ble_eq_true rfl⟩ ⟨Nat.le_of_ble_eq_true rfl, Nat.le_of_ble_eq_true rfl⟩ (fun v9 L9 f13 H locs hp hI => ?_)
        refine W.cs (cells' := 0) (slots' := 0) rfl rfl ?_
        obtain ⟨hv9, rfl, xk, sk, hW, k1, k2, hs9, g9, ht9, hF9⟩ := hp
        cases hv9
        refine hw_stk (st' := []) rfl ?_
        exact W.widen (k := 1) (n := 6) (Nat.le_of_ble_eq_true rfl) (Nat.le_of_ble_eq_true rfl) (vx_ret (hw_vret hx hb hr hlocks hI d_Wf_subtract_54 ⟨rfl, rfl, by rw [hop2], by rw [hop2]; exact ⟨xk, sk, rs, hW, hR.put hs ht (by omega) h32 h33 h16 k1 k2 hs9 g9 ht9⟩, hF.trans hF9⟩))
      · have hop2 := hop.trans (putR_no (fun h9 => hfit ⟨by rw [h32]; exact h9.1, by rw [h33]; exact h9.2⟩))
        refine hw_xV (As := [.int (nI j0)]) (rest := []) S hI m_Wf_keep w_330 (c_Wf_keep_bad l hlt D t0 L _ _ o r fr ad al ab am ak ah aw ar rg wf xx11 ss11 wt rs j0 hg hW (by omega) hfit) hW.Wf rfl hl.1 rfl rfl (Nat.le_of_ble_eq_true rfl) d_Wf_subtract_51 ⟨Nat.le_of_ble_eq_true rfl, Nat.le_of_ble_eq_true rfl⟩ ⟨Nat.le_of_ble_eq_true rfl, Nat.le_of_ble_eq_true rfl⟩ (fun v9 L9 f12 H locs hp hI => hp.elim) (fun E9 ce9 q9 L9 f12 H locs hp hI hc9 hv9 hl9 => ?_)
        obtain ⟨rfl, rfl, rfl⟩ := hp
        exact hw_on hI hout hlocks hc9 hv9 hl9 (⟨Or.inr (⟨rfl, by rw [hop2]⟩), rfl, ⟨xx11, ss11, rs, hW, hR.keep hs ht⟩, hF⟩) ⟨Nat.le_of_ble_eq_true rfl, Nat.le_of_ble_eq_true rfl⟩
    · refine lv_iconst (v := nI 1) hx hb d_Wf_subtract_34 (by decide) ?_
      refine lv_goto (tgt := 39) hx hb d_Wf_subtract_35 (by decide) ?_
      refine hw_ti (show _ = sB (!sg j2) from by rw [sB_z.mp c9]; rfl) ?_
      refine hw_cV (As := [.ref (fr j1), .ref (fr j2), .int (sB (!sg j2))]) (rest := []) S hI m_Rk_total w_403 (c_Rk_total l D t0 L _ _ o r fr ad al ab am ak ah aw ar rg wf x sg wt rs j1 j2 (!sg j2) hg hW hj1 hj2 h20) hW.Rk rfl hl.1 rfl rfl (Nat.le_of_ble_eq_true rfl) d_Wf_subtract_39 ⟨Nat.le_of_ble_eq_true rfl, Nat.le_of_ble_eq_true rfl⟩ ⟨Nat.le_of_ble_eq_true rfl, Nat.le_of_ble_eq_true rfl⟩ (fun v9 L9 f14 H locs hp hI => ?_)
      refine W.cs (cells' := 0) (slots' := 0) rfl rfl ?_
      obtain ⟨hv9, rfl, xx14, ss14, hW, e32, e33, g16, hs9, ht9, hF9⟩ := hp
      cases hv9
      refine hw_stk (st' := []) rfl ?_
      have hF := hF.trans hF9
      have hs := fun z (hz : z < 32) => (hs9 z hz).trans (hs z hz)
      have ht := fun z (hz : z < 16) => (ht9 z hz).trans (ht z hz)
      have p32 := e32
      have p33 := e33
      have p16 := g16
      refine lv_aload_n hx hb d_Wf_subtract_42 rfl (lv_at hl 0 rfl) ?_
      refine ob_get S hI hW.Wf (C := R_Wf) (T := F_Wf) (N := 3) (ref := "WallFractions") rfl i_Wf 1 (by decide) rfl w_187 rfl d_Wf_subtract_43 ?_
      refine hw_cV (As := []) (rest := []) S hI m_Rk_reduce w_430 (c_Rk_reduce l D t0 L _ _ o r fr ad al ab am ak ah aw ar rg wf xx14 ss14 wt rs  hg hW (by rw [e33]; exact Or.inr (hpos))) hW.Rk rfl hl.1 rfl rfl (Nat.le_of_ble_eq_true rfl) d_Wf_subtract_46 ⟨Nat.le_of_ble_eq_true rfl, Nat.le_of_ble_eq_true rfl⟩ ⟨Nat.le_of_ble_eq_true rfl, Nat.le_of_ble_eq_true rfl⟩ (fun v9 L9 f15 H locs hp hI => ?_)
      refine W.cs (cells' := 0) (slots' := 0) rfl rfl ?_
      obtain ⟨hv9, rfl, xx15, ss15, hW, e32, e33, g16, hs9, ht9, hF9⟩ := hp
      cases hv9
      refine hw_stk (st' := []) rfl ?_
      have hF := hF.trans hF9
      have hs := fun z (hz : z < 32) => (hs9 z hz).trans (hs z hz)
      have ht := fun z (hz : z < 16) => (ht9 z hz).trans (ht z hz)
      rw [p32, p33] at e32 e33
      rw [p32, p16] at g16
      simp only [r10, r11, r12, r20, r21, r22] at e32 e33 g16
      have h32 : xx15 32 = (addV (σ j1) (σ j2) (!(σ j2).2.2)).1 := e32
      have h33 : xx15 33 = (addV (σ j1) (σ j2) (!(σ j2).2.2)).2.1 := e33
      have h16 : ss15 16 = (addV (σ j1) (σ j2) (!(σ j2).2.2)).2.2 := g16
      refine lv_aload_n hx hb d_Wf_subtract_49 rfl (lv_at hl 0 rfl) ?_
      refine lv_iload_n hx hb d_Wf_subtract_50 rfl (lv_at hl 1 rfl) ?_
      by_cases hfit : FitX xx15
      · have hop2 := hop.trans (putR_yes ⟨by rw [← h32]; exact hfit.1, by rw [← h33]; exact hfit.2⟩)
        rw [ix_nI (by omega)] at hop2
        refine hw_cV (As := [.int (nI j0)]) (rest := []) S hI m_Wf_keep w_330 (c_Wf_keep_ok l D t0 L _ _ o r fr ad al ab am ak ah aw ar rg wf xx15 ss15 wt rs j0 hg hW (by omega) hfit) hW.Wf rfl hl.1 rfl rfl (Nat.le_of_ble_eq_true rfl) d_Wf_subtract_51 ⟨Nat.le_of_ble_eq_true rfl, Nat.le_of_ble_eq_true rfl⟩ ⟨Nat.le_of_ble_eq_true rfl, Nat.le_of_ble_eq_true rfl⟩ (fun v9 L9 f17 H locs hp hI => ?_)
        refine W.cs (cells' := 0) (slots' := 0) rfl rfl ?_
        obtain ⟨hv9, rfl, xk, sk, hW, k1, k2, hs9, g9, ht9, hF9⟩ := hp
        cases hv9
        refine hw_stk (st' := []) rfl ?_
        exact W.widen (k := 1) (n := 6) (Nat.le_of_ble_eq_true rfl) (Nat.le_of_ble_eq_true rfl) (vx_ret (hw_vret hx hb hr hlocks hI d_Wf_subtract_54 ⟨rfl, rfl, by rw [hop2], by rw [hop2]; exact ⟨xk, sk, rs, hW, hR.put hs ht (by omega) h32 h33 h16 k1 k2 hs9 g9 ht9⟩, hF.trans hF9⟩))
      · have hop2 := hop.trans (putR_no (fun h9 => hfit ⟨by rw [h32]; exact h9.1, by rw [h33]; exact h9.2⟩))
        refine hw_xV (As := [.int (nI j0)]) (rest := []) S hI m_Wf_keep w_330 (c_Wf_keep_bad l hlt D t0 L _ _ o r fr ad al ab am ak ah aw ar rg wf xx15 ss15 wt rs j0 hg hW (by omega) hfit) hW.Wf rfl hl.1 rfl rfl (Nat.le_of_ble_eq_true rfl) d_Wf_subtract_51 ⟨Nat.le_of_ble_eq_true rfl, Nat.le_of_ble_eq_true rfl⟩ ⟨Nat.le_of_ble_eq_true rfl, Nat.le_of_ble_eq_true rfl⟩ (fun v9 L9 f16 H locs hp hI => hp.elim) (fun E9 ce9 q9 L9 f16 H locs hp hI hc9 hv9 hl9 => ?_)
        obtain ⟨rfl, rfl, rfl⟩ := hp
        exact hw_on hI hout hlocks hc9 hv9 hl9 (⟨Or.inr (⟨rfl, by rw [hop2]⟩), rfl, ⟨xx15, ss15, rs, hW, hR.keep hs ht⟩, hF⟩) ⟨Nat.le_of_ble_eq_true rfl, Nat.le_of_ble_eq_true rfl⟩
set_option maxHeartbeats 4000000 in
set_option maxRecDepth 100000 in
theorem c_Wf_multiply (l : Launch) (hlt : l.stackTraces = false) (D : va_G) (t0 : Nat) (L : List Nat) (f : Nat → va_E) (sz : Nat) (o r fr : Nat → Nat) (ad al ab am ak ah aw ar rg wf : Nat) (σ : Sg) (wt : Nat → Nat) (i0 : Int32) (i1 : Int32) (i2 : Int32) (hg : Gl o r fr ad al ab am ak ah aw ar rg wf) (hS : Sd D L f o r fr ad al ab am ak ah aw ar rg wf σ wt) (hok : Ok σ wt) : vx_Met l y_Wf_multiply (Cond.code y_Wf_multiply b_Wf_multiply 4 none :: TT) ({ frames := 11, cells := 1, slots := 6, locals := 237 } : Room) (hw_Pc t0 [.ref (wf), .int (i0), .int (i1), .int (i2)] D L f sz) (hw_Q D L sz (fun oc L' f' => oc = .returned none ∧ L = L' ∧ (opMul σ i0 i1 i2).1 = 0 ∧ Sd D L f' o r fr ad al ab am ak ah aw ar rg wf (opMul σ i0 i1 i2).2 wt ∧ Fm o r fr ad al ab am ak ah aw ar rg wf f f')) (hw_X D L sz (fun E L' f' => ((E = "java/lang/IllegalArgumentException" ∧ (opMul σ i0 i1 i2).1 = 1) ∨ (E = "java/lang/IllegalStateException" ∧ (opMul σ i0 i1 i2).1 = 2)) ∧ L = L' ∧ Sd D L f' o r fr ad al ab am ak ah aw ar rg wf σ wt ∧ Fm o r fr ad al ab am ak ah aw ar rg wf f f')) 1 6 (hw_A L sz) := by
  refine vx_ofW (cc := b_Wf_multiply) (maxL := 4) (ret := none) (by decide) rfl ?_
  intro p e s m args below meth c s₁ B hml hout hv
  obtain ⟨rfl, rfl, hI⟩ := hw_start hv
  clear hv
  have hx := B.exec
  have hb := B.bytes
  have hr := B.returns
  have hlocks := B.notSynchronized
  have hown : s.vm.findClass "WallFractions" = some m.cls := findClass_of_methodNamed B.named
  have hT : ∀ w ∈ TT, w.before ([.ref (wf), .int (i0), .int (i1), .int (i2)]).toArray s = true := fun w h => atoms_spec (ws := (Cond.code y_Wf_multiply b_Wf_multiply 4 none :: TT)) B.pre w (List.mem_cons_of_mem _ h)
  have S : CallFix p m c b_Wf_multiply 4 s ([.ref (wf), .int (i0), .int (i1), .int (i2)]).toArray TT "WallFractions" := ⟨hx, hb, hml, hown, hT⟩
  have hl := lv_entry ([.ref (wf), .int (i0), .int (i1), .int (i2)]) (n := 4) (Nat.le_of_ble_eq_true rfl)
  rw [lg_entry_eq]
  generalize (lg_sl ([.ref (wf), .int (i0), .int (i1), .int (i2)]) ++ List.replicate (4 - (lg_sl ([.ref (wf), .int (i0), .int (i1), .int (i2)])).length) Slot.unset).toArray = ls at hl ⊢
  have hl : lv_has ls 4 [(0, .ref (wf)), (1, .int (i0)), (2, .int (i1)), (3, .int (i2))] := hl
  obtain ⟨x, sg, rs, hW, hR⟩ := hS
  have hY := hg.1
  have hF : Fm o r fr ad al ab am ak ah aw ar rg wf f f := Fm.refl
  have hs : ∀ z, z < 32 → x z = x z := fun _ _ => rfl
  have ht : ∀ k, k < 16 → sg k = sg k := fun _ _ => rfl
  have h20 := hok.h20 hR
  rcases hB0 : (vr i0 && vr i1 && vr i2) with _ | _
  · refine lv_iload_n hx hb d_Wf_multiply_0 rfl (lv_at hl 1 rfl) ?_
    refine lv_iload_n hx hb d_Wf_multiply_1 rfl (lv_at hl 2 rfl) ?_
    refine lv_iload_n hx hb d_Wf_multiply_2 rfl (lv_at hl 3 rfl) ?_
    have hop : opMul σ i0 i1 i2 = (1, σ) := by unfold opMul; exact if_neg (by simp [hB0])
    refine hw_xS (As := [.int (i0), .int (i1), .int (i2)]) (rest := []) S hI m_Wf_requireRegisters w_400 (c_Wf_requireRegisters_bad l hlt D t0 L _ _ i0 i1 i2 hB0) hl.1 rfl rfl (Nat.le_of_ble_eq_true rfl) d_Wf_multiply_3 ⟨Nat.le_of_ble_eq_true rfl, Nat.le_of_ble_eq_true rfl⟩ ⟨Nat.le_of_ble_eq_true rfl, Nat.le_of_ble_eq_true rfl⟩ (fun v9 L9 f18 H locs hp hI => hp.elim) (fun E9 ce9 q9 L9 f18 H locs hp hI hc9 hv9 hl9 => ?_)
    obtain ⟨rfl, rfl, rfl⟩ := hp
    exact hw_on hI hout hlocks hc9 hv9 hl9 (⟨Or.inl (⟨rfl, by rw [hop]⟩), rfl, ⟨x, sg, rs, hW, hR⟩, hF⟩) ⟨Nat.le_of_ble_eq_true rfl, Nat.le_of_ble_eq_true rfl⟩
  · simp only [Bool.and_eq_true] at hB0
    obtain ⟨⟨hB0, hB1⟩, hB2⟩ := hB0
    obtain ⟨j0, hj0, rfl⟩ := vr_of hB0
    obtain ⟨j1, hj1, rfl⟩ := vr_of hB1
    obtain ⟨j2, hj2, rfl⟩ := vr_of hB2
    refine lv_iload_n hx hb d_Wf_multiply_0 rfl (lv_at hl 1 rfl) ?_
    refine lv_iload_n hx hb d_Wf_multiply_1 rfl (lv_at hl 2 rfl) ?_
    refine lv_iload_n hx hb d_Wf_multiply_2 rfl (lv_at hl 3 rfl) ?_
    refine hw_cS (As := [.int (nI j0), .int (nI j1), .int (nI j2)]) (rest := []) S hI m_Wf_requireRegisters w_400 (c_Wf_requireRegisters_ok l D t0 L _ _ j0 j1 j2 hj0 hj1 hj2) hl.1 rfl rfl (Nat.le_of_ble_eq_true rfl) d_Wf_multiply_3 ⟨Nat.le_of_ble_eq_true rfl, Nat.le_of_ble_eq_true rfl⟩ ⟨Nat.le_of_ble_eq_true rfl, Nat.le_of_ble_eq_true rfl⟩ (fun v9 L9 f19 H locs hp hI => ?_)
    refine W.cs (cells' := 0) (slots' := 0) rfl rfl ?_
    obtain ⟨hv9, rfl, rfl⟩ := hp
    cases hv9
    refine hw_stk (st' := []) rfl ?_
    have r10 : x (2 * j1) = (σ j1).1 := (hR j1 hj1).1
    have r11 : x (2 * j1 + 1) = (σ j1).2.1 := (hR j1 hj1).2.1
    have r12 : sg j1 = (σ j1).2.2 := (hR j1 hj1).2.2
    have r20 : x (2 * j2) = (σ j2).1 := (hR j2 hj2).1
    have r21 : x (2 * j2 + 1) = (σ j2).2.1 := (hR j2 hj2).2.1
    have r22 : sg j2 = (σ j2).2.2 := (hR j2 hj2).2.2
    have hOk := fun k hk => hok.1 k hk
    have hop : opMul σ (nI j0) (nI j1) (nI j2) = putR 2 σ (nI j0) (lows ((σ j1).1 * (σ j2).1) ((σ j1).2.1 * (σ j2).2.1) ((σ j1).2.2 != (σ j2).2.2)) := by unfold opMul; rw [if_pos (by simp [hB0, hB1, hB2]), ix_nI (j := j1) (by omega), ix_nI (j := j2) (by omega)]
    have hpos : 0 < x (2 * j1 + 1) * x (2 * j2 + 1) := by rw [r11, r21]; exact Nat.mul_pos (hOk j1 hj1).2.2.1 (hOk j2 hj2).2.2.1
    refine lv_aload_n hx hb d_Wf_multiply_6 rfl (lv_at hl 0 rfl) ?_
    refine ob_get S hI hW.Wf (C := R_Wf) (T := F_Wf) (N := 3) (ref := "WallFractions") rfl i_Wf 1 (by decide) rfl w_187 rfl d_Wf_multiply_7 ?_
    refine lv_aload_n hx hb d_Wf_multiply_10 rfl (lv_at hl 0 rfl) ?_
    refine ob_get S hI hW.Wf (C := R_Wf) (T := F_Wf) (N := 3) (ref := "WallFractions") rfl i_Wf 0 (by decide) rfl w_186 rfl d_Wf_multiply_11 ?_
    refine lv_iload_n hx hb d_Wf_multiply_14 rfl (lv_at hl 2 rfl) ?_
    refine rg_ld S hI hW.Rg (by omega) d_Wf_multiply_15 ?_
    refine lv_aload_n hx hb d_Wf_multiply_16 rfl (lv_at hl 0 rfl) ?_
    refine ob_get S hI hW.Wf (C := R_Wf) (T := F_Wf) (N := 3) (ref := "WallFractions") rfl i_Wf 0 (by decide) rfl w_186 rfl d_Wf_multiply_17 ?_
    refine lv_iload_n hx hb d_Wf_multiply_20 rfl (lv_at hl 3 rfl) ?_
    refine rg_ld S hI hW.Rg (by omega) d_Wf_multiply_21 ?_
    refine ob_getN S hI (hW.Fr (by omega)) (C := R_Fr) (T := F_Fr) (N := 3) (ref := "WallFractions$Fraction") rfl i_Fr 0 (by decide) rfl (by decide +kernel) rfl d_Wf_multiply_22 ?_
    refine lv_aload_n hx hb d_Wf_multiply_25 rfl (lv_at hl 0 rfl) ?_
    refine ob_get S hI hW.Wf (C := R_Wf) (T := F_Wf) (N := 3) (ref := "WallFractions") rfl i_Wf 0 (by decide) rfl w_186 rfl d_Wf_multiply_26 ?_
    refine lv_iload_n hx hb d_Wf_multiply_29 rfl (lv_at hl 3 rfl) ?_
    refine rg_ld S hI hW.Rg (by omega) d_Wf_multiply_30 ?_
    refine ob_getN S hI (hW.Fr (by omega)) (C := R_Fr) (T := F_Fr) (N := 3) (ref := "WallFractions$Fraction") rfl i_Fr 1 (by decide) rfl (by decide +kernel) rfl d_Wf_multiply_31 ?_
    refine lv_aload_n hx hb d_Wf_multiply_34 rfl (lv_at hl 0 rfl) ?_
    refine ob_get S hI hW.Wf (C := R_Wf) (T := F_Wf) (N := 3) (ref := "WallFractions") rfl i_Wf 0 (by decide) rfl w_186 rfl d_Wf_multiply_35 ?_
    refine lv_iload_n hx hb d_Wf_multiply_38 rfl (lv_at hl 3 rfl) ?_
    refine rg_ld S hI hW.Rg (by omega) d_Wf_multiply_39 ?_
    refine ob_getN S hI (hW.Fr (by omega)) (C := R_Fr) (T := F_Fr) (N := 3) (ref := "WallFractions$Fraction") rfl i_Fr 2 (by decide) rfl (by decide +kernel) rfl d_Wf_multiply_40 ?_
    refine hw_cV (As := [.ref (fr j1), .ref (o (2 * j2)), .ref (o (2 * j2 + 1)), .int (sB (sg j2))]) (rest := []) S hI m_Rk_product w_536 (c_Rk_product l D t0 L _ _ o r fr ad al ab am ak ah aw ar rg wf x sg wt rs j1 (2 * j2) (2 * j2 + 1) (sg j2) hg hW hj1 (by omega) (by omega) (h20 _ (by omega)) (h20 _ (by omega)) (h20 _ (by omega)) (h20 _ (by omega))) hW.Rk rfl hl.1 rfl rfl (Nat.le_of_ble_eq_true rfl) d_Wf_multiply_43 ⟨Nat.le_of_ble_eq_true rfl, Nat.le_of_ble_eq_true rfl⟩ ⟨Nat.le_of_ble_eq_true rfl, Nat.le_of_ble_eq_true rfl⟩ (fun v9 L9 f20 H locs hp hI => ?_)
    refine W.cs (cells' := 0) (slots' := 0) rfl rfl ?_
    obtain ⟨hv9, rfl, xx20, ss20, hW, e32, e33, g16, hs9, ht9, hF9⟩ := hp
    cases hv9
    refine hw_stk (st' := []) rfl ?_
    have hF := hF.trans hF9
    have hs := fun z (hz : z < 32) => (hs9 z hz).trans (hs z hz)
    have ht := fun z (hz : z < 16) => (ht9 z hz).trans (ht z hz)
    have p32 := e32
    have p33 := e33
    have p16 := g16
    refine lv_aload_n hx hb d_Wf_multiply_46 rfl (lv_at hl 0 rfl) ?_
    refine ob_get S hI hW.Wf (C := R_Wf) (T := F_Wf) (N := 3) (ref := "WallFractions") rfl i_Wf 1 (by decide) rfl w_187 rfl d_Wf_multiply_47 ?_
    refine hw_cV (As := []) (rest := []) S hI m_Rk_reduce w_430 (c_Rk_reduce l D t0 L _ _ o r fr ad al ab am ak ah aw ar rg wf xx20 ss20 wt rs  hg hW (by rw [e33]; exact Or.inr (hpos))) hW.Rk rfl hl.1 rfl rfl (Nat.le_of_ble_eq_true rfl) d_Wf_multiply_50 ⟨Nat.le_of_ble_eq_true rfl, Nat.le_of_ble_eq_true rfl⟩ ⟨Nat.le_of_ble_eq_true rfl, Nat.le_of_ble_eq_true rfl⟩ (fun v9 L9 f21 H locs hp hI => ?_)
    refine W.cs (cells' := 0) (slots' := 0) rfl rfl ?_
    obtain ⟨hv9, rfl, xx21, ss21, hW, e32, e33, g16, hs9, ht9, hF9⟩ := hp
    cases hv9
    refine hw_stk (st' := []) rfl ?_
    have hF := hF.trans hF9
    have hs := fun z (hz : z < 32) => (hs9 z hz).trans (hs z hz)
    have ht := fun z (hz : z < 16) => (ht9 z hz).trans (ht z hz)
    rw [p32, p33] at e32 e33
    rw [p32, p16] at g16
    simp only [r10, r11, r12, r20, r21, r22] at e32 e33 g16
    have h32 : xx21 32 = (lows ((σ j1).1 * (σ j2).1) ((σ j1).2.1 * (σ j2).2.1) ((σ j1).2.2 != (σ j2).2.2)).1 := e32
    have h33 : xx21 33 = (lows ((σ j1).1 * (σ j2).1) ((σ j1).2.1 * (σ j2).2.1) ((σ j1).2.2 != (σ j2).2.2)).2.1 := e33
    have h16 : ss21 16 = (lows ((σ j1).1 * (σ j2).1) ((σ j1).2.1 * (σ j2).2.1) ((σ j1).2.2 != (σ j2).2.2)).2.2 := g16
    refine lv_aload_n hx hb d_Wf_multiply_53 rfl (lv_at hl 0 rfl) ?_
    refine lv_iload_n hx hb d_Wf_multiply_54 rfl (lv_at hl 1 rfl) ?_
    by_cases hfit : FitX xx21
    · have hop2 := hop.trans (putR_yes ⟨by rw [← h32]; exact hfit.1, by rw [← h33]; exact hfit.2⟩)
      rw [ix_nI (by omega)] at hop2
      refine hw_cV (As := [.int (nI j0)]) (rest := []) S hI m_Wf_keep w_330 (c_Wf_keep_ok l D t0 L _ _ o r fr ad al ab am ak ah aw ar rg wf xx21 ss21 wt rs j0 hg hW (by omega) hfit) hW.Wf rfl hl.1 rfl rfl (Nat.le_of_ble_eq_true rfl) d_Wf_multiply_55 ⟨Nat.le_of_ble_eq_true rfl, Nat.le_of_ble_eq_true rfl⟩ ⟨Nat.le_of_ble_eq_true rfl, Nat.le_of_ble_eq_true rfl⟩ (fun v9 L9 f23 H locs hp hI => ?_)
      refine W.cs (cells' := 0) (slots' := 0) rfl rfl ?_
      obtain ⟨hv9, rfl, xk, sk, hW, k1, k2, hs9, g9, ht9, hF9⟩ := hp
      cases hv9
      refine hw_stk (st' := []) rfl ?_
      exact W.widen (k := 1) (n := 6) (Nat.le_of_ble_eq_true rfl) (Nat.le_of_ble_eq_true rfl) (vx_ret (hw_vret hx hb hr hlocks hI d_Wf_multiply_58 ⟨rfl, rfl, by rw [hop2], by rw [hop2]; exact ⟨xk, sk, rs, hW, hR.put hs ht (by omega) h32 h33 h16 k1 k2 hs9 g9 ht9⟩, hF.trans hF9⟩))
    · have hop2 := hop.trans (putR_no (fun h9 => hfit ⟨by rw [h32]; exact h9.1, by rw [h33]; exact h9.2⟩))
      refine hw_xV (As := [.int (nI j0)]) (rest := []) S hI m_Wf_keep w_330 (c_Wf_keep_bad l hlt D t0 L _ _ o r fr ad al ab am ak ah aw ar rg wf xx21 ss21 wt rs j0 hg hW (by omega) hfit) hW.Wf rfl hl.1 rfl rfl (Nat.le_of_ble_eq_true rfl) d_Wf_multiply_55 ⟨Nat.le_of_ble_eq_true rfl, Nat.le_of_ble_eq_true rfl⟩ ⟨Nat.le_of_ble_eq_true rfl, Nat.le_of_ble_eq_true rfl⟩ (fun v9 L9 f22 H locs hp hI => hp.elim) (fun E9 ce9 q9 L9 f22 H locs hp hI hc9 hv9 hl9 => ?_)
      obtain ⟨rfl, rfl, rfl⟩ := hp
      exact hw_on hI hout hlocks hc9 hv9 hl9 (⟨Or.inr (⟨rfl, by rw [hop2]⟩), rfl, ⟨xx21, ss21, rs, hW, hR.keep hs ht⟩, hF⟩) ⟨Nat.le_of_ble_eq_true rfl, Nat.le_of_ble_eq_true rfl⟩
set_option maxHeartbeats 4000000 in
set_option maxRecDepth 100000 in
theorem c_Wf_divide (l : Launch) (hlt : l.stackTraces = false) (D : va_G) (t0 : Nat) (L : List Nat) (f : Nat → va_E) (sz : Nat) (o r fr : Nat → Nat) (ad al ab am ak ah aw ar rg wf : Nat) (σ : Sg) (wt : Nat → Nat) (i0 : Int32) (i1 : Int32) (i2 : Int32) (hg : Gl o r fr ad al ab am ak ah aw ar rg wf) (hS : Sd D L f o r fr ad al ab am ak ah aw ar rg wf σ wt) (hok : Ok σ wt) : vx_Met l y_Wf_divide (Cond.code y_Wf_divide b_Wf_divide 4 none :: TT) ({ frames := 11, cells := 1, slots := 6, locals := 237 } : Room) (hw_Pc t0 [.ref (wf), .int (i0), .int (i1), .int (i2)] D L f sz) (hw_Q D L sz (fun oc L' f' => oc = .returned none ∧ L = L' ∧ (opDiv σ i0 i1 i2).1 = 0 ∧ Sd D L f' o r fr ad al ab am ak ah aw ar rg wf (opDiv σ i0 i1 i2).2 wt ∧ Fm o r fr ad al ab am ak ah aw ar rg wf f f')) (hw_X D L sz (fun E L' f' => ((E = "java/lang/IllegalArgumentException" ∧ (opDiv σ i0 i1 i2).1 = 1) ∨ (E = "java/lang/ArithmeticException" ∧ (opDiv σ i0 i1 i2).1 = 2) ∨ (E = "java/lang/IllegalStateException" ∧ (opDiv σ i0 i1 i2).1 = 3)) ∧ L = L' ∧ Sd D L f' o r fr ad al ab am ak ah aw ar rg wf σ wt ∧ Fm o r fr ad al ab am ak ah aw ar rg wf f f')) 1 6 (hw_A L sz) := by
  refine vx_ofW (cc := b_Wf_divide) (maxL := 4) (ret := none) (by decide) rfl ?_
  intro p e s m args below meth c s₁ B hml hout hv
  obtain ⟨rfl, rfl, hI⟩ := hw_start hv
  clear hv
  have hx := B.exec
  have hb := B.bytes
  have hr := B.returns
  have hlocks := B.notSynchronized
  have hown : s.vm.findClass "WallFractions" = some m.cls := findClass_of_methodNamed B.named
  have hT : ∀ w ∈ TT, w.before ([.ref (wf), .int (i0), .int (i1), .int (i2)]).toArray s = true := fun w h => atoms_spec (ws := (Cond.code y_Wf_divide b_Wf_divide 4 none :: TT)) B.pre w (List.mem_cons_of_mem _ h)
  have S : CallFix p m c b_Wf_divide 4 s ([.ref (wf), .int (i0), .int (i1), .int (i2)]).toArray TT "WallFractions" := ⟨hx, hb, hml, hown, hT⟩
  have hl := lv_entry ([.ref (wf), .int (i0), .int (i1), .int (i2)]) (n := 4) (Nat.le_of_ble_eq_true rfl)
  rw [lg_entry_eq]
  generalize (lg_sl ([.ref (wf), .int (i0), .int (i1), .int (i2)]) ++ List.replicate (4 - (lg_sl ([.ref (wf), .int (i0), .int (i1), .int (i2)])).length) Slot.unset).toArray = ls at hl ⊢
  have hl : lv_has ls 4 [(0, .ref (wf)), (1, .int (i0)), (2, .int (i1)), (3, .int (i2))] := hl
  obtain ⟨x, sg, rs, hW, hR⟩ := hS
  have hY := hg.1
  have hF : Fm o r fr ad al ab am ak ah aw ar rg wf f f := Fm.refl
  have hs : ∀ z, z < 32 → x z = x z := fun _ _ => rfl
  have ht : ∀ k, k < 16 → sg k = sg k := fun _ _ => rfl
  have h20 := hok.h20 hR
  rcases hB0 : (vr i0 && vr i1 && vr i2) with _ | _
  · refine lv_iload_n hx hb d_Wf_divide_0 rfl (lv_at hl 1 rfl) ?_
    refine lv_iload_n hx hb d_Wf_divide_1 rfl (lv_at hl 2 rfl) ?_
    refine lv_iload_n hx hb d_Wf_divide_2 rfl (lv_at hl 3 rfl) ?_
    have hop : opDiv σ i0 i1 i2 = (1, σ) := by unfold opDiv; exact if_neg (by simp [hB0])
    refine hw_xS (As := [.int (i0), .int (i1), .int (i2)]) (rest := []) S hI m_Wf_requireRegisters w_400 (c_Wf_requireRegisters_bad l hlt D t0 L _ _ i0 i1 i2 hB0) hl.1 rfl rfl (Nat.le_of_ble_eq_true rfl) d_Wf_divide_3 ⟨Nat.le_of_ble_eq_true rfl, Nat.le_of_ble_eq_true rfl⟩ ⟨Nat.le_of_ble_eq_true rfl, Nat.le_of_ble_eq_true rfl⟩ (fun v9 L9 f24 H locs hp hI => hp.elim) (fun E9 ce9 q9 L9 f24 H locs hp hI hc9 hv9 hl9 => ?_)
    obtain ⟨rfl, rfl, rfl⟩ := hp
    exact hw_on hI hout hlocks hc9 hv9 hl9 (⟨Or.inl (⟨rfl, by rw [hop]⟩), rfl, ⟨x, sg, rs, hW, hR⟩, hF⟩) ⟨Nat.le_of_ble_eq_true rfl, Nat.le_of_ble_eq_true rfl⟩
  · simp only [Bool.and_eq_true] at hB0
    obtain ⟨⟨hB0, hB1⟩, hB2⟩ := hB0
    obtain ⟨j0, hj0, rfl⟩ := vr_of hB0
    obtain ⟨j1, hj1, rfl⟩ := vr_of hB1
    obtain ⟨j2, hj2, rfl⟩ := vr_of hB2
    refine lv_iload_n hx hb d_Wf_divide_0 rfl (lv_at hl 1 rfl) ?_
    refine lv_iload_n hx hb d_Wf_divide_1 rfl (lv_at hl 2 rfl) ?_
    refine lv_iload_n hx hb d_Wf_divide_2 rfl (lv_at hl 3 rfl) ?_
    refine hw_cS (As := [.int (nI j0), .int (nI j1), .int (nI j2)]) (rest := []) S hI m_Wf_requireRegisters w_400 (c_Wf_requireRegisters_ok l D t0 L _ _ j0 j1 j2 hj0 hj1 hj2) hl.1 rfl rfl (Nat.le_of_ble_eq_true rfl) d_Wf_divide_3 ⟨Nat.le_of_ble_eq_true rfl, Nat.le_of_ble_eq_true rfl⟩ ⟨Nat.le_of_ble_eq_true rfl, Nat.le_of_ble_eq_true rfl⟩ (fun v9 L9 f25 H locs hp hI => ?_)
    refine W.cs (cells' := 0) (slots' := 0) rfl rfl ?_
    obtain ⟨hv9, rfl, rfl⟩ := hp
    cases hv9
    refine hw_stk (st' := []) rfl ?_
    have r10 : x (2 * j1) = (σ j1).1 := (hR j1 hj1).1
    have r11 : x (2 * j1 + 1) = (σ j1).2.1 := (hR j1 hj1).2.1
    have r12 : sg j1 = (σ j1).2.2 := (hR j1 hj1).2.2
    have r20 : x (2 * j2) = (σ j2).1 := (hR j2 hj2).1
    have r21 : x (2 * j2 + 1) = (σ j2).2.1 := (hR j2 hj2).2.1
    have r22 : sg j2 = (σ j2).2.2 := (hR j2 hj2).2.2
    have hOk := fun k hk => hok.1 k hk
    have hop : opDiv σ (nI j0) (nI j1) (nI j2) = (if (σ j2).1 = 0 then (2, σ) else putR 3 σ (nI j0) (lows ((σ j1).1 * (σ j2).2.1) ((σ j1).2.1 * (σ j2).1) ((σ j1).2.2 != (σ j2).2.2))) := by unfold opDiv; rw [if_pos (by simp [hB0, hB1, hB2]), ix_nI (j := j1) (by omega), ix_nI (j := j2) (by omega)]
    refine lv_aload_n hx hb d_Wf_divide_6 rfl (lv_at hl 0 rfl) ?_
    refine ob_get S hI hW.Wf (C := R_Wf) (T := F_Wf) (N := 3) (ref := "WallFractions") rfl i_Wf 0 (by decide) rfl w_186 rfl d_Wf_divide_7 ?_
    refine lv_iload_n hx hb d_Wf_divide_10 rfl (lv_at hl 3 rfl) ?_
    refine rg_ld S hI hW.Rg (by omega) d_Wf_divide_11 ?_
    refine ob_getN S hI (hW.Fr (by omega)) (C := R_Fr) (T := F_Fr) (N := 3) (ref := "WallFractions$Fraction") rfl i_Fr 0 (by decide) rfl (by decide +kernel) rfl d_Wf_divide_12 ?_
    refine hw_cV (As := []) (rest := []) S hI m_Wh_isZero w_547 (c_Wh_isZero l D t0 L _ _ o r 46 x (2 * j2) (by omega) hY hW.N) (hW.rc (i := (2 * j2)) (by omega)).choose_spec rfl hl.1 rfl rfl (Nat.le_of_ble_eq_true rfl) d_Wf_divide_15 ⟨Nat.le_of_ble_eq_true rfl, Nat.le_of_ble_eq_true rfl⟩ ⟨Nat.le_of_ble_eq_true rfl, Nat.le_of_ble_eq_true rfl⟩ (fun v9 L9 f26 H locs hp hI => ?_)
    refine W.cs (cells' := 0) (slots' := 0) rfl rfl ?_
    obtain ⟨hv9, rfl, rfl⟩ := hp
    cases hv9
    refine hw_stk (st' := [.int (if x (2 * j2) = 0 then nI 1 else nI 0)]) rfl ?_
    by_cases hz : x (2 * j2) = 0
    · refine hw_ti (show _ = nI 1 from if_pos hz) ?_
      refine hw_if_eq (tgt := 31) hx hb d_Wf_divide_18 (by decide) (by omega) (fun c27 => ?_) (fun c27 => ?_)
      · exact absurd c27 (by decide)
      · rw [if_pos (by rw [← r20]; exact hz)] at hop
        exact hw_thr S hI hlt hout hlocks (text := "b is 0") thr_2 (by decide) w_283 w_13 hl.1 d_Wf_divide_21 d_Wf_divide_24 d_Wf_divide_25 d_Wf_divide_27 d_Wf_divide_30 (Nat.le_of_ble_eq_true rfl) (Nat.le_of_ble_eq_true rfl) ⟨Nat.le_of_ble_eq_true rfl, Nat.le_of_ble_eq_true rfl⟩ ⟨Nat.le_of_ble_eq_true rfl, Nat.le_of_ble_eq_true rfl⟩ (⟨Or.inr (Or.inl (⟨rfl, by rw [hop]⟩)), rfl, ⟨x, sg, rs, hW, hR⟩, hF⟩)
    · refine hw_ti (show _ = nI 0 from if_neg hz) ?_
      refine hw_if_eq (tgt := 31) hx hb d_Wf_divide_18 (by decide) (by omega) (fun c28 => ?_) (fun c28 => ?_)
      · rw [if_neg (by rw [← r20]; exact hz)] at hop
        have hpos : 0 < x (2 * j1 + 1) * x (2 * j2) := Nat.mul_pos (by rw [r11]; exact (hOk j1 hj1).2.2.1) (by omega)
        refine lv_aload_n hx hb d_Wf_divide_31 rfl (lv_at hl 0 rfl) ?_
        refine ob_get S hI hW.Wf (C := R_Wf) (T := F_Wf) (N := 3) (ref := "WallFractions") rfl i_Wf 1 (by decide) rfl w_187 rfl d_Wf_divide_32 ?_
        refine lv_aload_n hx hb d_Wf_divide_35 rfl (lv_at hl 0 rfl) ?_
        refine ob_get S hI hW.Wf (C := R_Wf) (T := F_Wf) (N := 3) (ref := "WallFractions") rfl i_Wf 0 (by decide) rfl w_186 rfl d_Wf_divide_36 ?_
        refine lv_iload_n hx hb d_Wf_divide_39 rfl (lv_at hl 2 rfl) ?_
        refine rg_ld S hI hW.Rg (by omega) d_Wf_divide_40 ?_
        refine lv_aload_n hx hb d_Wf_divide_41 rfl (lv_at hl 0 rfl) ?_
        refine ob_get S hI hW.Wf (C := R_Wf) (T := F_Wf) (N := 3) (ref := "WallFractions") rfl i_Wf 0 (by decide) rfl w_186 rfl d_Wf_divide_42 ?_
        refine lv_iload_n hx hb d_Wf_divide_45 rfl (lv_at hl 3 rfl) ?_
        refine rg_ld S hI hW.Rg (by omega) d_Wf_divide_46 ?_
        refine ob_getN S hI (hW.Fr (by omega)) (C := R_Fr) (T := F_Fr) (N := 3) (ref := "WallFractions$Fraction") rfl i_Fr 1 (by decide) rfl (by decide +kernel) rfl d_Wf_divide_47 ?_
        refine lv_aload_n hx hb d_Wf_divide_50 rfl (lv_at hl 0 rfl) ?_
        refine ob_get S hI hW.Wf (C := R_Wf) (T := F_Wf) (N := 3) (ref := "WallFractions") rfl i_Wf 0 (by decide) rfl w_186 rfl d_Wf_divide_51 ?_
        refine lv_iload_n hx hb d_Wf_divide_54 rfl (lv_at hl 3 rfl) ?_
        refine rg_ld S hI hW.Rg (by omega) d_Wf_divide_55 ?_
        refine ob_getN S hI (hW.Fr (by omega)) (C := R_Fr) (T := F_Fr) (N := 3) (ref := "WallFractions$Fraction") rfl i_Fr 0 (by decide) rfl (by decide +kernel) rfl d_Wf_divide_56 ?_
        refine lv_aload_n hx hb d_Wf_divide_59 rfl (lv_at hl 0 rfl) ?_
        refine ob_get S hI hW.Wf (C := R_Wf) (T := F_Wf) (N := 3) (ref := "WallFractions") rfl i_Wf 0 (by decide) rfl w_186 rfl d_Wf_divide_60 ?_
        refine lv_iload_n hx hb d_Wf_divide_63 rfl (lv_at hl 3 rfl) ?_
        refine rg_ld S hI hW.Rg (by omega) d_Wf_divide_64 ?_
        refine ob_getN S hI (hW.Fr (by omega)) (C := R_Fr) (T := F_Fr) (N := 3) (ref := "WallFractions$Fraction") rfl i_Fr 2 (by decide) rfl (by decide +kernel) rfl d_Wf_divide_65 ?_
        refine hw_cV (As := [.ref (fr j1), .ref (o (2 * j2 + 1)), .ref (o (2 * j2)), .int (sB (sg j2))]) (rest := []) S hI m_Rk_product w_536 (c_Rk_product l D t0 L _ _ o r fr ad al ab am ak ah aw ar rg wf x sg wt rs j1 (2 * j2 + 1) (2 * j2) (sg j2) hg hW hj1 (by omega) (by omega) (h20 _ (by omega)) (h20 _ (by omega)) (h20 _ (by omega)) (h20 _ (by omega))) hW.Rk rfl hl.1 rfl rfl (Nat.le_of_ble_eq_true rfl) d_Wf_divide_68 ⟨Nat.le_of_ble_eq_true rfl, Nat.le_of_ble_eq_true rfl⟩ ⟨Nat.le_of_ble_eq_true rfl, Nat.le_of_ble_eq_true rfl⟩ (fun v9 L9 f29 H locs hp hI => ?_)
        refine W.cs (cells' := 0) (slots' := 0) rfl rfl ?_
        obtain ⟨hv9, rfl, xx29, ss29, hW, e32, e33, g16, hs9, ht9, hF9⟩ := hp
        cases hv9
        refine hw_stk (st' := []) rfl ?_
        have hF := hF.trans hF9
        have hs := fun z (hz : z < 32) => (hs9 z hz).trans (hs z hz)
        have ht := fun z (hz : z < 16) => (ht9 z hz).trans (ht z hz)
        have p32 := e32
        have p33 := e33
        have p16 := g16
        refine lv_aload_n hx hb d_Wf_divide_71 rfl (lv_at hl 0 rfl) ?_
        refine ob_get S hI hW.Wf (C := R_Wf) (T := F_Wf) (N := 3) (ref := "WallFractions") rfl i_Wf 1 (by decide) rfl w_187 rfl d_Wf_divide_72 ?_
        refine hw_cV (As := []) (rest := []) S hI m_Rk_reduce w_430 (c_Rk_reduce l D t0 L _ _ o r fr ad al ab am ak ah aw ar rg wf xx29 ss29 wt rs  hg hW (by rw [e33]; exact Or.inr (hpos))) hW.Rk rfl hl.1 rfl rfl (Nat.le_of_ble_eq_true rfl) d_Wf_divide_75 ⟨Nat.le_of_ble_eq_true rfl, Nat.le_of_ble_eq_true rfl⟩ ⟨Nat.le_of_ble_eq_true rfl, Nat.le_of_ble_eq_true rfl⟩ (fun v9 L9 f30 H locs hp hI => ?_)
        refine W.cs (cells' := 0) (slots' := 0) rfl rfl ?_
        obtain ⟨hv9, rfl, xx30, ss30, hW, e32, e33, g16, hs9, ht9, hF9⟩ := hp
        cases hv9
        refine hw_stk (st' := []) rfl ?_
        have hF := hF.trans hF9
        have hs := fun z (hz : z < 32) => (hs9 z hz).trans (hs z hz)
        have ht := fun z (hz : z < 16) => (ht9 z hz).trans (ht z hz)
        rw [p32, p33] at e32 e33
        rw [p32, p16] at g16
        simp only [r10, r11, r12, r20, r21, r22] at e32 e33 g16
        have h32 : xx30 32 = (lows ((σ j1).1 * (σ j2).2.1) ((σ j1).2.1 * (σ j2).1) ((σ j1).2.2 != (σ j2).2.2)).1 := e32
        have h33 : xx30 33 = (lows ((σ j1).1 * (σ j2).2.1) ((σ j1).2.1 * (σ j2).1) ((σ j1).2.2 != (σ j2).2.2)).2.1 := e33
        have h16 : ss30 16 = (lows ((σ j1).1 * (σ j2).2.1) ((σ j1).2.1 * (σ j2).1) ((σ j1).2.2 != (σ j2).2.2)).2.2 := g16
        refine lv_aload_n hx hb d_Wf_divide_78 rfl (lv_at hl 0 rfl) ?_
        refine lv_iload_n hx hb d_Wf_divide_79 rfl (lv_at hl 1 rfl) ?_
        by_cases hfit : FitX xx30
        · have hop2 := hop.trans (putR_yes ⟨by rw [← h32]; exact hfit.1, by rw [← h33]; exact hfit.2⟩)
          rw [ix_nI (by omega)] at hop2
          refine hw_cV (As := [.int (nI j0)]) (rest := []) S hI m_Wf_keep w_330 (c_Wf_keep_ok l D t0 L _ _ o r fr ad al ab am ak ah aw ar rg wf xx30 ss30 wt rs j0 hg hW (by omega) hfit) hW.Wf rfl hl.1 rfl rfl (Nat.le_of_ble_eq_true rfl) d_Wf_divide_80 ⟨Nat.le_of_ble_eq_true rfl, Nat.le_of_ble_eq_true rfl⟩ ⟨Nat.le_of_ble_eq_true rfl, Nat.le_of_ble_eq_true rfl⟩ (fun v9 L9 f32 H locs hp hI => ?_)
          refine W.cs (cells' := 0) (slots' := 0) rfl rfl ?_
          obtain ⟨hv9, rfl, xk, sk, hW, k1, k2, hs9, g9, ht9, hF9⟩ := hp
          cases hv9
          refine hw_stk (st' := []) rfl ?_
          exact W.widen (k := 1) (n := 6) (Nat.le_of_ble_eq_true rfl) (Nat.le_of_ble_eq_true rfl) (vx_ret (hw_vret hx hb hr hlocks hI d_Wf_divide_83 ⟨rfl, rfl, by rw [hop2], by rw [hop2]; exact ⟨xk, sk, rs, hW, hR.put hs ht (by omega) h32 h33 h16 k1 k2 hs9 g9 ht9⟩, hF.trans hF9⟩))
        · have hop2 := hop.trans (putR_no (fun h9 => hfit ⟨by rw [h32]; exact h9.1, by rw [h33]; exact h9.2⟩))
          refine hw_xV (As := [.int (nI j0)]) (rest := []) S hI m_Wf_keep w_330 (c_Wf_keep_bad l hlt D t0 L _ _ o r fr ad al ab am ak ah aw ar rg wf xx30 ss30 wt rs j0 hg hW (by omega) hfit) hW.Wf rfl hl.1 rfl rfl (Nat.le_of_ble_eq_true rfl) d_Wf_divide_80 ⟨Nat.le_of_ble_eq_true rfl, Nat.le_of_ble_eq_true rfl⟩ ⟨Nat.le_of_ble_eq_true rfl, Nat.le_of_ble_eq_true rfl⟩ (fun v9 L9 f31 H locs hp hI => hp.elim) (fun E9 ce9 q9 L9 f31 H locs hp hI hc9 hv9 hl9 => ?_)
          obtain ⟨rfl, rfl, rfl⟩ := hp
          exact hw_on hI hout hlocks hc9 hv9 hl9 (⟨Or.inr (Or.inr (⟨rfl, by rw [hop2]⟩)), rfl, ⟨xx30, ss30, rs, hW, hR.keep hs ht⟩, hF⟩) ⟨Nat.le_of_ble_eq_true rfl, Nat.le_of_ble_eq_true rfl⟩
      · exact absurd rfl c28

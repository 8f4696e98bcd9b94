def ordF (a b c d : Nat) (s t : Bool) : Int32 := if s = t then (if s then cmpN (c * b) (a * d) else cmpN (a * d) (c * b)) else if s then -1 else 1
theorem bool_ne0 {b : Bool} (h : ¬ sB b = 0) : b = true := by cases b; exact absurd rfl h; rfl
theorem rtS {p q : Int} {P Q : Bool} : True := trivial
def ratS (p q : Int) : Bool := decide (p ≠ 0) && (decide (p < 0) != decide (q < 0))
set_option maxHeartbeats 4000000 in
set_option maxRecDepth 100000 in
theorem c_Rk_order (l : Launch) (D : va_G) (t0 : Nat) (L : List Nat) (f : Nat → va_E) (sz : Nat) (o r fr : Nat → Nat) (ad al ab am ak ah aw ar rg wf : Nat) (x : Nat → Nat) (sg : Nat → Bool) (wt rs : Nat → Nat) (a b : Nat) (hg : Gl o r fr ad al ab am ak ah aw ar rg wf) (hW : Wd D L f o r fr ad al ab am ak ah aw ar rg wf x sg wt rs) (ha : a < 16) (hb0 : b < 16) (h20 : ∀ z, z < 32 → x z < nB ^ 20) : Met l y_Rk_order (Cond.code y_Rk_order b_Rk_order 3 (some .int) :: TT) ({ frames := 8, cells := 0, slots := 0, locals := 161 } : Room) (hw_Pc t0 [.ref (ak), .ref (fr a), .ref (fr b)] D L f sz) (hw_Q D L sz (fun oc L' f' => oc = .returned (some (.int (ordF (x (2 * a)) (x (2 * a + 1)) (x (2 * b)) (x (2 * b + 1)) (sg a) (sg b)))) ∧ L = L' ∧ ∃ x', Wd D L f' o r fr ad al ab am ak ah aw ar rg wf x' sg wt rs ∧ (∀ z, z < 32 → x' z = x z) ∧ Fm o r fr ad al ab am ak ah aw ar rg wf f f')) 0 0 (hw_A L sz) := by
  refine Met.ofW (cc := b_Rk_order) (maxL := 3) (ret := (some .int)) (by decide) rfl ?_
  intro p e s m args below meth c s₁ B hml hv
  obtain ⟨rfl, rfl, hI⟩ := hw_start hv
  clear hv
  have hx := B.exec
  have hb := B.bytes
  have hr := B.returns
  have hlocks := B.notSynchronized
  have hown : s.vm.findClass "WallFractions$Reckoner" = some m.cls := findClass_of_methodNamed B.named
  have hT : ∀ w ∈ TT, w.before ([.ref (ak), .ref (fr a), .ref (fr b)]).toArray s = true := fun w h => atoms_spec (ws := (Cond.code y_Rk_order b_Rk_order 3 (some .int) :: TT)) B.pre w (List.mem_cons_of_mem _ h)
  have S : CallFix p m c b_Rk_order 3 s ([.ref (ak), .ref (fr a), .ref (fr b)]).toArray TT "WallFractions$Reckoner" := ⟨hx, hb, hml, hown, hT⟩
  have hl := lv_entry ([.ref (ak), .ref (fr a), .ref (fr b)]) (n := 3) (Nat.le_of_ble_eq_true rfl)
  rw [lg_entry_eq]
  generalize (lg_sl ([.ref (ak), .ref (fr a), .ref (fr b)]) ++ List.replicate (3 - (lg_sl ([.ref (ak), .ref (fr a), .ref (fr b)])).length) Slot.unset).toArray = ls at hl ⊢
  have hl : lv_has ls 3 [(0, .ref (ak)), (1, .ref (fr a)), (2, .ref (fr b))] := hl
  skip
  have hY := hg.1
  have hF : Fm o r fr ad al ab am ak ah aw ar rg wf f f := Fm.refl
  have hs : ∀ z, z < 32 → x z = x z := fun _ _ => rfl
  have ht : ∀ k, k < 16 → sg k = sg k := fun _ _ => rfl
  obtain ⟨l0, hl0⟩ : ∃ l0, l0 = x (2 * a) * x (2 * b + 1) := ⟨_, rfl⟩
  obtain ⟨r0, hr0⟩ : ∃ r0, r0 = x (2 * b) * x (2 * a + 1) := ⟨_, rfl⟩
  refine lv_aload_n hx hb d_Rk_order_0 rfl (lv_at hl 1 rfl) ?_
  refine ob_getN S hI (hW.Fr (by omega)) (C := R_Fr) (T := F_Fr) (N := 3) (ref := "WallFractions$Fraction") rfl i_Fr 2 (by decide) rfl (by decide +kernel) rfl d_Rk_order_1 ?_
  refine lv_aload_n hx hb d_Rk_order_4 rfl (lv_at hl 2 rfl) ?_
  refine ob_getN S hI (hW.Fr (by omega)) (C := R_Fr) (T := F_Fr) (N := 3) (ref := "WallFractions$Fraction") rfl i_Fr 2 (by decide) rfl (by decide +kernel) rfl d_Rk_order_5 ?_
  refine lv_icmp_eq (tgt := 24) hx hb d_Rk_order_8 (by decide) (fun c1 => ?_) (fun c1 => ?_)
  · have heq : sg a = sg b := sB_inj.mp c1
    refine lv_aload_n hx hb d_Rk_order_24 rfl (lv_at hl 0 rfl) ?_
    refine ob_get S hI hW.Rk (C := R_Rk) (T := F_Rk) (N := 7) (ref := "WallFractions$Reckoner") rfl i_Rk 3 (by decide) rfl w_136 rfl d_Rk_order_25 ?_
    refine lv_aload_n hx hb d_Rk_order_28 rfl (lv_at hl 1 rfl) ?_
    refine ob_getN S hI (hW.Fr (by omega)) (C := R_Fr) (T := F_Fr) (N := 3) (ref := "WallFractions$Fraction") rfl i_Fr 0 (by decide) rfl (by decide +kernel) rfl d_Rk_order_29 ?_
    refine lv_aload_n hx hb d_Rk_order_32 rfl (lv_at hl 2 rfl) ?_
    refine ob_getN S hI (hW.Fr (by omega)) (C := R_Fr) (T := F_Fr) (N := 3) (ref := "WallFractions$Fraction") rfl i_Fr 1 (by decide) rfl (by decide +kernel) rfl d_Rk_order_33 ?_
    have q1 := hs (2 * a) (by omega)
    have q2 := hs (2 * b + 1) (by omega)
    refine hw_cV (As := [.ref (o (2 * a)), .ref (o (2 * b + 1))]) (rest := []) S hI m_Wh_becomeProduct w_407 (c_Wh_becomeProduct l D t0 L _ _ o r 46 x 34 (2 * a) (2 * b + 1) 20 20 (by omega) hY hW.N (by omega) (by omega) (by omega) (by omega) (by rw [q1]; exact h20 _ (by omega)) (by rw [q2]; exact h20 _ (by omega)) (by decide)) (hW.rc (i := 34) (by omega)).choose_spec rfl hl.1 rfl rfl (Nat.le_of_ble_eq_true rfl) d_Rk_order_36 ⟨Nat.le_of_ble_eq_true rfl, Nat.le_of_ble_eq_true rfl⟩ ⟨Nat.le_of_ble_eq_true rfl, Nat.le_of_ble_eq_true rfl⟩ (fun v9 L9 f3 H locs hp hI => ?_)
    refine W.cs (cells' := 0) (slots' := 0) rfl rfl ?_
    obtain ⟨hv9, rfl, hN9, hf9⟩ := hp
    cases hv9
    refine hw_stk (st' := []) rfl ?_
    have hF := hF.wh (fun q h9 _ _ _ => hf9 q (h9 34 (by omega)).1 (h9 34 (by omega)).2)
    obtain ⟨x3, hW, e9, s9⟩ := (hW.wh hN9 (fun q h9 => hf9 q (h9 34 (by omega)).1 (h9 34 (by omega)).2)).cut
    have n9 : x3 34 = l0 := by rw [e9, q1, q2, ← hl0]
    have e34 : x3 34 = l0 := n9
    have hs := fun z (hz : z < 32) => (s9 z (by omega)).trans (hs z hz)
    refine lv_aload_n hx hb d_Rk_order_39 rfl (lv_at hl 0 rfl) ?_
    refine ob_get S hI hW.Rk (C := R_Rk) (T := F_Rk) (N := 7) (ref := "WallFractions$Reckoner") rfl i_Rk 4 (by decide) rfl w_137 rfl d_Rk_order_40 ?_
    refine lv_aload_n hx hb d_Rk_order_43 rfl (lv_at hl 2 rfl) ?_
    refine ob_getN S hI (hW.Fr (by omega)) (C := R_Fr) (T := F_Fr) (N := 3) (ref := "WallFractions$Fraction") rfl i_Fr 0 (by decide) rfl (by decide +kernel) rfl d_Rk_order_44 ?_
    refine lv_aload_n hx hb d_Rk_order_47 rfl (lv_at hl 1 rfl) ?_
    refine ob_getN S hI (hW.Fr (by omega)) (C := R_Fr) (T := F_Fr) (N := 3) (ref := "WallFractions$Fraction") rfl i_Fr 1 (by decide) rfl (by decide +kernel) rfl d_Rk_order_48 ?_
    have q1 := hs (2 * b) (by omega)
    have q2 := hs (2 * a + 1) (by omega)
    refine hw_cV (As := [.ref (o (2 * b)), .ref (o (2 * a + 1))]) (rest := []) S hI m_Wh_becomeProduct w_407 (c_Wh_becomeProduct l D t0 L _ _ o r 46 x3 35 (2 * b) (2 * a + 1) 20 20 (by omega) hY hW.N (by omega) (by omega) (by omega) (by omega) (by rw [q1]; exact h20 _ (by omega)) (by rw [q2]; exact h20 _ (by omega)) (by decide)) (hW.rc (i := 35) (by omega)).choose_spec rfl hl.1 rfl rfl (Nat.le_of_ble_eq_true rfl) d_Rk_order_51 ⟨Nat.le_of_ble_eq_true rfl, Nat.le_of_ble_eq_true rfl⟩ ⟨Nat.le_of_ble_eq_true rfl, Nat.le_of_ble_eq_true rfl⟩ (fun v9 L9 f4 H locs hp hI => ?_)
    refine W.cs (cells' := 0) (slots' := 0) rfl rfl ?_
    obtain ⟨hv9, rfl, hN9, hf9⟩ := hp
    cases hv9
    refine hw_stk (st' := []) rfl ?_
    have hF := hF.wh (fun q h9 _ _ _ => hf9 q (h9 35 (by omega)).1 (h9 35 (by omega)).2)
    obtain ⟨x4, hW, e9, s9⟩ := (hW.wh hN9 (fun q h9 => hf9 q (h9 35 (by omega)).1 (h9 35 (by omega)).2)).cut
    have n9 : x4 35 = r0 := by rw [e9, q1, q2, ← hr0]
    have e34 : x4 34 = l0 := (s9 34 (by omega)).trans e34
    have e35 : x4 35 = r0 := n9
    have hs := fun z (hz : z < 32) => (s9 z (by omega)).trans (hs z hz)
    refine lv_aload_n hx hb d_Rk_order_54 rfl (lv_at hl 1 rfl) ?_
    refine ob_getN S hI (hW.Fr (by omega)) (C := R_Fr) (T := F_Fr) (N := 3) (ref := "WallFractions$Fraction") rfl i_Fr 2 (by decide) rfl (by decide +kernel) rfl d_Rk_order_55 ?_
    refine lv_if_eq (tgt := 75) hx hb d_Rk_order_58 (by decide) (fun c5 => ?_) (fun c5 => ?_)
    · refine lv_aload_n hx hb d_Rk_order_75 rfl (lv_at hl 0 rfl) ?_
      refine ob_get S hI hW.Rk (C := R_Rk) (T := F_Rk) (N := 7) (ref := "WallFractions$Reckoner") rfl i_Rk 3 (by decide) rfl w_136 rfl d_Rk_order_76 ?_
      refine lv_aload_n hx hb d_Rk_order_79 rfl (lv_at hl 0 rfl) ?_
      refine ob_get S hI hW.Rk (C := R_Rk) (T := F_Rk) (N := 7) (ref := "WallFractions$Reckoner") rfl i_Rk 4 (by decide) rfl w_137 rfl d_Rk_order_80 ?_
      refine hw_cV (As := [.ref (o 35)]) (rest := []) S hI m_Wh_order w_422 (c_Wh_order l D t0 L _ _ o r 46 x4 34 35 (by omega) hY hW.N (by omega)) (hW.rc (i := 34) (by omega)).choose_spec rfl hl.1 rfl rfl (Nat.le_of_ble_eq_true rfl) d_Rk_order_83 ⟨Nat.le_of_ble_eq_true rfl, Nat.le_of_ble_eq_true rfl⟩ ⟨Nat.le_of_ble_eq_true rfl, Nat.le_of_ble_eq_true rfl⟩ (fun v9 L9 f6 H locs hp hI => ?_)
      refine W.cs (cells' := 0) (slots' := 0) rfl rfl ?_
      obtain ⟨hv9, rfl, rfl⟩ := hp
      cases hv9
      refine hw_stk (st' := [.int (cmpN (x4 34) (x4 35))]) rfl ?_
      exact hw_iret hx hb hr hlocks hI d_Rk_order_86 ⟨by unfold ordF; rw [if_pos heq, ← hl0, ← hr0, e34, e35, sB_z.mp c5]; rfl, rfl, x4, hW, hs, hF⟩
    · refine lv_aload_n hx hb d_Rk_order_61 rfl (lv_at hl 0 rfl) ?_
      refine ob_get S hI hW.Rk (C := R_Rk) (T := F_Rk) (N := 7) (ref := "WallFractions$Reckoner") rfl i_Rk 4 (by decide) rfl w_137 rfl d_Rk_order_62 ?_
      refine lv_aload_n hx hb d_Rk_order_65 rfl (lv_at hl 0 rfl) ?_
      refine ob_get S hI hW.Rk (C := R_Rk) (T := F_Rk) (N := 7) (ref := "WallFractions$Reckoner") rfl i_Rk 3 (by decide) rfl w_136 rfl d_Rk_order_66 ?_
      refine hw_cV (As := [.ref (o 34)]) (rest := []) S hI m_Wh_order w_422 (c_Wh_order l D t0 L _ _ o r 46 x4 35 34 (by omega) hY hW.N (by omega)) (hW.rc (i := 35) (by omega)).choose_spec rfl hl.1 rfl rfl (Nat.le_of_ble_eq_true rfl) d_Rk_order_69 ⟨Nat.le_of_ble_eq_true rfl, Nat.le_of_ble_eq_true rfl⟩ ⟨Nat.le_of_ble_eq_true rfl, Nat.le_of_ble_eq_true rfl⟩ (fun v9 L9 f7 H locs hp hI => ?_)
      refine W.cs (cells' := 0) (slots' := 0) rfl rfl ?_
      obtain ⟨hv9, rfl, rfl⟩ := hp
      cases hv9
      refine hw_stk (st' := [.int (cmpN (x4 35) (x4 34))]) rfl ?_
      refine lv_goto (tgt := 86) hx hb d_Rk_order_72 (by decide) ?_
      exact hw_iret hx hb hr hlocks hI d_Rk_order_86 ⟨by unfold ordF; rw [if_pos heq, ← hl0, ← hr0, e34, e35, bool_ne0 c5]; rfl, rfl, x4, hW, hs, hF⟩
  · have hne : sg a ≠ sg b := fun h => c1 (sB_inj.mpr h)
    refine lv_aload_n hx hb d_Rk_order_11 rfl (lv_at hl 1 rfl) ?_
    refine ob_getN S hI (hW.Fr (by omega)) (C := R_Fr) (T := F_Fr) (N := 3) (ref := "WallFractions$Fraction") rfl i_Fr 2 (by decide) rfl (by decide +kernel) rfl d_Rk_order_12 ?_
    refine lv_if_eq (tgt := 22) hx hb d_Rk_order_15 (by decide) (fun c2 => ?_) (fun c2 => ?_)
    · refine lv_iconst (v := nI 1) hx hb d_Rk_order_22 (by decide) ?_
      exact hw_iret hx hb hr hlocks hI d_Rk_order_23 ⟨by unfold ordF; rw [if_neg hne, sB_z.mp c2]; rfl, rfl, x, hW, hs, hF⟩
    · refine lv_iconst (v := -1) hx hb d_Rk_order_18 (by decide) ?_
      refine lv_goto (tgt := 23) hx hb d_Rk_order_19 (by decide) ?_
      exact hw_iret hx hb hr hlocks hI d_Rk_order_23 ⟨by unfold ordF; rw [if_neg hne, bool_ne0 c2]; rfl, rfl, x, hW, hs, hF⟩
set_option maxHeartbeats 4000000 in
set_option maxRecDepth 100000 in
theorem c_Rk_ratio (l : Launch) (D : va_G) (t0 : Nat) (L : List Nat) (f : Nat → va_E) (sz : Nat) (o r fr : Nat → Nat) (ad al ab am ak ah aw ar rg wf : Nat) (x : Nat → Nat) (sg : Nat → Bool) (wt rs : Nat → Nat) (p0 q0 : Int) (hg : Gl o r fr ad al ab am ak ah aw ar rg wf) (hW : Wd D L f o r fr ad al ab am ak ah aw ar rg wf x sg wt rs) (hp1 : -2 ^ 63 < p0) (hp2 : p0 < 2 ^ 63) (hq1 : -2 ^ 63 < q0) (hq2 : q0 < 2 ^ 63) (hq0 : q0 ≠ 0) : Met l y_Rk_ratio (Cond.code y_Rk_ratio b_Rk_ratio 7 none :: TT) ({ frames := 6, cells := 0, slots := 0, locals := 110 } : Room) (hw_Pc t0 [.ref (ak), .long (zL p0), .long (zL q0)] D L f sz) (hw_Q D L sz (fun oc L' f' => oc = .returned none ∧ L = L' ∧ ∃ x' sg', Wd D L f' o r fr ad al ab am ak ah aw ar rg wf x' sg' wt rs ∧ x' 32 = p0.natAbs / Nat.gcd p0.natAbs q0.natAbs ∧ x' 33 = q0.natAbs / Nat.gcd p0.natAbs q0.natAbs ∧ sg' 16 = ratS p0 q0 ∧ (∀ z, z < 32 → x' z = x z) ∧ (∀ k, k < 16 → sg' k = sg k) ∧ Fm o r fr ad al ab am ak ah aw ar rg wf f f')) 0 0 (hw_A L sz) := by
  refine Met.ofW (cc := b_Rk_ratio) (maxL := 7) (ret := none) (by decide) rfl ?_
  intro p e s m args below meth c s₁ B hml hv
  obtain ⟨rfl, rfl, hI⟩ := hw_start hv
  clear hv
  have hx := B.exec
  have hb := B.bytes
  have hr := B.returns
  have hlocks := B.notSynchronized
  have hown : s.vm.findClass "WallFractions$Reckoner" = some m.cls := findClass_of_methodNamed B.named
  have hT : ∀ w ∈ TT, w.before ([.ref (ak), .long (zL p0), .long (zL q0)]).toArray s = true := fun w h => atoms_spec (ws := (Cond.code y_Rk_ratio b_Rk_ratio 7 none :: TT)) B.pre w (List.mem_cons_of_mem _ h)
  have S : CallFix p m c b_Rk_ratio 7 s ([.ref (ak), .long (zL p0), .long (zL q0)]).toArray TT "WallFractions$Reckoner" := ⟨hx, hb, hml, hown, hT⟩
  have hl := lv_entry ([.ref (ak), .long (zL p0), .long (zL q0)]) (n := 7) (Nat.le_of_ble_eq_true rfl)
  rw [lg_entry_eq]
  generalize (lg_sl ([.ref (ak), .long (zL p0), .long (zL q0)]) ++ List.replicate (7 - (lg_sl ([.ref (ak), .long (zL p0), .long (zL q0)])).length) Slot.unset).toArray = ls at hl ⊢
  have hl : lv_has ls 7 [(0, .ref (ak)), (1, .long (zL p0)), (3, .long (zL q0))] := hl
  skip
  have hY := hg.1
  have hF : Fm o r fr ad al ab am ak ah aw ar rg wf f f := Fm.refl
  have hs : ∀ z, z < 32 → x z = x z := fun _ _ => rfl
  have ht : ∀ k, k < 16 → sg k = sg k := fun _ _ => rfl
  obtain ⟨g, hgg⟩ : ∃ g, g = Nat.gcd p0.natAbs q0.natAbs := ⟨_, rfl⟩
  have hgp : 0 < g := by rw [hgg]; exact gpos (Or.inr (by omega))
  have hgl : g ≤ q0.natAbs := by rw [hgg]; exact Nat.gcd_le_right _ (by omega)
  have hpa : p0.natAbs < 2 ^ 63 := by omega
  have hqa : q0.natAbs < 2 ^ 63 := by omega
  have hd1 : p0.natAbs / g < 2 ^ 63 := Nat.lt_of_le_of_lt (Nat.div_le_self _ _) hpa
  have hd2 : q0.natAbs / g < 2 ^ 63 := Nat.lt_of_le_of_lt (Nat.div_le_self _ _) hqa
  refine lv_lload_n hx hb d_Rk_ratio_0 rfl (lv_at hl 1 rfl) ?_
  refine hw_cS (As := [.long (zL p0)]) (rest := []) S hI m_Mt_abs w_303 (c_Mt_abs l D t0 L _ _ p0 (by omega) (by omega)) hl.1 rfl rfl (Nat.le_of_ble_eq_true rfl) d_Rk_ratio_1 ⟨Nat.le_of_ble_eq_true rfl, Nat.le_of_ble_eq_true rfl⟩ ⟨Nat.le_of_ble_eq_true rfl, Nat.le_of_ble_eq_true rfl⟩ (fun v9 L9 f8 H locs hp hI => ?_)
  refine W.cs (cells' := 0) (slots' := 0) rfl rfl ?_
  obtain ⟨hv9, rfl, rfl⟩ := hp
  cases hv9
  refine hw_stk (st' := [.long (lN p0.natAbs)]) rfl ?_
  refine lv_lload_n hx hb d_Rk_ratio_4 rfl (lv_at hl 2 rfl) ?_
  refine hw_cS (As := [.long (zL q0)]) (rest := [.long (lN p0.natAbs)]) S hI m_Mt_abs w_303 (c_Mt_abs l D t0 L _ _ q0 (by omega) (by omega)) hl.1 rfl rfl (Nat.le_of_ble_eq_true rfl) d_Rk_ratio_5 ⟨Nat.le_of_ble_eq_true rfl, Nat.le_of_ble_eq_true rfl⟩ ⟨Nat.le_of_ble_eq_true rfl, Nat.le_of_ble_eq_true rfl⟩ (fun v9 L9 f9 H locs hp hI => ?_)
  refine W.cs (cells' := 0) (slots' := 0) rfl rfl ?_
  obtain ⟨hv9, rfl, rfl⟩ := hp
  cases hv9
  refine hw_stk (st' := [.long (lN q0.natAbs), .long (lN p0.natAbs)]) rfl ?_
  refine hw_cS (As := [.long (lN p0.natAbs), .long (lN q0.natAbs)]) (rest := []) S hI m_Ms_ofShort w_306 (c_Ms_ofShort l D t0 L _ _ p0.natAbs q0.natAbs hpa hqa) hl.1 rfl rfl (Nat.le_of_ble_eq_true rfl) d_Rk_ratio_8 ⟨Nat.le_of_ble_eq_true rfl, Nat.le_of_ble_eq_true rfl⟩ ⟨Nat.le_of_ble_eq_true rfl, Nat.le_of_ble_eq_true rfl⟩ (fun v9 L9 f10 H locs hp hI => ?_)
  refine W.cs (cells' := 0) (slots' := 0) rfl rfl ?_
  obtain ⟨hv9, rfl, rfl⟩ := hp
  cases hv9
  refine hw_stk (st' := [.long (lN (Nat.gcd p0.natAbs q0.natAbs))]) rfl ?_
  refine hw_tl (show _ = lN g from by rw [hgg]) ?_
  refine lv_lstore (lv' := [(5, .long (lN g)), (0, .ref (ak)), (1, .long (zL p0)), (3, .long (zL q0))]) hx hb d_Rk_ratio_11 hl (by decide) rfl (fun ls hl => ?_)
  refine lv_lload hx hb d_Rk_ratio_13 (lv_at hl 0 rfl) ?_
  refine hw_cSN (As := [.long (lN g)]) (rest := []) S hI m_Wh_requireDivisor (by decide +kernel) (c_Wh_requireDivisor l D t0 L _ _ g hgp (by omega)) hl.1 rfl rfl (Nat.le_of_ble_eq_true rfl) d_Rk_ratio_15 ⟨Nat.le_of_ble_eq_true rfl, Nat.le_of_ble_eq_true rfl⟩ ⟨Nat.le_of_ble_eq_true rfl, Nat.le_of_ble_eq_true rfl⟩ (fun v9 L9 f11 H locs hp hI => ?_)
  refine W.cs (cells' := 0) (slots' := 0) rfl rfl ?_
  obtain ⟨hv9, rfl, rfl⟩ := hp
  cases hv9
  refine hw_stk (st' := []) rfl ?_
  refine lv_aload_n hx hb d_Rk_ratio_18 rfl (lv_at hl 1 rfl) ?_
  refine ob_get S hI hW.Rk (C := R_Rk) (T := F_Rk) (N := 7) (ref := "WallFractions$Reckoner") rfl i_Rk 2 (by decide) rfl w_134 rfl d_Rk_ratio_19 ?_
  refine ob_getN S hI hW.Out (C := R_Fr) (T := F_Fr) (N := 3) (ref := "WallFractions$Fraction") rfl i_Fr 0 (by decide) rfl (by decide +kernel) rfl d_Rk_ratio_22 ?_
  refine lv_lload_n hx hb d_Rk_ratio_25 rfl (lv_at hl 2 rfl) ?_
  refine hw_cS (As := [.long (zL p0)]) (rest := [.ref (o 32)]) S hI m_Mt_abs w_303 (c_Mt_abs l D t0 L _ _ p0 (by omega) (by omega)) hl.1 rfl rfl (Nat.le_of_ble_eq_true rfl) d_Rk_ratio_26 ⟨Nat.le_of_ble_eq_true rfl, Nat.le_of_ble_eq_true rfl⟩ ⟨Nat.le_of_ble_eq_true rfl, Nat.le_of_ble_eq_true rfl⟩ (fun v9 L9 f12 H locs hp hI => ?_)
  refine W.cs (cells' := 0) (slots' := 0) rfl rfl ?_
  obtain ⟨hv9, rfl, rfl⟩ := hp
  cases hv9
  refine hw_stk (st' := [.long (lN p0.natAbs), .ref (o 32)]) rfl ?_
  refine lv_lload hx hb d_Rk_ratio_29 (lv_at hl 0 rfl) ?_
  refine lv_ldiv hx hb d_Rk_ratio_31 (by intro h9; have h8 := (pk_lEQ (b := 0) (by omega) (by decide)).mp h9; omega) ?_
  refine hw_tl (pk_lDiv (by omega) (by omega) (by omega)) ?_
  refine hw_cV (As := [.long (lN (p0.natAbs / g))]) (rest := []) S hI m_Wh_become w_329 (c_Wh_become l D t0 L _ _ o r 46 x 32 (p0.natAbs / g) (by omega) hY hW.N hd1) (hW.rc (i := 32) (by omega)).choose_spec rfl hl.1 rfl rfl (Nat.le_of_ble_eq_true rfl) d_Rk_ratio_32 ⟨Nat.le_of_ble_eq_true rfl, Nat.le_of_ble_eq_true rfl⟩ ⟨Nat.le_of_ble_eq_true rfl, Nat.le_of_ble_eq_true rfl⟩ (fun v9 L9 f13 H locs hp hI => ?_)
  refine W.cs (cells' := 0) (slots' := 0) rfl rfl ?_
  obtain ⟨hv9, rfl, hN9, hf9⟩ := hp
  cases hv9
  refine hw_stk (st' := []) rfl ?_
  have hF := hF.wh (fun q h9 _ _ _ => hf9 q (h9 32 (by omega)).1 (h9 32 (by omega)).2)
  obtain ⟨x13, hW, e9, s9⟩ := (hW.wh hN9 (fun q h9 => hf9 q (h9 32 (by omega)).1 (h9 32 (by omega)).2)).cut
  have n9 : x13 32 = p0.natAbs / g := by rw [e9]
  have e32 : x13 32 = p0.natAbs / g := n9
  have hs := fun z (hz : z < 32) => (s9 z (by omega)).trans (hs z hz)
  refine lv_aload_n hx hb d_Rk_ratio_35 rfl (lv_at hl 1 rfl) ?_
  refine ob_get S hI hW.Rk (C := R_Rk) (T := F_Rk) (N := 7) (ref := "WallFractions$Reckoner") rfl i_Rk 2 (by decide) rfl w_134 rfl d_Rk_ratio_36 ?_
  refine ob_getN S hI hW.Out (C := R_Fr) (T := F_Fr) (N := 3) (ref := "WallFractions$Fraction") rfl i_Fr 1 (by decide) rfl (by decide +kernel) rfl d_Rk_ratio_39 ?_
  refine lv_lload_n hx hb d_Rk_ratio_42 rfl (lv_at hl 3 rfl) ?_
  refine hw_cS (As := [.long (zL q0)]) (rest := [.ref (o 33)]) S hI m_Mt_abs w_303 (c_Mt_abs l D t0 L _ _ q0 (by omega) (by omega)) hl.1 rfl rfl (Nat.le_of_ble_eq_true rfl) d_Rk_ratio_43 ⟨Nat.le_of_ble_eq_true rfl, Nat.le_of_ble_eq_true rfl⟩ ⟨Nat.le_of_ble_eq_true rfl, Nat.le_of_ble_eq_true rfl⟩ (fun v9 L9 f14 H locs hp hI => ?_)
  refine W.cs (cells' := 0) (slots' := 0) rfl rfl ?_
  obtain ⟨hv9, rfl, rfl⟩ := hp
  cases hv9
  refine hw_stk (st' := [.long (lN q0.natAbs), .ref (o 33)]) rfl ?_
  refine lv_lload hx hb d_Rk_ratio_46 (lv_at hl 0 rfl) ?_
  refine lv_ldiv hx hb d_Rk_ratio_48 (by intro h9; have h8 := (pk_lEQ (b := 0) (by omega) (by decide)).mp h9; omega) ?_
  refine hw_tl (pk_lDiv (by omega) (by omega) (by omega)) ?_
  refine hw_cV (As := [.long (lN (q0.natAbs / g))]) (rest := []) S hI m_Wh_become w_329 (c_Wh_become l D t0 L _ _ o r 46 x13 33 (q0.natAbs / g) (by omega) hY hW.N hd2) (hW.rc (i := 33) (by omega)).choose_spec rfl hl.1 rfl rfl (Nat.le_of_ble_eq_true rfl) d_Rk_ratio_49 ⟨Nat.le_of_ble_eq_true rfl, Nat.le_of_ble_eq_true rfl⟩ ⟨Nat.le_of_ble_eq_true rfl, Nat.le_of_ble_eq_true rfl⟩ (fun v9 L9 f15 H locs hp hI => ?_)
  refine W.cs (cells' := 0) (slots' := 0) rfl rfl ?_
  obtain ⟨hv9, rfl, hN9, hf9⟩ := hp
  cases hv9
  refine hw_stk (st' := []) rfl ?_
  have hF := hF.wh (fun q h9 _ _ _ => hf9 q (h9 33 (by omega)).1 (h9 33 (by omega)).2)
  obtain ⟨x15, hW, e9, s9⟩ := (hW.wh hN9 (fun q h9 => hf9 q (h9 33 (by omega)).1 (h9 33 (by omega)).2)).cut
  have n9 : x15 33 = q0.natAbs / g := by rw [e9]
  have e32 : x15 32 = p0.natAbs / g := (s9 32 (by omega)).trans e32
  have e33 : x15 33 = q0.natAbs / g := n9
  have hs := fun z (hz : z < 32) => (s9 z (by omega)).trans (hs z hz)
  refine lv_aload_n hx hb d_Rk_ratio_52 rfl (lv_at hl 1 rfl) ?_
  refine ob_get S hI hW.Rk (C := R_Rk) (T := F_Rk) (N := 7) (ref := "WallFractions$Reckoner") rfl i_Rk 2 (by decide) rfl w_134 rfl d_Rk_ratio_53 ?_
  refine lv_lload_n hx hb d_Rk_ratio_56 rfl (lv_at hl 2 rfl) ?_
  refine lv_lconst (v := lN 0) hx hb d_Rk_ratio_57 rfl ?_
  refine hw_l_eq (tgt := 91) hx hb d_Rk_ratio_58 d_Rk_ratio_59 (by decide) (fun c16 => ?_) (fun c16 => ?_)
  · have h0 : p0 = 0 := (zL_eq (b := 0) (by omega) (by omega) (by decide) (by decide)).mp c16
    refine lv_iconst (v := nI 0) hx hb d_Rk_ratio_91 (by decide) ?_
    refine hw_ti (show _ = sB (ratS p0 q0) from by unfold ratS; rw [decide_eq_false (fun h => h h0)]; rfl) ?_
    refine ob_putN S hI hW.Out (fs' := [.ref (o 32), .ref (o 33), .int (sB (ratS p0 q0))]) (C := R_Fr) (T := F_Fr) (N := 3) (ref := "WallFractions$Fraction") rfl i_Fr t_Fr t_Fr_ok n_Fr 2 (by decide) rfl (by decide +kernel) rfl (sB_nar _) (sB_fit _) (by simp only [List.length]; decide) rfl d_Rk_ratio_92 (fun f17 H locs hI hO9 hf17 => ?_)
    have hF := hF.sg (by decide) hf17
    obtain ⟨sg17, hW, g9, t9⟩ := (hW.sgn hg (by decide) hf17 (b := (ratS p0 q0)) hO9).cutS
    have g16 : sg17 16 = (ratS p0 q0) := g9
    have ht := fun z (hz : z < 16) => (t9 z (by omega)).trans (ht z hz)
    exact hw_vret hx hb hr hlocks hI d_Rk_ratio_95 ⟨rfl, rfl, x15, sg17, hW, (by rw [e32, hgg]), (by rw [e33, hgg]), g16, hs, ht, hF⟩
  · have h0 : p0 ≠ 0 := fun h => c16 (by rw [h]; rfl)
    refine lv_lload_n hx hb d_Rk_ratio_62 rfl (lv_at hl 2 rfl) ?_
    refine lv_lconst (v := lN 0) hx hb d_Rk_ratio_63 rfl ?_
    refine hw_l_ge (tgt := 72) hx hb d_Rk_ratio_64 d_Rk_ratio_65 (by decide) (fun c18 => ?_) (fun c18 => ?_)
    · have hps : 0 ≤ p0 := (zL_le (a := 0) (by decide) (by decide) (by omega) (by omega)).mp c18
      refine lv_iconst (v := nI 0) hx hb d_Rk_ratio_72 (by decide) ?_
      refine lv_lload_n hx hb d_Rk_ratio_73 rfl (lv_at hl 3 rfl) ?_
      refine lv_lconst (v := lN 0) hx hb d_Rk_ratio_74 rfl ?_
      refine hw_l_ge (tgt := 83) hx hb d_Rk_ratio_75 d_Rk_ratio_76 (by decide) (fun c19 => ?_) (fun c19 => ?_)
      · have hqs : 0 ≤ q0 := (zL_le (a := 0) (by decide) (by decide) (by omega) (by omega)).mp c19
        refine lv_iconst (v := nI 0) hx hb d_Rk_ratio_83 (by decide) ?_
        refine hw_icmp_eq (tgt := 91) hx hb d_Rk_ratio_84 (by decide) (by omega) (by omega) (fun c20 => ?_) (fun c20 => ?_)
        · refine lv_iconst (v := nI 0) hx hb d_Rk_ratio_91 (by decide) ?_
          refine hw_ti (show _ = sB (ratS p0 q0) from by unfold ratS; rw [decide_eq_false (by omega : ¬ p0 < 0), decide_eq_false (by omega : ¬ q0 < 0), decide_eq_true h0]; rfl) ?_
          refine ob_putN S hI hW.Out (fs' := [.ref (o 32), .ref (o 33), .int (sB (ratS p0 q0))]) (C := R_Fr) (T := F_Fr) (N := 3) (ref := "WallFractions$Fraction") rfl i_Fr t_Fr t_Fr_ok n_Fr 2 (by decide) rfl (by decide +kernel) rfl (sB_nar _) (sB_fit _) (by simp only [List.length]; decide) rfl d_Rk_ratio_92 (fun f21 H locs hI hO9 hf21 => ?_)
          have hF := hF.sg (by decide) hf21
          obtain ⟨sg21, hW, g9, t9⟩ := (hW.sgn hg (by decide) hf21 (b := (ratS p0 q0)) hO9).cutS
          have g16 : sg21 16 = (ratS p0 q0) := g9
          have ht := fun z (hz : z < 16) => (t9 z (by omega)).trans (ht z hz)
          exact hw_vret hx hb hr hlocks hI d_Rk_ratio_95 ⟨rfl, rfl, x15, sg21, hW, (by rw [e32, hgg]), (by rw [e33, hgg]), g16, hs, ht, hF⟩
        · exact absurd rfl c20
      · have hqs : q0 < 0 := (zL_lt (b := 0) (by omega) (by omega) (by decide) (by decide)).mp c19
        refine lv_iconst (v := nI 1) hx hb d_Rk_ratio_79 (by decide) ?_
        refine lv_goto (tgt := 84) hx hb d_Rk_ratio_80 (by decide) ?_
        refine hw_icmp_eq (tgt := 91) hx hb d_Rk_ratio_84 (by decide) (by omega) (by omega) (fun c22 => ?_) (fun c22 => ?_)
        · exact absurd c22 (by decide)
        · refine lv_iconst (v := nI 1) hx hb d_Rk_ratio_87 (by decide) ?_
          refine lv_goto (tgt := 92) hx hb d_Rk_ratio_88 (by decide) ?_
          refine hw_ti (show _ = sB (ratS p0 q0) from by unfold ratS; rw [decide_eq_false (by omega : ¬ p0 < 0), decide_eq_true hqs, decide_eq_true h0]; rfl) ?_
          refine ob_putN S hI hW.Out (fs' := [.ref (o 32), .ref (o 33), .int (sB (ratS p0 q0))]) (C := R_Fr) (T := F_Fr) (N := 3) (ref := "WallFractions$Fraction") rfl i_Fr t_Fr t_Fr_ok n_Fr 2 (by decide) rfl (by decide +kernel) rfl (sB_nar _) (sB_fit _) (by simp only [List.length]; decide) rfl d_Rk_ratio_92 (fun f23 H locs hI hO9 hf23 => ?_)
          have hF := hF.sg (by decide) hf23
          obtain ⟨sg23, hW, g9, t9⟩ := (hW.sgn hg (by decide) hf23 (b := (ratS p0 q0)) hO9).cutS
          have g16 : sg23 16 = (ratS p0 q0) := g9
          have ht := fun z (hz : z < 16) => (t9 z (by omega)).trans (ht z hz)
          exact hw_vret hx hb hr hlocks hI d_Rk_ratio_95 ⟨rfl, rfl, x15, sg23, hW, (by rw [e32, hgg]), (by rw [e33, hgg]), g16, hs, ht, hF⟩
    · have hps : p0 < 0 := (zL_lt (b := 0) (by omega) (by omega) (by decide) (by decide)).mp c18
      refine lv_iconst (v := nI 1) hx hb d_Rk_ratio_68 (by decide) ?_
      refine lv_goto (tgt := 73) hx hb d_Rk_ratio_69 (by decide) ?_
      refine lv_lload_n hx hb d_Rk_ratio_73 rfl (lv_at hl 3 rfl) ?_
      refine lv_lconst (v := lN 0) hx hb d_Rk_ratio_74 rfl ?_
      refine hw_l_ge (tgt := 83) hx hb d_Rk_ratio_75 d_Rk_ratio_76 (by decide) (fun c24 => ?_) (fun c24 => ?_)
      · have hqs : 0 ≤ q0 := (zL_le (a := 0) (by decide) (by decide) (by omega) (by omega)).mp c24
        refine lv_iconst (v := nI 0) hx hb d_Rk_ratio_83 (by decide) ?_
        refine hw_icmp_eq (tgt := 91) hx hb d_Rk_ratio_84 (by decide) (by omega) (by omega) (fun c25 => ?_) (fun c25 => ?_)
        · exact absurd c25 (by decide)
        · refine lv_iconst (v := nI 1) hx hb d_Rk_ratio_87 (by decide) ?_
          refine lv_goto (tgt := 92) hx hb d_Rk_ratio_88 (by decide) ?_
          refine hw_ti (show _ = sB (ratS p0 q0) from by unfold ratS; rw [decide_eq_true hps, decide_eq_false (by omega : ¬ q0 < 0), decide_eq_true h0]; rfl) ?_
          refine ob_putN S hI hW.Out (fs' := [.ref (o 32), .ref (o 33), .int (sB (ratS p0 q0))]) (C := R_Fr) (T := F_Fr) (N := 3) (ref := "WallFractions$Fraction") rfl i_Fr t_Fr t_Fr_ok n_Fr 2 (by decide) rfl (by decide +kernel) rfl (sB_nar _) (sB_fit _) (by simp only [List.length]; decide) rfl d_Rk_ratio_92 (fun f26 H locs hI hO9 hf26 => ?_)
          have hF := hF.sg (by decide) hf26
          obtain ⟨sg26, hW, g9, t9⟩ := (hW.sgn hg (by decide) hf26 (b := (ratS p0 q0)) hO9).cutS
          have g16 : sg26 16 = (ratS p0 q0) := g9
          have ht := fun z (hz : z < 16) => (t9 z (by omega)).trans (ht z hz)
          exact hw_vret hx hb hr hlocks hI d_Rk_ratio_95 ⟨rfl, rfl, x15, sg26, hW, (by rw [e32, hgg]), (by rw [e33, hgg]), g16, hs, ht, hF⟩
      · have hqs : q0 < 0 := (zL_lt (b := 0) (by omega) (by omega) (by decide) (by decide)).mp c24
        refine lv_iconst (v := nI 1) hx hb d_Rk_ratio_79 (by decide) ?_
        refine lv_goto (tgt := 84) hx hb d_Rk_ratio_80 (by decide) ?_
        refine hw_icmp_eq (tgt := 91) hx hb d_Rk_ratio_84 (by decide) (by omega) (by omega) (fun c27 => ?_) (fun c27 => ?_)
        · refine lv_iconst (v := nI 0) hx hb d_Rk_ratio_91 (by decide) ?_
          refine hw_ti (show _ = sB (ratS p0 q0) from by unfold ratS; rw [decide_eq_true hps, decide_eq_true hqs, decide_eq_true h0]; rfl) ?_
          refine ob_putN S hI hW.Out (fs' := [.ref (o 32), .ref (o 33), .int (sB (ratS p0 q0))]) (C := R_Fr) (T := F_Fr) (N := 3) (ref := "WallFractions$Fraction") rfl i_Fr t_Fr t_Fr_ok n_Fr 2 (by decide) rfl (by decide +kernel) rfl (sB_nar _) (sB_fit _) (by simp only [List.length]; decide) rfl d_Rk_ratio_92 (fun f28 H locs hI hO9 hf28 => ?_)
          have hF := hF.sg (by decide) hf28
          obtain ⟨sg28, hW, g9, t9⟩ := (hW.sgn hg (by decide) hf28 (b := (ratS p0 q0)) hO9).cutS
          have g16 : sg28 16 = (ratS p0 q0) := g9
          have ht := fun z (hz : z < 16) => (t9 z (by omega)).trans (ht z hz)
          exact hw_vret hx hb hr hlocks hI d_Rk_ratio_95 ⟨rfl, rfl, x15, sg28, hW, (by rw [e32, hgg]), (by rw [e33, hgg]), g16, hs, ht, hF⟩
        · exact absurd rfl c27

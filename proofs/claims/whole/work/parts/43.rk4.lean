theorem i32_neg {a b : Nat} (ha : a < 2 ^ 31) (hb : b < 2 ^ 31) (h : a < b) : nI a - nI b < 0 := by
  have e1 : nI a - nI b = -nI (b - a) := by rw [← pk_sub (show a ≤ b by omega), Int32.neg_sub]
  rw [e1, Int32.lt_iff_toInt_lt, sb_negT (by omega)]
  show -((b - a : Nat) : Int) < 0
  omega
theorem chk {n : Nat} {k : Int32} (hn : n ≤ 500) (h : k < 0 ∨ nI (n + 1) ≤ k) : (if nI n - k < k then nI n - k else k) < 0 := by
  rcases h with h | h
  · split
    · exact Int32.lt_trans (by assumption) h
    · exact h
  · have h0 : ¬ k < 0 := fun q => by
      have := Int32.lt_of_le_of_lt h q
      exact absurd this (nI_pos (by omega))
    obtain ⟨j, hj, rfl⟩ := nI_of h0
    have hj2 : n + 1 ≤ j := (nI_leI (by omega) hj).mp h
    have hs := i32_neg (show n < 2 ^ 31 by omega) hj (by omega)
    rw [if_pos (Int32.lt_of_lt_of_le hs (nI_pos' hj))]
    exact hs
theorem nI_m9 {h : Nat} (hh : 9 ≤ h) : nI h + Int32.ofInt (-9) = nI (h - 9) := by
  have e : Int32.ofInt (-9) = -nI 9 := by decide
  rw [e, ← Int32.sub_eq_add_neg, pk_sub hh]
noncomputable def isq (N : Nat) : Nat := Classical.choose (nw_sqrt N)
theorem isq_spec (N : Nat) : isq N * isq N ≤ N ∧ N < (isq N + 1) * (isq N + 1) := Classical.choose_spec (nw_sqrt N)
theorem ten185 {e : Nat} (h : e ≤ 185) : 10 ^ e < nB ^ 40 := Nat.lt_of_le_of_lt (Nat.pow_le_pow_right (by decide) h) (by decide +kernel)
set_option maxHeartbeats 4000000 in
set_option maxRecDepth 100000 in
theorem c_Rk_choose (l : Launch) (D : va_G) (t0 : Nat) (L : List Nat) (f : Nat → va_E) (sz : Nat) (o r fr : Nat → Nat) (ad al ab am ak ah aw ar rg wf : Nat) (x : Nat → Nat) (sg : Nat → Bool) (wt rs : Nat → Nat) (n : Nat) (k : Int32) (hg : Gl o r fr ad al ab am ak ah aw ar rg wf) (hW : Wd D L f o r fr ad al ab am ak ah aw ar rg wf x sg wt rs) (hn : n ≤ 500) : Met l y_Rk_choose (Cond.code y_Rk_choose b_Rk_choose 5 none :: TT) ({ frames := 8, cells := 0, slots := 0, locals := 159 } : Room) (hw_Pc t0 [.ref (ak), .int (nI n), .int (k)] D L f sz) (hw_Q D L sz (fun oc L' f' => oc = .returned none ∧ L = L' ∧ ∃ x' sg', Wd D L f' o r fr ad al ab am ak ah aw ar rg wf x' sg' wt rs ∧ x' 32 = chF n k ∧ x' 33 = 1 ∧ sg' 16 = false ∧ (∀ z, z < 32 → x' z = x z) ∧ (∀ k, k < 16 → sg' k = sg k) ∧ Fm o r fr ad al ab am ak ah aw ar rg wf f f')) 0 0 (hw_A L sz) := by
  refine Met.ofW (cc := b_Rk_choose) (maxL := 5) (ret := none) (by decide) rfl ?_
  intro p e s m args below meth c s₁ B hml hv
  obtain ⟨rfl, rfl, hI⟩ := hw_start hv
  clear hv
  have hx := B.exec
  have hb := B.bytes
  have hr := B.returns
  have hlocks := B.notSynchronized
  have hown : s.vm.findClass "WallFractions$Reckoner" = some m.cls := findClass_of_methodNamed B.named
  have hT : ∀ w ∈ TT, w.before ([.ref (ak), .int (nI n), .int (k)]).toArray s = true := fun w h => atoms_spec (ws := (Cond.code y_Rk_choose b_Rk_choose 5 none :: TT)) B.pre w (List.mem_cons_of_mem _ h)
  have S : CallFix p m c b_Rk_choose 5 s ([.ref (ak), .int (nI n), .int (k)]).toArray TT "WallFractions$Reckoner" := ⟨hx, hb, hml, hown, hT⟩
  have hl := lv_entry ([.ref (ak), .int (nI n), .int (k)]) (n := 5) (Nat.le_of_ble_eq_true rfl)
  rw [lg_entry_eq]
  generalize (lg_sl ([.ref (ak), .int (nI n), .int (k)]) ++ List.replicate (5 - (lg_sl ([.ref (ak), .int (nI n), .int (k)])).length) Slot.unset).toArray = ls at hl ⊢
  have hl : lv_has ls 5 [(0, .ref (ak)), (1, .int (nI n)), (2, .int (k))] := hl
  skip
  have hY := hg.1
  have hF : Fm o r fr ad al ab am ak ah aw ar rg wf f f := Fm.refl
  have hs : ∀ z, z < 32 → x z = x z := fun _ _ => rfl
  have ht : ∀ k, k < 16 → sg k = sg k := fun _ _ => rfl
  have hnB : nB = 1000000000 := rfl
  refine lv_aload_n hx hb d_Rk_choose_0 rfl (lv_at hl 0 rfl) ?_
  refine ob_get S hI hW.Rk (C := R_Rk) (T := F_Rk) (N := 7) (ref := "WallFractions$Reckoner") rfl i_Rk 2 (by decide) rfl w_134 rfl d_Rk_choose_1 ?_
  refine ob_getN S hI hW.Out (C := R_Fr) (T := F_Fr) (N := 3) (ref := "WallFractions$Fraction") rfl i_Fr 0 (by decide) rfl (by decide +kernel) rfl d_Rk_choose_4 ?_
  refine lv_iload_n hx hb d_Rk_choose_7 rfl (lv_at hl 2 rfl) ?_
  by_cases hbad : k < 0 ∨ nI (n + 1) ≤ k
  · refine lv_if_lt (tgt := 16) hx hb d_Rk_choose_8 (by decide) (fun c1 => ?_) (fun c1 => ?_)
    · have hbd : k < 0 ∨ nI n < k := Or.inl c1
      refine lv_lconst (v := lN 0) hx hb d_Rk_choose_16 rfl ?_
      refine lv_goto (tgt := 21) hx hb d_Rk_choose_17 (by decide) ?_
      refine hw_cV (As := [.long (lN 0)]) (rest := []) S hI m_Wh_become w_329 (c_Wh_become l D t0 L _ _ o r 46 x 32 0 (by omega) hY hW.N (by decide)) (hW.rc (i := 32) (by omega)).choose_spec rfl hl.1 rfl rfl (Nat.le_of_ble_eq_true rfl) d_Rk_choose_21 ⟨Nat.le_of_ble_eq_true rfl, Nat.le_of_ble_eq_true rfl⟩ ⟨Nat.le_of_ble_eq_true rfl, Nat.le_of_ble_eq_true rfl⟩ (fun v9 L9 f2 H locs hp hI => ?_)
      refine W.cs (cells' := 0) (slots' := 0) rfl rfl ?_
      obtain ⟨hv9, rfl, hN9, hf9⟩ := hp
      cases hv9
      refine hw_stk (st' := []) rfl ?_
      have hF := hF.wh (fun q h9 _ _ _ => hf9 q (h9 32 (by omega)).1 (h9 32 (by omega)).2)
      obtain ⟨x2, hW, e9, s9⟩ := (hW.wh hN9 (fun q h9 => hf9 q (h9 32 (by omega)).1 (h9 32 (by omega)).2)).cut
      have n9 : x2 32 = 0 := by rw [e9]
      have e32 : x2 32 = 0 := n9
      have hs := fun z (hz : z < 32) => (s9 z (by omega)).trans (hs z hz)
      refine lv_aload_n hx hb d_Rk_choose_24 rfl (lv_at hl 0 rfl) ?_
      refine ob_get S hI hW.Rk (C := R_Rk) (T := F_Rk) (N := 7) (ref := "WallFractions$Reckoner") rfl i_Rk 2 (by decide) rfl w_134 rfl d_Rk_choose_25 ?_
      refine ob_getN S hI hW.Out (C := R_Fr) (T := F_Fr) (N := 3) (ref := "WallFractions$Fraction") rfl i_Fr 1 (by decide) rfl (by decide +kernel) rfl d_Rk_choose_28 ?_
      refine lv_lconst (v := lN 1) hx hb d_Rk_choose_31 rfl ?_
      refine hw_cV (As := [.long (lN 1)]) (rest := []) S hI m_Wh_become w_329 (c_Wh_become l D t0 L _ _ o r 46 x2 33 1 (by omega) hY hW.N (by decide)) (hW.rc (i := 33) (by omega)).choose_spec rfl hl.1 rfl rfl (Nat.le_of_ble_eq_true rfl) d_Rk_choose_32 ⟨Nat.le_of_ble_eq_true rfl, Nat.le_of_ble_eq_true rfl⟩ ⟨Nat.le_of_ble_eq_true rfl, Nat.le_of_ble_eq_true rfl⟩ (fun v9 L9 f3 H locs hp hI => ?_)
      refine W.cs (cells' := 0) (slots' := 0) rfl rfl ?_
      obtain ⟨hv9, rfl, hN9, hf9⟩ := hp
      cases hv9
      refine hw_stk (st' := []) rfl ?_
      have hF := hF.wh (fun q h9 _ _ _ => hf9 q (h9 33 (by omega)).1 (h9 33 (by omega)).2)
      obtain ⟨x3, hW, e9, s9⟩ := (hW.wh hN9 (fun q h9 => hf9 q (h9 33 (by omega)).1 (h9 33 (by omega)).2)).cut
      have n9 : x3 33 = 1 := by rw [e9]
      have e32 : x3 32 = 0 := (s9 32 (by omega)).trans e32
      have e33 : x3 33 = 1 := n9
      have hs := fun z (hz : z < 32) => (s9 z (by omega)).trans (hs z hz)
      refine lv_aload_n hx hb d_Rk_choose_35 rfl (lv_at hl 0 rfl) ?_
      refine ob_get S hI hW.Rk (C := R_Rk) (T := F_Rk) (N := 7) (ref := "WallFractions$Reckoner") rfl i_Rk 2 (by decide) rfl w_134 rfl d_Rk_choose_36 ?_
      refine lv_iconst (v := nI 0) hx hb d_Rk_choose_39 (by decide) ?_
      refine hw_ti (show _ = sB (false) from rfl) ?_
      refine ob_putN S hI hW.Out (fs' := [.ref (o 32), .ref (o 33), .int (sB (false))]) (C := R_Fr) (T := F_Fr) (N := 3) (ref := "WallFractions$Fraction") rfl i_Fr t_Fr t_Fr_ok n_Fr 2 (by decide) rfl (by decide +kernel) rfl (sB_nar _) (sB_fit _) (by simp only [List.length]; decide) rfl d_Rk_choose_40 (fun f4 H locs hI hO9 hf4 => ?_)
      have hF := hF.sg (by decide) hf4
      obtain ⟨sg4, hW, g9, t9⟩ := (hW.sgn hg (by decide) hf4 (b := (false)) hO9).cutS
      have g16 : sg4 16 = (false) := g9
      have ht := fun z (hz : z < 16) => (t9 z (by omega)).trans (ht z hz)
      refine lv_iload_n hx hb d_Rk_choose_43 rfl (lv_at hl 2 rfl) ?_
      refine lv_iload_n hx hb d_Rk_choose_44 rfl (lv_at hl 1 rfl) ?_
      refine lv_iload_n hx hb d_Rk_choose_45 rfl (lv_at hl 2 rfl) ?_
      refine lv_isub hx hb d_Rk_choose_46 ?_
      refine hw_cS (As := [.int (k), .int ((nI n) - k)]) (rest := []) S hI m_Mt_min w_579 (c_Mt_min l D t0 L _ _ k (nI n - k)) hl.1 rfl rfl (Nat.le_of_ble_eq_true rfl) d_Rk_choose_47 ⟨Nat.le_of_ble_eq_true rfl, Nat.le_of_ble_eq_true rfl⟩ ⟨Nat.le_of_ble_eq_true rfl, Nat.le_of_ble_eq_true rfl⟩ (fun v9 L9 f5 H locs hp hI => ?_)
      refine W.cs (cells' := 0) (slots' := 0) rfl rfl ?_
      obtain ⟨hv9, rfl, rfl⟩ := hp
      cases hv9
      refine hw_stk (st' := [.int (if nI n - k < k then nI n - k else k)]) rfl ?_
      refine lv_istore_n (lv' := [(3, .int (if nI n - k < k then nI n - k else k)), (0, .ref (ak)), (1, .int (nI n)), (2, .int (k))]) hx hb d_Rk_choose_50 rfl hl (by decide) rfl (fun ls hl => ?_)
      refine lv_iconst (v := nI 1) hx hb d_Rk_choose_51 (by decide) ?_
      refine lv_istore (lv' := [(4, .int (nI 1)), (3, .int (if nI n - k < k then nI n - k else k)), (0, .ref (ak)), (1, .int (nI n)), (2, .int (k))]) hx hb d_Rk_choose_52 hl (by decide) rfl (fun ls hl => ?_)
      refine lv_iload hx hb d_Rk_choose_54 (lv_at hl 0 rfl) ?_
      refine lv_iload_n hx hb d_Rk_choose_56 rfl (lv_at hl 1 rfl) ?_
      refine lv_icmp_gt (tgt := 105) hx hb d_Rk_choose_57 (by decide) (fun c6 => ?_) (fun c6 => ?_)
      · exact hw_vret hx hb hr hlocks hI d_Rk_choose_105 ⟨rfl, rfl, x3, sg4, hW, (by rw [e32]; unfold chF; rw [if_pos hbd]), e33, g16, hs, ht, hF⟩
      · exact absurd (Int32.lt_trans (chk hn hbad) (show (0 : Int32) < nI 1 by decide)) c6
    · have hkn : nI n < k := by rcases hbad with h | h; exact absurd h c1; exact Int32.lt_of_lt_of_le (nI_lt (by omega) (by omega)) h
      have hbd : k < 0 ∨ nI n < k := Or.inr hkn
      refine lv_iload_n hx hb d_Rk_choose_11 rfl (lv_at hl 2 rfl) ?_
      refine lv_iload_n hx hb d_Rk_choose_12 rfl (lv_at hl 1 rfl) ?_
      refine lv_icmp_le (tgt := 20) hx hb d_Rk_choose_13 (by decide) (fun c7 => ?_) (fun c7 => ?_)
      · exact absurd hkn (Int32.not_lt.mpr c7)
      · refine lv_lconst (v := lN 0) hx hb d_Rk_choose_16 rfl ?_
        refine lv_goto (tgt := 21) hx hb d_Rk_choose_17 (by decide) ?_
        refine hw_cV (As := [.long (lN 0)]) (rest := []) S hI m_Wh_become w_329 (c_Wh_become l D t0 L _ _ o r 46 x 32 0 (by omega) hY hW.N (by decide)) (hW.rc (i := 32) (by omega)).choose_spec rfl hl.1 rfl rfl (Nat.le_of_ble_eq_true rfl) d_Rk_choose_21 ⟨Nat.le_of_ble_eq_true rfl, Nat.le_of_ble_eq_true rfl⟩ ⟨Nat.le_of_ble_eq_true rfl, Nat.le_of_ble_eq_true rfl⟩ (fun v9 L9 f8 H locs hp hI => ?_)
        refine W.cs (cells' := 0) (slots' := 0) rfl rfl ?_
        obtain ⟨hv9, rfl, hN9, hf9⟩ := hp
        cases hv9
        refine hw_stk (st' := []) rfl ?_
        have hF := hF.wh (fun q h9 _ _ _ => hf9 q (h9 32 (by omega)).1 (h9 32 (by omega)).2)
        obtain ⟨x8, hW, e9, s9⟩ := (hW.wh hN9 (fun q h9 => hf9 q (h9 32 (by omega)).1 (h9 32 (by omega)).2)).cut
        have n9 : x8 32 = 0 := by rw [e9]
        have e32 : x8 32 = 0 := n9
        have hs := fun z (hz : z < 32) => (s9 z (by omega)).trans (hs z hz)
        refine lv_aload_n hx hb d_Rk_choose_24 rfl (lv_at hl 0 rfl) ?_
        refine ob_get S hI hW.Rk (C := R_Rk) (T := F_Rk) (N := 7) (ref := "WallFractions$Reckoner") rfl i_Rk 2 (by decide) rfl w_134 rfl d_Rk_choose_25 ?_
        refine ob_getN S hI hW.Out (C := R_Fr) (T := F_Fr) (N := 3) (ref := "WallFractions$Fraction") rfl i_Fr 1 (by decide) rfl (by decide +kernel) rfl d_Rk_choose_28 ?_
        refine lv_lconst (v := lN 1) hx hb d_Rk_choose_31 rfl ?_
        refine hw_cV (As := [.long (lN 1)]) (rest := []) S hI m_Wh_become w_329 (c_Wh_become l D t0 L _ _ o r 46 x8 33 1 (by omega) hY hW.N (by decide)) (hW.rc (i := 33) (by omega)).choose_spec rfl hl.1 rfl rfl (Nat.le_of_ble_eq_true rfl) d_Rk_choose_32 ⟨Nat.le_of_ble_eq_true rfl, Nat.le_of_ble_eq_true rfl⟩ ⟨Nat.le_of_ble_eq_true rfl, Nat.le_of_ble_eq_true rfl⟩ (fun v9 L9 f9 H locs hp hI => ?_)
        refine W.cs (cells' := 0) (slots' := 0) rfl rfl ?_
        obtain ⟨hv9, rfl, hN9, hf9⟩ := hp
        cases hv9
        refine hw_stk (st' := []) rfl ?_
        have hF := hF.wh (fun q h9 _ _ _ => hf9 q (h9 33 (by omega)).1 (h9 33 (by omega)).2)
        obtain ⟨x9, hW, e9, s9⟩ := (hW.wh hN9 (fun q h9 => hf9 q (h9 33 (by omega)).1 (h9 33 (by omega)).2)).cut
        have n9 : x9 33 = 1 := by rw [e9]
        have e32 : x9 32 = 0 := (s9 32 (by omega)).trans e32
        have e33 : x9 33 = 1 := n9
        have hs := fun z (hz : z < 32) => (s9 z (by omega)).trans (hs z hz)
        refine lv_aload_n hx hb d_Rk_choose_35 rfl (lv_at hl 0 rfl) ?_
        refine ob_get S hI hW.Rk (C := R_Rk) (T := F_Rk) (N := 7) (ref := "WallFractions$Reckoner") rfl i_Rk 2 (by decide) rfl w_134 rfl d_Rk_choose_36 ?_
        refine lv_iconst (v := nI 0) hx hb d_Rk_choose_39 (by decide) ?_
        refine hw_ti (show _ = sB (false) from rfl) ?_
        refine ob_putN S hI hW.Out (fs' := [.ref (o 32), .ref (o 33), .int (sB (false))]) (C := R_Fr) (T := F_Fr) (N := 3) (ref := "WallFractions$Fraction") rfl i_Fr t_Fr t_Fr_ok n_Fr 2 (by decide) rfl (by decide +kernel) rfl (sB_nar _) (sB_fit _) (by simp only [List.length]; decide) rfl d_Rk_choose_40 (fun f10 H locs hI hO9 hf10 => ?_)
        have hF := hF.sg (by decide) hf10
        obtain ⟨sg10, hW, g9, t9⟩ := (hW.sgn hg (by decide) hf10 (b := (false)) hO9).cutS
        have g16 : sg10 16 = (false) := g9
        have ht := fun z (hz : z < 16) => (t9 z (by omega)).trans (ht z hz)
        refine lv_iload_n hx hb d_Rk_choose_43 rfl (lv_at hl 2 rfl) ?_
        refine lv_iload_n hx hb d_Rk_choose_44 rfl (lv_at hl 1 rfl) ?_
        refine lv_iload_n hx hb d_Rk_choose_45 rfl (lv_at hl 2 rfl) ?_
        refine lv_isub hx hb d_Rk_choose_46 ?_
        refine hw_cS (As := [.int (k), .int ((nI n) - k)]) (rest := []) S hI m_Mt_min w_579 (c_Mt_min l D t0 L _ _ k (nI n - k)) hl.1 rfl rfl (Nat.le_of_ble_eq_true rfl) d_Rk_choose_47 ⟨Nat.le_of_ble_eq_true rfl, Nat.le_of_ble_eq_true rfl⟩ ⟨Nat.le_of_ble_eq_true rfl, Nat.le_of_ble_eq_true rfl⟩ (fun v9 L9 f11 H locs hp hI => ?_)
        refine W.cs (cells' := 0) (slots' := 0) rfl rfl ?_
        obtain ⟨hv9, rfl, rfl⟩ := hp
        cases hv9
        refine hw_stk (st' := [.int (if nI n - k < k then nI n - k else k)]) rfl ?_
        refine lv_istore_n (lv' := [(3, .int (if nI n - k < k then nI n - k else k)), (0, .ref (ak)), (1, .int (nI n)), (2, .int (k))]) hx hb d_Rk_choose_50 rfl hl (by decide) rfl (fun ls hl => ?_)
        refine lv_iconst (v := nI 1) hx hb d_Rk_choose_51 (by decide) ?_
        refine lv_istore (lv' := [(4, .int (nI 1)), (3, .int (if nI n - k < k then nI n - k else k)), (0, .ref (ak)), (1, .int (nI n)), (2, .int (k))]) hx hb d_Rk_choose_52 hl (by decide) rfl (fun ls hl => ?_)
        refine lv_iload hx hb d_Rk_choose_54 (lv_at hl 0 rfl) ?_
        refine lv_iload_n hx hb d_Rk_choose_56 rfl (lv_at hl 1 rfl) ?_
        refine lv_icmp_gt (tgt := 105) hx hb d_Rk_choose_57 (by decide) (fun c12 => ?_) (fun c12 => ?_)
        · exact hw_vret hx hb hr hlocks hI d_Rk_choose_105 ⟨rfl, rfl, x9, sg10, hW, (by rw [e32]; unfold chF; rw [if_pos hbd]), e33, g16, hs, ht, hF⟩
        · exact absurd (Int32.lt_trans (chk hn hbad) (show (0 : Int32) < nI 1 by decide)) c12
  · obtain ⟨j, hj, rfl⟩ : ∃ j, j ≤ n ∧ k = nI j := by rcases pk_ix k (show n + 1 < 2 ^ 31 by omega) with h | h | ⟨j, hj, h⟩; exact absurd (Or.inl h) hbad; exact absurd (Or.inr h) hbad; exact ⟨j, by omega, h⟩
    obtain ⟨M, hM⟩ : ∃ M, M = min j (n - j) := ⟨_, rfl⟩
    have hMn : M ≤ n := by omega
    have hch : chF n (nI j) = ch n M := by unfold chF; rw [if_neg (fun h => by rcases h with h | h; exact absurd h (nI_pos (by omega)); exact absurd ((nI_ltI (by omega) (by omega)).mp h) (by omega)), nI_clamp (by omega), hM]; rcases Nat.le_total j (n - j) with h | h; rw [Nat.min_eq_left h]; rw [Nat.min_eq_right h]; exact ch_sym n j hj
    have loop : ∀ (g t : Nat) (xx : Nat → Nat) (ss : Nat → Bool) (f1 : Nat → va_E) (H : Heap) (locs : List Loc) (ls : Array Slot), t + g = M + 1 → 1 ≤ t → xx 32 = ch (n - M + t - 1) (t - 1) → xx 33 = 1 → ss 16 = false → Wd D L f1 o r fr ad al ab am ak ah aw ar rg wf xx ss wt rs → (∀ z, z < 32 → xx z = x z) → (∀ k, k < 16 → ss k = sg k) → Fm o r fr ad al ab am ak ah aw ar rg wf f f1 → hw_I D t0 (hw_A L s.heap.size) s L f1 H locs → lv_has ls 5 [(4, .int (nI t)), (3, .int (nI M)), (1, .int (nI n)), (0, .ref (ak))] → W p l e (headSpec (Cond.code y_Rk_choose b_Rk_choose 5 none :: TT) ({ frames := 8, cells := 0, slots := 0, locals := 159 } : Room)).room s m ([.ref (ak), .int (nI n), .int (nI j)]).toArray below meth c H locs 0 0 (MQ below (hw_Q D L s.heap.size (fun oc L' f' => oc = .returned none ∧ L = L' ∧ ∃ x' sg', Wd D L f' o r fr ad al ab am ak ah aw ar rg wf x' sg' wt rs ∧ x' 32 = chF n (nI j) ∧ x' 33 = 1 ∧ sg' 16 = false ∧ (∀ z, z < 32 → x' z = x z) ∧ (∀ k, k < 16 → sg' k = sg k) ∧ Fm o r fr ad al ab am ak ah aw ar rg wf f f')) ([.ref (ak), .int (nI n), .int (nI j)]).toArray s 0 0 (hw_A L s.heap.size)) (F0 m 54 ls []) := by
      intro g
      induction g with
      | zero =>
        intro t xx ss f1 H locs ls htg ht1 e32 e33 g16 hW hs ht hF hI hl
        refine lv_iload hx hb d_Rk_choose_54 (lv_at hl 0 rfl) ?_
        refine lv_iload_n hx hb d_Rk_choose_56 rfl (lv_at hl 1 rfl) ?_
        refine hw_icmp_gt (tgt := 105) hx hb d_Rk_choose_57 (by decide) (by omega) (by omega) (fun c13 => ?_) (fun c13 => ?_)
        · exact hw_vret hx hb hr hlocks hI d_Rk_choose_105 ⟨rfl, rfl, xx, ss, hW, (by rw [e32, hch, show t = M + 1 by omega, show n - M + (M + 1) - 1 = n by omega, Nat.add_sub_cancel]), e33, g16, hs, ht, hF⟩
        · exact absurd c13 (by omega)
      | succ g ih =>
        intro t xx ss f1 H locs ls htg ht1 e32 e33 g16 hW hs ht hF hI hl
        refine lv_iload hx hb d_Rk_choose_54 (lv_at hl 0 rfl) ?_
        refine lv_iload_n hx hb d_Rk_choose_56 rfl (lv_at hl 1 rfl) ?_
        refine hw_icmp_gt (tgt := 105) hx hb d_Rk_choose_57 (by decide) (by omega) (by omega) (fun c14 => ?_) (fun c14 => ?_)
        · exact absurd c14 (by omega)
        · have hc1 := ch_le (n - M + t - 1) (t - 1)
          have hc2 := two500 (n := n - M + t - 1) (by omega)
          have h40 : xx 32 < nB ^ 40 := by rw [e32]; exact Nat.lt_of_le_of_lt hc1 (Nat.lt_of_lt_of_le hc2 (Nat.pow_le_pow_right nB_pos (by decide)))
          refine lv_aload_n hx hb d_Rk_choose_60 rfl (lv_at hl 3 rfl) ?_
          refine ob_get S hI hW.Rk (C := R_Rk) (T := F_Rk) (N := 7) (ref := "WallFractions$Reckoner") rfl i_Rk 2 (by decide) rfl w_134 rfl d_Rk_choose_61 ?_
          refine ob_getN S hI hW.Out (C := R_Fr) (T := F_Fr) (N := 3) (ref := "WallFractions$Fraction") rfl i_Fr 0 (by decide) rfl (by decide +kernel) rfl d_Rk_choose_64 ?_
          refine lv_iload_n hx hb d_Rk_choose_67 rfl (lv_at hl 2 rfl) ?_
          refine lv_iload_n hx hb d_Rk_choose_68 rfl (lv_at hl 1 rfl) ?_
          refine lv_isub hx hb d_Rk_choose_69 ?_
          refine hw_ti (pk_sub (by omega)) ?_
          refine lv_iload hx hb d_Rk_choose_70 (lv_at hl 0 rfl) ?_
          refine lv_iadd hx hb d_Rk_choose_72 ?_
          refine hw_ti (nI_add _ _) ?_
          refine lv_i2l (v := lN ((n - M) + t)) hx hb d_Rk_choose_73 (nI_l (by omega)) ?_
          refine lv_lconst (v := lN 0) hx hb d_Rk_choose_74 rfl ?_
          refine hw_cV (As := [.long (lN ((n - M) + t)), .long (lN 0)]) (rest := []) S hI m_Wh_grow w_381 (c_Wh_grow l D t0 L _ _ o r 46 xx 32 (n - M + t) 0 (by omega) hY hW.N h40 (by omega) nB_pos) (hW.rc (i := 32) (by omega)).choose_spec rfl hl.1 rfl rfl (Nat.le_of_ble_eq_true rfl) d_Rk_choose_75 ⟨Nat.le_of_ble_eq_true rfl, Nat.le_of_ble_eq_true rfl⟩ ⟨Nat.le_of_ble_eq_true rfl, Nat.le_of_ble_eq_true rfl⟩ (fun v9 L9 f15 H locs hp hI => ?_)
          refine W.cs (cells' := 0) (slots' := 0) rfl rfl ?_
          obtain ⟨hv9, rfl, hN9, hf9⟩ := hp
          cases hv9
          refine hw_stk (st' := []) rfl ?_
          have hF := hF.wh (fun q h9 _ _ _ => hf9 q (h9 32 (by omega)).1 (h9 32 (by omega)).2)
          obtain ⟨x15, hW, e9, s9⟩ := (hW.wh hN9 (fun q h9 => hf9 q (h9 32 (by omega)).1 (h9 32 (by omega)).2)).cut
          have n9 : x15 32 = ch (n - M + t - 1) (t - 1) * (n - M + t) := by rw [e9, e32, Nat.add_zero]
          have e33 : x15 33 = 1 := (s9 33 (by omega)).trans e33
          have e32 : x15 32 = ch (n - M + t - 1) (t - 1) * (n - M + t) := n9
          have hs := fun z (hz : z < 32) => (s9 z (by omega)).trans (hs z hz)
          refine lv_aload_n hx hb d_Rk_choose_78 rfl (lv_at hl 3 rfl) ?_
          refine ob_get S hI hW.Rk (C := R_Rk) (T := F_Rk) (N := 7) (ref := "WallFractions$Reckoner") rfl i_Rk 2 (by decide) rfl w_134 rfl d_Rk_choose_79 ?_
          refine ob_getN S hI hW.Out (C := R_Fr) (T := F_Fr) (N := 3) (ref := "WallFractions$Fraction") rfl i_Fr 0 (by decide) rfl (by decide +kernel) rfl d_Rk_choose_82 ?_
          refine lv_aload_n hx hb d_Rk_choose_85 rfl (lv_at hl 3 rfl) ?_
          refine ob_get S hI hW.Rk (C := R_Rk) (T := F_Rk) (N := 7) (ref := "WallFractions$Reckoner") rfl i_Rk 2 (by decide) rfl w_134 rfl d_Rk_choose_86 ?_
          refine ob_getN S hI hW.Out (C := R_Fr) (T := F_Fr) (N := 3) (ref := "WallFractions$Fraction") rfl i_Fr 0 (by decide) rfl (by decide +kernel) rfl d_Rk_choose_89 ?_
          refine lv_iload hx hb d_Rk_choose_92 (lv_at hl 0 rfl) ?_
          refine lv_i2l (v := lN t) hx hb d_Rk_choose_94 (nI_l (by omega)) ?_
          refine hw_cV (As := [.ref (o 32), .long (lN t)]) (rest := []) S hI m_Wh_becomeQuotient w_582 (c_Wh_becomeQuotient l D t0 L _ _ o r 46 x15 32 32 t (by omega) hY hW.N (by omega) (by omega) (by omega)) (hW.rc (i := 32) (by omega)).choose_spec rfl hl.1 rfl rfl (Nat.le_of_ble_eq_true rfl) d_Rk_choose_95 ⟨Nat.le_of_ble_eq_true rfl, Nat.le_of_ble_eq_true rfl⟩ ⟨Nat.le_of_ble_eq_true rfl, Nat.le_of_ble_eq_true rfl⟩ (fun v9 L9 f16 H locs hp hI => ?_)
          refine W.cs (cells' := 0) (slots' := 0) rfl rfl ?_
          obtain ⟨hv9, rfl, hN9, hf9⟩ := hp
          cases hv9
          refine hw_stk (st' := [.long (lN (x15 32 % t))]) rfl ?_
          have hF := hF.wh (fun q h9 _ _ _ => hf9 q (h9 32 (by omega)).1 (h9 32 (by omega)).2)
          obtain ⟨x16, hW, e9, s9⟩ := (hW.wh hN9 (fun q h9 => hf9 q (h9 32 (by omega)).1 (h9 32 (by omega)).2)).cut
          have n9 : x16 32 = ch (n - M + t) t := by rw [e9, e32, ch_up (by omega)]
          have e33 : x16 33 = 1 := (s9 33 (by omega)).trans e33
          have e32 : x16 32 = ch (n - M + t) t := n9
          have hs := fun z (hz : z < 32) => (s9 z (by omega)).trans (hs z hz)
          refine lv_pop2_2 hx hb d_Rk_choose_98 rfl ?_
          refine lv_iinc (v := nI (t + 1)) (lv' := [(4, .int (nI (t + 1))), (3, .int (nI M)), (1, .int (nI n)), (0, .ref (ak))]) hx hb d_Rk_choose_99 hl (k := 0) rfl (nI_1 _) (by decide) rfl (fun ls hl => ?_)
          refine lv_goto (tgt := 54) hx hb d_Rk_choose_102 (by decide) ?_
          exact ih (t + 1) _ _ _ _ _ _ (by omega) (by omega) (by rw [e32]; rfl) e33 g16 hW hs ht hF hI hl
    refine hw_if_lt (tgt := 16) hx hb d_Rk_choose_8 (by decide) (by omega) ?_
    refine lv_iload_n hx hb d_Rk_choose_11 rfl (lv_at hl 2 rfl) ?_
    refine lv_iload_n hx hb d_Rk_choose_12 rfl (lv_at hl 1 rfl) ?_
    refine hw_icmp_le (tgt := 20) hx hb d_Rk_choose_13 (by decide) (by omega) (by omega) (fun c17 => ?_) (fun c17 => ?_)
    · refine lv_lconst (v := lN 1) hx hb d_Rk_choose_20 rfl ?_
      refine hw_cV (As := [.long (lN 1)]) (rest := []) S hI m_Wh_become w_329 (c_Wh_become l D t0 L _ _ o r 46 x 32 1 (by omega) hY hW.N (by decide)) (hW.rc (i := 32) (by omega)).choose_spec rfl hl.1 rfl rfl (Nat.le_of_ble_eq_true rfl) d_Rk_choose_21 ⟨Nat.le_of_ble_eq_true rfl, Nat.le_of_ble_eq_true rfl⟩ ⟨Nat.le_of_ble_eq_true rfl, Nat.le_of_ble_eq_true rfl⟩ (fun v9 L9 f18 H locs hp hI => ?_)
      refine W.cs (cells' := 0) (slots' := 0) rfl rfl ?_
      obtain ⟨hv9, rfl, hN9, hf9⟩ := hp
      cases hv9
      refine hw_stk (st' := []) rfl ?_
      have hF := hF.wh (fun q h9 _ _ _ => hf9 q (h9 32 (by omega)).1 (h9 32 (by omega)).2)
      obtain ⟨x18, hW, e9, s9⟩ := (hW.wh hN9 (fun q h9 => hf9 q (h9 32 (by omega)).1 (h9 32 (by omega)).2)).cut
      have n9 : x18 32 = 1 := by rw [e9]
      have e32 : x18 32 = 1 := n9
      have hs := fun z (hz : z < 32) => (s9 z (by omega)).trans (hs z hz)
      refine lv_aload_n hx hb d_Rk_choose_24 rfl (lv_at hl 0 rfl) ?_
      refine ob_get S hI hW.Rk (C := R_Rk) (T := F_Rk) (N := 7) (ref := "WallFractions$Reckoner") rfl i_Rk 2 (by decide) rfl w_134 rfl d_Rk_choose_25 ?_
      refine ob_getN S hI hW.Out (C := R_Fr) (T := F_Fr) (N := 3) (ref := "WallFractions$Fraction") rfl i_Fr 1 (by decide) rfl (by decide +kernel) rfl d_Rk_choose_28 ?_
      refine lv_lconst (v := lN 1) hx hb d_Rk_choose_31 rfl ?_
      refine hw_cV (As := [.long (lN 1)]) (rest := []) S hI m_Wh_become w_329 (c_Wh_become l D t0 L _ _ o r 46 x18 33 1 (by omega) hY hW.N (by decide)) (hW.rc (i := 33) (by omega)).choose_spec rfl hl.1 rfl rfl (Nat.le_of_ble_eq_true rfl) d_Rk_choose_32 ⟨Nat.le_of_ble_eq_true rfl, Nat.le_of_ble_eq_true rfl⟩ ⟨Nat.le_of_ble_eq_true rfl, Nat.le_of_ble_eq_true rfl⟩ (fun v9 L9 f19 H locs hp hI => ?_)
      refine W.cs (cells' := 0) (slots' := 0) rfl rfl ?_
      obtain ⟨hv9, rfl, hN9, hf9⟩ := hp
      cases hv9
      refine hw_stk (st' := []) rfl ?_
      have hF := hF.wh (fun q h9 _ _ _ => hf9 q (h9 33 (by omega)).1 (h9 33 (by omega)).2)
      obtain ⟨x19, hW, e9, s9⟩ := (hW.wh hN9 (fun q h9 => hf9 q (h9 33 (by omega)).1 (h9 33 (by omega)).2)).cut
      have n9 : x19 33 = 1 := by rw [e9]
      have e32 : x19 32 = 1 := (s9 32 (by omega)).trans e32
      have e33 : x19 33 = 1 := n9
      have hs := fun z (hz : z < 32) => (s9 z (by omega)).trans (hs z hz)
      refine lv_aload_n hx hb d_Rk_choose_35 rfl (lv_at hl 0 rfl) ?_
      refine ob_get S hI hW.Rk (C := R_Rk) (T := F_Rk) (N := 7) (ref := "WallFractions$Reckoner") rfl i_Rk 2 (by decide) rfl w_134 rfl d_Rk_choose_36 ?_
      refine lv_iconst (v := nI 0) hx hb d_Rk_choose_39 (by decide) ?_
      refine hw_ti (show _ = sB (false) from rfl) ?_
      refine ob_putN S hI hW.Out (fs' := [.ref (o 32), .ref (o 33), .int (sB (false))]) (C := R_Fr) (T := F_Fr) (N := 3) (ref := "WallFractions$Fraction") rfl i_Fr t_Fr t_Fr_ok n_Fr 2 (by decide) rfl (by decide +kernel) rfl (sB_nar _) (sB_fit _) (by simp only [List.length]; decide) rfl d_Rk_choose_40 (fun f20 H locs hI hO9 hf20 => ?_)
      have hF := hF.sg (by decide) hf20
      obtain ⟨sg20, hW, g9, t9⟩ := (hW.sgn hg (by decide) hf20 (b := (false)) hO9).cutS
      have g16 : sg20 16 = (false) := g9
      have ht := fun z (hz : z < 16) => (t9 z (by omega)).trans (ht z hz)
      refine lv_iload_n hx hb d_Rk_choose_43 rfl (lv_at hl 2 rfl) ?_
      refine lv_iload_n hx hb d_Rk_choose_44 rfl (lv_at hl 1 rfl) ?_
      refine lv_iload_n hx hb d_Rk_choose_45 rfl (lv_at hl 2 rfl) ?_
      refine lv_isub hx hb d_Rk_choose_46 ?_
      refine hw_ti (pk_sub (by omega)) ?_
      refine hw_cS (As := [.int (nI j), .int (nI (n - j))]) (rest := []) S hI m_Mt_min w_579 (c_Mt_min l D t0 L _ _ (nI j) (nI (n - j))) hl.1 rfl rfl (Nat.le_of_ble_eq_true rfl) d_Rk_choose_47 ⟨Nat.le_of_ble_eq_true rfl, Nat.le_of_ble_eq_true rfl⟩ ⟨Nat.le_of_ble_eq_true rfl, Nat.le_of_ble_eq_true rfl⟩ (fun v9 L9 f21 H locs hp hI => ?_)
      refine W.cs (cells' := 0) (slots' := 0) rfl rfl ?_
      obtain ⟨hv9, rfl, rfl⟩ := hp
      cases hv9
      refine hw_stk (st' := [.int (if nI (n - j) < nI j then nI (n - j) else nI j)]) rfl ?_
      refine hw_ti (show _ = nI M from by rw [hM]; rcases Nat.lt_or_ge (n - j) j with h | h; (rw [if_pos (nI_lt h (by omega)), Nat.min_eq_right (by omega)]); (rw [if_neg (nI_nlt h (by omega)), Nat.min_eq_left (by omega)])) ?_
      refine lv_istore_n (lv' := [(3, .int (nI M)), (0, .ref (ak)), (1, .int (nI n)), (2, .int (nI j))]) hx hb d_Rk_choose_50 rfl hl (by decide) rfl (fun ls hl => ?_)
      refine lv_iconst (v := nI 1) hx hb d_Rk_choose_51 (by decide) ?_
      refine lv_istore (lv' := [(4, .int (nI 1)), (3, .int (nI M)), (0, .ref (ak)), (1, .int (nI n)), (2, .int (nI j))]) hx hb d_Rk_choose_52 hl (by decide) rfl (fun ls hl => ?_)
      exact loop M 1 _ _ _ _ _ _ (by omega) (by omega) (by rw [e32, Nat.sub_self, ch_0]) e33 g16 hW hs ht hF hI (lv_sub hl [0, 1, 3, 2] rfl)
    · exact absurd c17 (by omega)

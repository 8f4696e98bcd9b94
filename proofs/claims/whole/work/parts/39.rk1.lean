theorem gdiv0 {n d : Nat} (h : 0 < Nat.gcd n d) : n / Nat.gcd n d = 0 ↔ n = 0 := by
  rcases Nat.eq_zero_or_pos n with e | e
  · subst e
    simp
  · have h1 := Nat.gcd_le_left d e
    have h2 : 0 < n / Nat.gcd n d := Nat.div_pos h1 h
    omega
theorem gpos {n d : Nat} (h : 0 < n ∨ 0 < d) : 0 < Nat.gcd n d := by
  rcases h with h | h
  · exact Nat.gcd_pos_of_pos_left _ h
  · exact Nat.gcd_pos_of_pos_right _ h
def sgz (n : Nat) (b : Bool) : Bool := if n = 0 then false else b
theorem mul_lt_pow {a b n m : Nat} (ha : a < nB ^ n) (hb : b < nB ^ m) : a * b < nB ^ (n + m) := by
  rw [Nat.pow_add]
  exact Nat.mul_lt_mul_of_le_of_lt (Nat.le_of_lt ha) hb (Nat.pow_pos nB_pos)
set_option maxHeartbeats 4000000 in
set_option maxRecDepth 100000 in
theorem c_Rk_reduce (l : Launch) (D : va_G) (t0 : Nat) (L : List Nat) (f : Nat → va_E) (sz : Nat) (o r fr : Nat → Nat) (ad al ab am ak ah aw ar rg wf : Nat) (x : Nat → Nat) (sg : Nat → Bool) (wt rs : Nat → Nat) (hg : Gl o r fr ad al ab am ak ah aw ar rg wf) (hW : Wd D L f o r fr ad al ab am ak ah aw ar rg wf x sg wt rs) (h0 : 0 < x 32 ∨ 0 < x 33) : Met l y_Rk_reduce (Cond.code y_Rk_reduce b_Rk_reduce 2 none :: TT) ({ frames := 10, cells := 0, slots := 0, locals := 216 } : Room) (hw_Pc t0 [.ref (ak)] D L f sz) (hw_Q D L sz (fun oc L' f' => oc = .returned none ∧ L = L' ∧ ∃ x' sg', Wd D L f' o r fr ad al ab am ak ah aw ar rg wf x' sg' wt rs ∧ x' 32 = x 32 / Nat.gcd (x 32) (x 33) ∧ x' 33 = x 33 / Nat.gcd (x 32) (x 33) ∧ sg' 16 = sgz (x 32) (sg 16) ∧ (∀ z, z < 32 → x' z = x z) ∧ (∀ k, k < 16 → sg' k = sg k) ∧ Fm o r fr ad al ab am ak ah aw ar rg wf f f')) 0 0 (hw_A L sz) := by
  refine Met.ofW (cc := b_Rk_reduce) (maxL := 2) (ret := none) (by decide) rfl ?_
  intro p e s m args below meth c s₁ B hml hv
  obtain ⟨rfl, rfl, hI⟩ := hw_start hv
  clear hv
  have hx := B.exec
  have hb := B.bytes
  have hr := B.returns
  have hlocks := B.notSynchronized
  have hown : s.vm.findClass "WallFractions$Reckoner" = some m.cls := findClass_of_methodNamed B.named
  have hT : ∀ w ∈ TT, w.before ([.ref (ak)]).toArray s = true := fun w h => atoms_spec (ws := (Cond.code y_Rk_reduce b_Rk_reduce 2 none :: TT)) B.pre w (List.mem_cons_of_mem _ h)
  have S : CallFix p m c b_Rk_reduce 2 s ([.ref (ak)]).toArray TT "WallFractions$Reckoner" := ⟨hx, hb, hml, hown, hT⟩
  have hl := lv_entry ([.ref (ak)]) (n := 2) (Nat.le_of_ble_eq_true rfl)
  rw [lg_entry_eq]
  generalize (lg_sl ([.ref (ak)]) ++ List.replicate (2 - (lg_sl ([.ref (ak)])).length) Slot.unset).toArray = ls at hl ⊢
  have hl : lv_has ls 2 [(0, .ref (ak))] := hl
  skip
  have hY := hg.1
  have hF : Fm o r fr ad al ab am ak ah aw ar rg wf f f := Fm.refl
  have hs : ∀ z, z < 32 → x z = x z := fun _ _ => rfl
  have ht : ∀ k, k < 16 → sg k = sg k := fun _ _ => rfl
  obtain ⟨n0, hn0⟩ : ∃ n0, n0 = x 32 := ⟨_, rfl⟩
  obtain ⟨d0, hd0⟩ : ∃ d0, d0 = x 33 := ⟨_, rfl⟩
  obtain ⟨g, hgg⟩ : ∃ g, g = Nat.gcd n0 d0 := ⟨_, rfl⟩
  have e32 : x 32 = n0 := hn0.symm
  have e33 : x 33 = d0 := hd0.symm
  have hgp : 0 < g := by rw [hgg, hn0, hd0]; exact gpos h0
  obtain ⟨G8, Ls8, Rs8, a8, b8, c8, d8, hT8, hM8⟩ := hW.Ms
  obtain ⟨u8, w8, hA8, hU8, hWb8⟩ := hW.Dv
  refine lv_aload_n hx hb d_Rk_reduce_0 rfl (lv_at hl 0 rfl) ?_
  refine ob_get S hI hW.Rk (C := R_Rk) (T := F_Rk) (N := 7) (ref := "WallFractions$Reckoner") rfl i_Rk 1 (by decide) rfl w_133 rfl d_Rk_reduce_1 ?_
  refine lv_aload_n hx hb d_Rk_reduce_4 rfl (lv_at hl 0 rfl) ?_
  refine ob_get S hI hW.Rk (C := R_Rk) (T := F_Rk) (N := 7) (ref := "WallFractions$Reckoner") rfl i_Rk 2 (by decide) rfl w_134 rfl d_Rk_reduce_5 ?_
  refine ob_getN S hI hW.Out (C := R_Fr) (T := F_Fr) (N := 3) (ref := "WallFractions$Fraction") rfl i_Fr 0 (by decide) rfl (by decide +kernel) rfl d_Rk_reduce_8 ?_
  refine lv_aload_n hx hb d_Rk_reduce_11 rfl (lv_at hl 0 rfl) ?_
  refine ob_get S hI hW.Rk (C := R_Rk) (T := F_Rk) (N := 7) (ref := "WallFractions$Reckoner") rfl i_Rk 2 (by decide) rfl w_134 rfl d_Rk_reduce_12 ?_
  refine ob_getN S hI hW.Out (C := R_Fr) (T := F_Fr) (N := 3) (ref := "WallFractions$Fraction") rfl i_Fr 1 (by decide) rfl (by decide +kernel) rfl d_Rk_reduce_15 ?_
  refine hw_cV (As := [.ref (o 32), .ref (o 33)]) (rest := []) S hI m_Ms_of w_434 (c_Ms_of l D t0 L _ _ o r am ad al ab G8 Ls8 Rs8 a8 b8 c8 d8 x u8 w8 32 33 hY hM8 hW.N hA8 hU8 hWb8 hg.2.1 hT8 (by omega) (by omega) (by omega) (by omega) h0) hM8 rfl hl.1 rfl rfl (Nat.le_of_ble_eq_true rfl) d_Rk_reduce_18 ⟨Nat.le_of_ble_eq_true rfl, Nat.le_of_ble_eq_true rfl⟩ ⟨Nat.le_of_ble_eq_true rfl, Nat.le_of_ble_eq_true rfl⟩ (fun v9 L9 f1 H locs hp hI => ?_)
  refine W.cs (cells' := 0) (slots' := 0) rfl rfl ?_
  obtain ⟨rfl, G9, Ls9, Rs9, ea9, eb9, ec9, ed9, xm, u9, w9, hv9, hT9, hM9, hN9, e9, s9, hU9, hWb9, hf9⟩ := hp
  cases hv9
  refine hw_stk (st' := [.ref (o G9)]) rfl ?_
  have hF := hF.wh (fun q h h1 h2 h3 => hf9 q h3 h1 h2 (fun i hi hi2 => h i (by omega)))
  have hW := hW.all hN9 ⟨u9, w9, hU9, hWb9⟩ ⟨G9, Ls9, Rs9, ea9, eb9, ec9, ed9, hT9, hM9⟩ (fun q h h1 h2 h3 => hf9 q h3 h1 h2 (fun i hi hi2 => h i (by omega)))
  obtain ⟨t1, t2, -⟩ := hT9
  have e32 : xm 32 = n0 := (s9 32 (by omega)).trans e32
  have e33 : xm 33 = d0 := (s9 33 (by omega)).trans e33
  have hs := fun z (hz : z < 32) => (s9 z (by omega)).trans (hs z hz)
  have eG9 : xm G9 = g := by rw [e9, ← hn0, ← hd0, hgg]
  refine lv_astore_n (lv' := [(1, .ref (o G9)), (0, .ref (ak))]) hx hb d_Rk_reduce_21 rfl hl (by decide) rfl (fun ls hl => ?_)
  refine lv_aload_n hx hb d_Rk_reduce_22 rfl (lv_at hl 0 rfl) ?_
  refine hw_cV (As := []) (rest := []) S hI m_Wh_isOne w_519 (c_Wh_isOne l D t0 L _ _ o r 46 xm G9 (by omega) hY hW.N) (hW.rc (i := G9) (by omega)).choose_spec rfl hl.1 rfl rfl (Nat.le_of_ble_eq_true rfl) d_Rk_reduce_23 ⟨Nat.le_of_ble_eq_true rfl, Nat.le_of_ble_eq_true rfl⟩ ⟨Nat.le_of_ble_eq_true rfl, Nat.le_of_ble_eq_true rfl⟩ (fun v9 L9 f2 H locs hp hI => ?_)
  refine W.cs (cells' := 0) (slots' := 0) rfl rfl ?_
  obtain ⟨hv9, rfl, rfl⟩ := hp
  cases hv9
  refine hw_stk (st' := [.int (if xm G9 = 1 then nI 1 else nI 0)]) rfl ?_
  by_cases hz : xm G9 = 1
  · refine hw_ti (show _ = nI 1 from if_pos hz) ?_
    refine hw_if_ne (tgt := 81) hx hb d_Rk_reduce_26 (by decide) (by omega) (fun c3 => ?_) (fun c3 => ?_)
    · have hg1 : g = 1 := by rw [← eG9]; exact hz
      refine lv_aload_n hx hb d_Rk_reduce_81 rfl (lv_at hl 1 rfl) ?_
      refine ob_get S hI hW.Rk (C := R_Rk) (T := F_Rk) (N := 7) (ref := "WallFractions$Reckoner") rfl i_Rk 2 (by decide) rfl w_134 rfl d_Rk_reduce_82 ?_
      refine ob_getN S hI hW.Out (C := R_Fr) (T := F_Fr) (N := 3) (ref := "WallFractions$Fraction") rfl i_Fr 0 (by decide) rfl (by decide +kernel) rfl d_Rk_reduce_85 ?_
      refine hw_cV (As := []) (rest := []) S hI m_Wh_isZero w_521 (c_Wh_isZero l D t0 L _ _ o r 46 xm 32 (by omega) hY hW.N) (hW.rc (i := 32) (by omega)).choose_spec rfl hl.1 rfl rfl (Nat.le_of_ble_eq_true rfl) d_Rk_reduce_88 ⟨Nat.le_of_ble_eq_true rfl, Nat.le_of_ble_eq_true rfl⟩ ⟨Nat.le_of_ble_eq_true rfl, Nat.le_of_ble_eq_true rfl⟩ (fun v9 L9 f4 H locs hp hI => ?_)
      refine W.cs (cells' := 0) (slots' := 0) rfl rfl ?_
      obtain ⟨hv9, rfl, rfl⟩ := hp
      cases hv9
      refine hw_stk (st' := [.int (if xm 32 = 0 then nI 1 else nI 0)]) rfl ?_
      have hz0 : xm 32 = 0 ↔ x 32 = 0 := by rw [e32, ← hn0]
      by_cases hy : xm 32 = 0
      · refine hw_ti (show _ = nI 1 from if_pos hy) ?_
        refine hw_if_eq (tgt := 102) hx hb d_Rk_reduce_91 (by decide) (by omega) (fun c5 => ?_) (fun c5 => ?_)
        · exact absurd c5 (by decide)
        · refine lv_aload_n hx hb d_Rk_reduce_94 rfl (lv_at hl 1 rfl) ?_
          refine ob_get S hI hW.Rk (C := R_Rk) (T := F_Rk) (N := 7) (ref := "WallFractions$Reckoner") rfl i_Rk 2 (by decide) rfl w_134 rfl d_Rk_reduce_95 ?_
          refine lv_iconst (v := nI 0) hx hb d_Rk_reduce_98 (by decide) ?_
          refine hw_ti (show _ = sB (false) from rfl) ?_
          refine ob_putN S hI hW.Out (fs' := [.ref (o 32), .ref (o 33), .int (sB (false))]) (C := R_Fr) (T := F_Fr) (N := 3) (ref := "WallFractions$Fraction") rfl i_Fr t_Fr t_Fr_ok n_Fr 2 (by decide) rfl (by decide +kernel) rfl (sB_nar _) (sB_fit _) (by simp only [List.length]; decide) rfl d_Rk_reduce_99 (fun f6 H locs hI hO9 hf6 => ?_)
          have hF := hF.sg (by decide) hf6
          obtain ⟨sg6, hW, g9, t9⟩ := (hW.sgn hg (by decide) hf6 (b := (false)) hO9).cutS
          have g16 : sg6 16 = (false) := g9
          have ht := fun z (hz : z < 16) => (t9 z (by omega)).trans (ht z hz)
          exact hw_vret hx hb hr hlocks hI d_Rk_reduce_102 ⟨rfl, rfl, xm, sg6, hW, (by rw [e32, ← hn0, ← hd0, ← hgg, hg1, Nat.div_one]), (by rw [e33, ← hn0, ← hd0, ← hgg, hg1, Nat.div_one]), (by rw [g16]; unfold sgz; rw [if_pos (hz0.mp hy)]), hs, ht, hF⟩
      · refine hw_ti (show _ = nI 0 from if_neg hy) ?_
        refine hw_if_eq (tgt := 102) hx hb d_Rk_reduce_91 (by decide) (by omega) (fun c7 => ?_) (fun c7 => ?_)
        · exact hw_vret hx hb hr hlocks hI d_Rk_reduce_102 ⟨rfl, rfl, xm, sg, hW, (by rw [e32, ← hn0, ← hd0, ← hgg, hg1, Nat.div_one]), (by rw [e33, ← hn0, ← hd0, ← hgg, hg1, Nat.div_one]), (by unfold sgz; rw [if_neg (fun h => hy (hz0.mpr h))]), hs, ht, hF⟩
        · exact absurd rfl c7
    · exact absurd c3 (by decide)
  · refine hw_ti (show _ = nI 0 from if_neg hz) ?_
    refine hw_if_ne (tgt := 81) hx hb d_Rk_reduce_26 (by decide) (by omega) (fun c8 => ?_) (fun c8 => ?_)
    · exact absurd rfl c8
    · refine lv_aload_n hx hb d_Rk_reduce_29 rfl (lv_at hl 1 rfl) ?_
      refine ob_get S hI hW.Rk (C := R_Rk) (T := F_Rk) (N := 7) (ref := "WallFractions$Reckoner") rfl i_Rk 0 (by decide) rfl w_132 rfl d_Rk_reduce_30 ?_
      refine lv_aload_n hx hb d_Rk_reduce_33 rfl (lv_at hl 1 rfl) ?_
      refine ob_get S hI hW.Rk (C := R_Rk) (T := F_Rk) (N := 7) (ref := "WallFractions$Reckoner") rfl i_Rk 2 (by decide) rfl w_134 rfl d_Rk_reduce_34 ?_
      refine ob_getN S hI hW.Out (C := R_Fr) (T := F_Fr) (N := 3) (ref := "WallFractions$Fraction") rfl i_Fr 0 (by decide) rfl (by decide +kernel) rfl d_Rk_reduce_37 ?_
      refine lv_aload_n hx hb d_Rk_reduce_40 rfl (lv_at hl 0 rfl) ?_
      refine lv_aload_n hx hb d_Rk_reduce_41 rfl (lv_at hl 1 rfl) ?_
      refine ob_get S hI hW.Rk (C := R_Rk) (T := F_Rk) (N := 7) (ref := "WallFractions$Reckoner") rfl i_Rk 2 (by decide) rfl w_134 rfl d_Rk_reduce_42 ?_
      refine ob_getN S hI hW.Out (C := R_Fr) (T := F_Fr) (N := 3) (ref := "WallFractions$Fraction") rfl i_Fr 0 (by decide) rfl (by decide +kernel) rfl d_Rk_reduce_45 ?_
      refine lv_aload_n hx hb d_Rk_reduce_48 rfl (lv_at hl 1 rfl) ?_
      refine ob_get S hI hW.Rk (C := R_Rk) (T := F_Rk) (N := 7) (ref := "WallFractions$Reckoner") rfl i_Rk 6 (by decide) rfl w_139 rfl d_Rk_reduce_49 ?_
      obtain ⟨u9, w9, hA9, hU9, hWb9⟩ := hW.Dv
      refine hw_cV (As := [.ref (o 32), .ref (o G9), .ref (o 32), .ref (o 37)]) (rest := []) S hI m_Dv_split w_520 (c_Dv_split l D t0 L _ _ o r 46 xm ad al ab u9 w9 32 G9 32 37 hY hW.N hA9 hU9 hWb9 hg.2.1 hW.off.1 hW.off.2.1 (by omega) (by omega) (by omega) (by omega) (by omega) (by rw [eG9]; exact hgp)) hA9 rfl hl.1 rfl rfl (Nat.le_of_ble_eq_true rfl) d_Rk_reduce_52 ⟨Nat.le_of_ble_eq_true rfl, Nat.le_of_ble_eq_true rfl⟩ ⟨Nat.le_of_ble_eq_true rfl, Nat.le_of_ble_eq_true rfl⟩ (fun v9 L9 f9 H locs hp hI => ?_)
      refine W.cs (cells' := 0) (slots' := 0) rfl rfl ?_
      obtain ⟨hv9, rfl, hN9, hd9, hf9⟩ := hp
      cases hv9
      refine hw_stk (st' := []) rfl ?_
      have hF := hF.wh (fun q h9 h7 h8 _ => hf9 q (h9 32 (by omega)).1 (h9 32 (by omega)).2 (h9 37 (by omega)).1 (h9 37 (by omega)).2 h7 h8)
      obtain ⟨x9, hW, e9, e8, s9⟩ := (hW.sp hN9 hd9 (fun q h9 h7 h8 => hf9 q (h9 32 (by omega)).1 (h9 32 (by omega)).2 (h9 37 (by omega)).1 (h9 37 (by omega)).2 h7 h8)).cut2 (by omega)
      have n9 : x9 32 = n0 / g := by rw [e9, e32, eG9]
      have n8 : x9 37 = n0 % g := by rw [e8, e32, eG9]
      have e33 : x9 33 = d0 := (s9 33 (by omega) (by omega)).trans e33
      have eG9 : x9 G9 = g := (s9 G9 (by omega) (by omega)).trans eG9
      have e32 : x9 32 = n0 / g := n9
      have e37 : x9 37 = n0 % g := n8
      have hs := fun z (hz : z < 32) => (s9 z (by omega) (by omega)).trans (hs z hz)
      refine lv_aload_n hx hb d_Rk_reduce_55 rfl (lv_at hl 1 rfl) ?_
      refine ob_get S hI hW.Rk (C := R_Rk) (T := F_Rk) (N := 7) (ref := "WallFractions$Reckoner") rfl i_Rk 0 (by decide) rfl w_132 rfl d_Rk_reduce_56 ?_
      refine lv_aload_n hx hb d_Rk_reduce_59 rfl (lv_at hl 1 rfl) ?_
      refine ob_get S hI hW.Rk (C := R_Rk) (T := F_Rk) (N := 7) (ref := "WallFractions$Reckoner") rfl i_Rk 2 (by decide) rfl w_134 rfl d_Rk_reduce_60 ?_
      refine ob_getN S hI hW.Out (C := R_Fr) (T := F_Fr) (N := 3) (ref := "WallFractions$Fraction") rfl i_Fr 1 (by decide) rfl (by decide +kernel) rfl d_Rk_reduce_63 ?_
      refine lv_aload_n hx hb d_Rk_reduce_66 rfl (lv_at hl 0 rfl) ?_
      refine lv_aload_n hx hb d_Rk_reduce_67 rfl (lv_at hl 1 rfl) ?_
      refine ob_get S hI hW.Rk (C := R_Rk) (T := F_Rk) (N := 7) (ref := "WallFractions$Reckoner") rfl i_Rk 2 (by decide) rfl w_134 rfl d_Rk_reduce_68 ?_
      refine ob_getN S hI hW.Out (C := R_Fr) (T := F_Fr) (N := 3) (ref := "WallFractions$Fraction") rfl i_Fr 1 (by decide) rfl (by decide +kernel) rfl d_Rk_reduce_71 ?_
      refine lv_aload_n hx hb d_Rk_reduce_74 rfl (lv_at hl 1 rfl) ?_
      refine ob_get S hI hW.Rk (C := R_Rk) (T := F_Rk) (N := 7) (ref := "WallFractions$Reckoner") rfl i_Rk 6 (by decide) rfl w_139 rfl d_Rk_reduce_75 ?_
      obtain ⟨u9, w9, hA9, hU9, hWb9⟩ := hW.Dv
      refine hw_cV (As := [.ref (o 33), .ref (o G9), .ref (o 33), .ref (o 37)]) (rest := []) S hI m_Dv_split w_520 (c_Dv_split l D t0 L _ _ o r 46 x9 ad al ab u9 w9 33 G9 33 37 hY hW.N hA9 hU9 hWb9 hg.2.1 hW.off.1 hW.off.2.1 (by omega) (by omega) (by omega) (by omega) (by omega) (by rw [eG9]; exact hgp)) hA9 rfl hl.1 rfl rfl (Nat.le_of_ble_eq_true rfl) d_Rk_reduce_78 ⟨Nat.le_of_ble_eq_true rfl, Nat.le_of_ble_eq_true rfl⟩ ⟨Nat.le_of_ble_eq_true rfl, Nat.le_of_ble_eq_true rfl⟩ (fun v9 L9 f10 H locs hp hI => ?_)
      refine W.cs (cells' := 0) (slots' := 0) rfl rfl ?_
      obtain ⟨hv9, rfl, hN9, hd9, hf9⟩ := hp
      cases hv9
      refine hw_stk (st' := []) rfl ?_
      have hF := hF.wh (fun q h9 h7 h8 _ => hf9 q (h9 33 (by omega)).1 (h9 33 (by omega)).2 (h9 37 (by omega)).1 (h9 37 (by omega)).2 h7 h8)
      obtain ⟨x10, hW, e9, e8, s9⟩ := (hW.sp hN9 hd9 (fun q h9 h7 h8 => hf9 q (h9 33 (by omega)).1 (h9 33 (by omega)).2 (h9 37 (by omega)).1 (h9 37 (by omega)).2 h7 h8)).cut2 (by omega)
      have n9 : x10 33 = d0 / g := by rw [e9, e33, eG9]
      have n8 : x10 37 = d0 % g := by rw [e8, e33, eG9]
      have e32 : x10 32 = n0 / g := (s9 32 (by omega) (by omega)).trans e32
      have eG9 : x10 G9 = g := (s9 G9 (by omega) (by omega)).trans eG9
      have e33 : x10 33 = d0 / g := n9
      have e37 : x10 37 = d0 % g := n8
      have hs := fun z (hz : z < 32) => (s9 z (by omega) (by omega)).trans (hs z hz)
      refine lv_aload_n hx hb d_Rk_reduce_81 rfl (lv_at hl 1 rfl) ?_
      refine ob_get S hI hW.Rk (C := R_Rk) (T := F_Rk) (N := 7) (ref := "WallFractions$Reckoner") rfl i_Rk 2 (by decide) rfl w_134 rfl d_Rk_reduce_82 ?_
      refine ob_getN S hI hW.Out (C := R_Fr) (T := F_Fr) (N := 3) (ref := "WallFractions$Fraction") rfl i_Fr 0 (by decide) rfl (by decide +kernel) rfl d_Rk_reduce_85 ?_
      refine hw_cV (As := []) (rest := []) S hI m_Wh_isZero w_521 (c_Wh_isZero l D t0 L _ _ o r 46 x10 32 (by omega) hY hW.N) (hW.rc (i := 32) (by omega)).choose_spec rfl hl.1 rfl rfl (Nat.le_of_ble_eq_true rfl) d_Rk_reduce_88 ⟨Nat.le_of_ble_eq_true rfl, Nat.le_of_ble_eq_true rfl⟩ ⟨Nat.le_of_ble_eq_true rfl, Nat.le_of_ble_eq_true rfl⟩ (fun v9 L9 f11 H locs hp hI => ?_)
      refine W.cs (cells' := 0) (slots' := 0) rfl rfl ?_
      obtain ⟨hv9, rfl, rfl⟩ := hp
      cases hv9
      refine hw_stk (st' := [.int (if x10 32 = 0 then nI 1 else nI 0)]) rfl ?_
      have hz0 : x10 32 = 0 ↔ x 32 = 0 := by rw [e32, hgg, ← hn0]; exact gdiv0 (by rw [← hgg]; exact hgp)
      by_cases hy : x10 32 = 0
      · refine hw_ti (show _ = nI 1 from if_pos hy) ?_
        refine hw_if_eq (tgt := 102) hx hb d_Rk_reduce_91 (by decide) (by omega) (fun c12 => ?_) (fun c12 => ?_)
        · exact absurd c12 (by decide)
        · refine lv_aload_n hx hb d_Rk_reduce_94 rfl (lv_at hl 1 rfl) ?_
          refine ob_get S hI hW.Rk (C := R_Rk) (T := F_Rk) (N := 7) (ref := "WallFractions$Reckoner") rfl i_Rk 2 (by decide) rfl w_134 rfl d_Rk_reduce_95 ?_
          refine lv_iconst (v := nI 0) hx hb d_Rk_reduce_98 (by decide) ?_
          refine hw_ti (show _ = sB (false) from rfl) ?_
          refine ob_putN S hI hW.Out (fs' := [.ref (o 32), .ref (o 33), .int (sB (false))]) (C := R_Fr) (T := F_Fr) (N := 3) (ref := "WallFractions$Fraction") rfl i_Fr t_Fr t_Fr_ok n_Fr 2 (by decide) rfl (by decide +kernel) rfl (sB_nar _) (sB_fit _) (by simp only [List.length]; decide) rfl d_Rk_reduce_99 (fun f13 H locs hI hO9 hf13 => ?_)
          have hF := hF.sg (by decide) hf13
          obtain ⟨sg13, hW, g9, t9⟩ := (hW.sgn hg (by decide) hf13 (b := (false)) hO9).cutS
          have g16 : sg13 16 = (false) := g9
          have ht := fun z (hz : z < 16) => (t9 z (by omega)).trans (ht z hz)
          exact hw_vret hx hb hr hlocks hI d_Rk_reduce_102 ⟨rfl, rfl, x10, sg13, hW, (by rw [e32, ← hn0, ← hd0, ← hgg]), (by rw [e33, ← hn0, ← hd0, ← hgg]), (by rw [g16]; unfold sgz; rw [if_pos (hz0.mp hy)]), hs, ht, hF⟩
      · refine hw_ti (show _ = nI 0 from if_neg hy) ?_
        refine hw_if_eq (tgt := 102) hx hb d_Rk_reduce_91 (by decide) (by omega) (fun c14 => ?_) (fun c14 => ?_)
        · exact hw_vret hx hb hr hlocks hI d_Rk_reduce_102 ⟨rfl, rfl, x10, sg, hW, (by rw [e32, ← hn0, ← hd0, ← hgg]), (by rw [e33, ← hn0, ← hd0, ← hgg]), (by unfold sgz; rw [if_neg (fun h => hy (hz0.mpr h))]), hs, ht, hF⟩
        · exact absurd rfl c14
set_option maxHeartbeats 4000000 in
set_option maxRecDepth 100000 in
theorem c_Rk_putOut (l : Launch) (D : va_G) (t0 : Nat) (L : List Nat) (f : Nat → va_E) (sz : Nat) (o r fr : Nat → Nat) (ad al ab am ak ah aw ar rg wf : Nat) (x : Nat → Nat) (sg : Nat → Bool) (wt rs : Nat → Nat) (j ex : Nat) (nb : Bool) (hg : Gl o r fr ad al ab am ak ah aw ar rg wf) (hW : Wd D L f o r fr ad al ab am ak ah aw ar rg wf x sg wt rs) (hj : j < 46) (hj3 : j ≠ 33) (hex : ex ≤ 368) : Met l y_Rk_putOut (Cond.code y_Rk_putOut b_Rk_putOut 4 none :: TT) ({ frames := 8, cells := 0, slots := 0, locals := 153 } : Room) (hw_Pc t0 [.ref (ak), .ref (o j), .int (nI ex), .int (sB nb)] D L f sz) (hw_Q D L sz (fun oc L' f' => oc = .returned none ∧ L = L' ∧ ∃ x' sg', Wd D L f' o r fr ad al ab am ak ah aw ar rg wf x' sg' wt rs ∧ x' 32 = x j ∧ x' 33 = 10 ^ ex ∧ sg' 16 = nb ∧ (∀ z, z < 32 → x' z = x z) ∧ (∀ k, k < 16 → sg' k = sg k) ∧ Fm o r fr ad al ab am ak ah aw ar rg wf f f')) 0 0 (hw_A L sz) := by
  refine Met.ofW (cc := b_Rk_putOut) (maxL := 4) (ret := none) (by decide) rfl ?_
  intro p e s m args below meth c s₁ B hml hv
  obtain ⟨rfl, rfl, hI⟩ := hw_start hv
  clear hv
  have hx := B.exec
  have hb := B.bytes
  have hr := B.returns
  have hlocks := B.notSynchronized
  have hown : s.vm.findClass "WallFractions$Reckoner" = some m.cls := findClass_of_methodNamed B.named
  have hT : ∀ w ∈ TT, w.before ([.ref (ak), .ref (o j), .int (nI ex), .int (sB nb)]).toArray s = true := fun w h => atoms_spec (ws := (Cond.code y_Rk_putOut b_Rk_putOut 4 none :: TT)) B.pre w (List.mem_cons_of_mem _ h)
  have S : CallFix p m c b_Rk_putOut 4 s ([.ref (ak), .ref (o j), .int (nI ex), .int (sB nb)]).toArray TT "WallFractions$Reckoner" := ⟨hx, hb, hml, hown, hT⟩
  have hl := lv_entry ([.ref (ak), .ref (o j), .int (nI ex), .int (sB nb)]) (n := 4) (Nat.le_of_ble_eq_true rfl)
  rw [lg_entry_eq]
  generalize (lg_sl ([.ref (ak), .ref (o j), .int (nI ex), .int (sB nb)]) ++ List.replicate (4 - (lg_sl ([.ref (ak), .ref (o j), .int (nI ex), .int (sB nb)])).length) Slot.unset).toArray = ls at hl ⊢
  have hl : lv_has ls 4 [(0, .ref (ak)), (1, .ref (o j)), (2, .int (nI ex)), (3, .int (sB nb))] := hl
  skip
  have hY := hg.1
  have hF : Fm o r fr ad al ab am ak ah aw ar rg wf f f := Fm.refl
  have hs : ∀ z, z < 32 → x z = x z := fun _ _ => rfl
  have ht : ∀ k, k < 16 → sg k = sg k := fun _ _ => rfl
  refine lv_aload_n hx hb d_Rk_putOut_0 rfl (lv_at hl 0 rfl) ?_
  refine ob_get S hI hW.Rk (C := R_Rk) (T := F_Rk) (N := 7) (ref := "WallFractions$Reckoner") rfl i_Rk 2 (by decide) rfl w_134 rfl d_Rk_putOut_1 ?_
  refine ob_getN S hI hW.Out (C := R_Fr) (T := F_Fr) (N := 3) (ref := "WallFractions$Fraction") rfl i_Fr 0 (by decide) rfl (by decide +kernel) rfl d_Rk_putOut_4 ?_
  refine lv_aload_n hx hb d_Rk_putOut_7 rfl (lv_at hl 1 rfl) ?_
  refine hw_cV (As := [.ref (o j)]) (rest := []) S hI m_Wh_copyFrom w_565 (c_Wh_copyFrom l D t0 L _ _ o r 46 x 32 j (by omega) hY hW.N hj) (hW.rc (i := 32) (by omega)).choose_spec rfl hl.1 rfl rfl (Nat.le_of_ble_eq_true rfl) d_Rk_putOut_8 ⟨Nat.le_of_ble_eq_true rfl, Nat.le_of_ble_eq_true rfl⟩ ⟨Nat.le_of_ble_eq_true rfl, Nat.le_of_ble_eq_true rfl⟩ (fun v9 L9 f15 H locs hp hI => ?_)
  refine W.cs (cells' := 0) (slots' := 0) rfl rfl ?_
  obtain ⟨hv9, rfl, hN9, hf9⟩ := hp
  cases hv9
  refine hw_stk (st' := []) rfl ?_
  have hF := hF.wh (fun q h9 _ _ _ => hf9 q (h9 32 (by omega)).1 (h9 32 (by omega)).2)
  obtain ⟨x15, hW, e9, s9⟩ := (hW.wh hN9 (fun q h9 => hf9 q (h9 32 (by omega)).1 (h9 32 (by omega)).2)).cut
  have n9 : x15 32 = x j := by rw [e9]
  have e32 : x15 32 = x j := n9
  have hs := fun z (hz : z < 32) => (s9 z (by omega)).trans (hs z hz)
  refine lv_aload_n hx hb d_Rk_putOut_11 rfl (lv_at hl 0 rfl) ?_
  refine ob_get S hI hW.Rk (C := R_Rk) (T := F_Rk) (N := 7) (ref := "WallFractions$Reckoner") rfl i_Rk 2 (by decide) rfl w_134 rfl d_Rk_putOut_12 ?_
  refine ob_getN S hI hW.Out (C := R_Fr) (T := F_Fr) (N := 3) (ref := "WallFractions$Fraction") rfl i_Fr 1 (by decide) rfl (by decide +kernel) rfl d_Rk_putOut_15 ?_
  refine lv_iload_n hx hb d_Rk_putOut_18 rfl (lv_at hl 2 rfl) ?_
  refine hw_cV (As := [.int (nI ex)]) (rest := []) S hI m_Wh_becomeTenTo w_596 (c_Wh_becomeTenTo l D t0 L _ _ o r 46 x15 33 ex (by omega) hY hW.N hex) (hW.rc (i := 33) (by omega)).choose_spec rfl hl.1 rfl rfl (Nat.le_of_ble_eq_true rfl) d_Rk_putOut_19 ⟨Nat.le_of_ble_eq_true rfl, Nat.le_of_ble_eq_true rfl⟩ ⟨Nat.le_of_ble_eq_true rfl, Nat.le_of_ble_eq_true rfl⟩ (fun v9 L9 f16 H locs hp hI => ?_)
  refine W.cs (cells' := 0) (slots' := 0) rfl rfl ?_
  obtain ⟨hv9, rfl, hN9, hf9⟩ := hp
  cases hv9
  refine hw_stk (st' := []) rfl ?_
  have hF := hF.wh (fun q h9 _ _ _ => hf9 q (h9 33 (by omega)).1 (h9 33 (by omega)).2)
  obtain ⟨x16, hW, e9, s9⟩ := (hW.wh hN9 (fun q h9 => hf9 q (h9 33 (by omega)).1 (h9 33 (by omega)).2)).cut
  have n9 : x16 33 = 10 ^ ex := by rw [e9]
  have e32 : x16 32 = x j := (s9 32 (by omega)).trans e32
  have e33 : x16 33 = 10 ^ ex := n9
  have hs := fun z (hz : z < 32) => (s9 z (by omega)).trans (hs z hz)
  refine lv_aload_n hx hb d_Rk_putOut_22 rfl (lv_at hl 0 rfl) ?_
  refine ob_get S hI hW.Rk (C := R_Rk) (T := F_Rk) (N := 7) (ref := "WallFractions$Reckoner") rfl i_Rk 2 (by decide) rfl w_134 rfl d_Rk_putOut_23 ?_
  refine lv_iload_n hx hb d_Rk_putOut_26 rfl (lv_at hl 3 rfl) ?_
  refine hw_ti (show _ = sB (nb) from rfl) ?_
  refine ob_putN S hI hW.Out (fs' := [.ref (o 32), .ref (o 33), .int (sB (nb))]) (C := R_Fr) (T := F_Fr) (N := 3) (ref := "WallFractions$Fraction") rfl i_Fr t_Fr t_Fr_ok n_Fr 2 (by decide) rfl (by decide +kernel) rfl (sB_nar _) (sB_fit _) (by simp only [List.length]; decide) rfl d_Rk_putOut_27 (fun f17 H locs hI hO9 hf17 => ?_)
  have hF := hF.sg (by decide) hf17
  obtain ⟨sg17, hW, g9, t9⟩ := (hW.sgn hg (by decide) hf17 (b := (nb)) hO9).cutS
  have g16 : sg17 16 = (nb) := g9
  have ht := fun z (hz : z < 16) => (t9 z (by omega)).trans (ht z hz)
  exact hw_vret hx hb hr hlocks hI d_Rk_putOut_30 ⟨rfl, rfl, x16, sg17, hW, e32, e33, g16, hs, ht, hF⟩
set_option maxHeartbeats 4000000 in
set_option maxRecDepth 100000 in
theorem c_Rk_lengthen (l : Launch) (D : va_G) (t0 : Nat) (L : List Nat) (f : Nat → va_E) (sz : Nat) (o r fr : Nat → Nat) (ad al ab am ak ah aw ar rg wf : Nat) (x : Nat → Nat) (sg : Nat → Bool) (wt rs : Nat → Nat) (a dg : Nat) (hg : Gl o r fr ad al ab am ak ah aw ar rg wf) (hW : Wd D L f o r fr ad al ab am ak ah aw ar rg wf x sg wt rs) (ha : a < 16) (hdg : dg < nB) (hx20 : x (2 * a) < nB ^ 20) : Met l y_Rk_lengthen (Cond.code y_Rk_lengthen b_Rk_lengthen 3 none :: TT) ({ frames := 8, cells := 0, slots := 0, locals := 159 } : Room) (hw_Pc t0 [.ref (ak), .ref (fr a), .int (nI dg)] D L f sz) (hw_Q D L sz (fun oc L' f' => oc = .returned none ∧ L = L' ∧ ∃ x' sg', Wd D L f' o r fr ad al ab am ak ah aw ar rg wf x' sg' wt rs ∧ x' 32 = x (2 * a) * nB + dg ∧ x' 33 = x (2 * a + 1) ∧ sg' 16 = sg a ∧ (∀ z, z < 32 → x' z = x z) ∧ (∀ k, k < 16 → sg' k = sg k) ∧ Fm o r fr ad al ab am ak ah aw ar rg wf f f')) 0 0 (hw_A L sz) := by
  refine Met.ofW (cc := b_Rk_lengthen) (maxL := 3) (ret := none) (by decide) rfl ?_
  intro p e s m args below meth c s₁ B hml hv
  obtain ⟨rfl, rfl, hI⟩ := hw_start hv
  clear hv
  have hx := B.exec
  have hb := B.bytes
  have hr := B.returns
  have hlocks := B.notSynchronized
  have hown : s.vm.findClass "WallFractions$Reckoner" = some m.cls := findClass_of_methodNamed B.named
  have hT : ∀ w ∈ TT, w.before ([.ref (ak), .ref (fr a), .int (nI dg)]).toArray s = true := fun w h => atoms_spec (ws := (Cond.code y_Rk_lengthen b_Rk_lengthen 3 none :: TT)) B.pre w (List.mem_cons_of_mem _ h)
  have S : CallFix p m c b_Rk_lengthen 3 s ([.ref (ak), .ref (fr a), .int (nI dg)]).toArray TT "WallFractions$Reckoner" := ⟨hx, hb, hml, hown, hT⟩
  have hl := lv_entry ([.ref (ak), .ref (fr a), .int (nI dg)]) (n := 3) (Nat.le_of_ble_eq_true rfl)
  rw [lg_entry_eq]
  generalize (lg_sl ([.ref (ak), .ref (fr a), .int (nI dg)]) ++ List.replicate (3 - (lg_sl ([.ref (ak), .ref (fr a), .int (nI dg)])).length) Slot.unset).toArray = ls at hl ⊢
  have hl : lv_has ls 3 [(0, .ref (ak)), (1, .ref (fr a)), (2, .int (nI dg))] := hl
  skip
  have hY := hg.1
  have hF : Fm o r fr ad al ab am ak ah aw ar rg wf f f := Fm.refl
  have hs : ∀ z, z < 32 → x z = x z := fun _ _ => rfl
  have ht : ∀ k, k < 16 → sg k = sg k := fun _ _ => rfl
  have hnB : nB = 1000000000 := rfl
  refine lv_aload_n hx hb d_Rk_lengthen_0 rfl (lv_at hl 0 rfl) ?_
  refine ob_get S hI hW.Rk (C := R_Rk) (T := F_Rk) (N := 7) (ref := "WallFractions$Reckoner") rfl i_Rk 2 (by decide) rfl w_134 rfl d_Rk_lengthen_1 ?_
  refine lv_aload_n hx hb d_Rk_lengthen_4 rfl (lv_at hl 1 rfl) ?_
  refine hw_cV (As := [.ref (fr a)]) (rest := []) S hI m_Fr_copyFrom w_379 (c_Fr_copyFrom l D t0 L _ _ o r fr ad al ab am ak ah aw ar rg wf x sg wt rs 16 a hg hW (by omega) (by omega)) hW.Out rfl hl.1 rfl rfl (Nat.le_of_ble_eq_true rfl) d_Rk_lengthen_5 ⟨Nat.le_of_ble_eq_true rfl, Nat.le_of_ble_eq_true rfl⟩ ⟨Nat.le_of_ble_eq_true rfl, Nat.le_of_ble_eq_true rfl⟩ (fun v9 L9 f18 H locs hp hI => ?_)
  refine W.cs (cells' := 0) (slots' := 0) rfl rfl ?_
  obtain ⟨hv9, rfl, xm, sm, hW, e32, e33, hs9, g16, ht9, hF9⟩ := hp
  cases hv9
  refine hw_stk (st' := []) rfl ?_
  have hF := hF.trans hF9
  have hs := fun z (hz : z < 32) => hs9 z (by omega) (by omega)
  have ht := fun z (hz : z < 16) => ht9 z (by omega)
  have e32 : xm 32 = x (2 * a) := e32
  have e33 : xm 33 = x (2 * a + 1) := e33
  have h40 : xm 32 < nB ^ 40 := by rw [e32]; exact Nat.lt_of_lt_of_le hx20 (Nat.pow_le_pow_right nB_pos (by decide))
  refine lv_aload_n hx hb d_Rk_lengthen_8 rfl (lv_at hl 0 rfl) ?_
  refine ob_get S hI hW.Rk (C := R_Rk) (T := F_Rk) (N := 7) (ref := "WallFractions$Reckoner") rfl i_Rk 2 (by decide) rfl w_134 rfl d_Rk_lengthen_9 ?_
  refine ob_getN S hI hW.Out (C := R_Fr) (T := F_Fr) (N := 3) (ref := "WallFractions$Fraction") rfl i_Fr 0 (by decide) rfl (by decide +kernel) rfl d_Rk_lengthen_12 ?_
  refine hw_ldc2 (v := lN nB) hx hb hown (hT _ w_380) d_Rk_lengthen_15 ?_
  refine lv_iload_n hx hb d_Rk_lengthen_18 rfl (lv_at hl 2 rfl) ?_
  refine lv_i2l (v := lN dg) hx hb d_Rk_lengthen_19 (nI_l (by omega)) ?_
  refine hw_cV (As := [.long (lN nB), .long (lN dg)]) (rest := []) S hI m_Wh_grow w_381 (c_Wh_grow l D t0 L _ _ o r 46 xm 32 nB dg (by omega) hY hW.N h40 (Nat.le_refl _) hdg) (hW.rc (i := 32) (by omega)).choose_spec rfl hl.1 rfl rfl (Nat.le_of_ble_eq_true rfl) d_Rk_lengthen_20 ⟨Nat.le_of_ble_eq_true rfl, Nat.le_of_ble_eq_true rfl⟩ ⟨Nat.le_of_ble_eq_true rfl, Nat.le_of_ble_eq_true rfl⟩ (fun v9 L9 f19 H locs hp hI => ?_)
  refine W.cs (cells' := 0) (slots' := 0) rfl rfl ?_
  obtain ⟨hv9, rfl, hN9, hf9⟩ := hp
  cases hv9
  refine hw_stk (st' := []) rfl ?_
  have hF := hF.wh (fun q h9 _ _ _ => hf9 q (h9 32 (by omega)).1 (h9 32 (by omega)).2)
  obtain ⟨x19, hW, e9, s9⟩ := (hW.wh hN9 (fun q h9 => hf9 q (h9 32 (by omega)).1 (h9 32 (by omega)).2)).cut
  have n9 : x19 32 = x (2 * a) * nB + dg := by rw [e9, e32]
  have e33 : x19 33 = x (2 * a + 1) := (s9 33 (by omega)).trans e33
  have e32 : x19 32 = x (2 * a) * nB + dg := n9
  have hs := fun z (hz : z < 32) => (s9 z (by omega)).trans (hs z hz)
  exact hw_vret hx hb hr hlocks hI d_Rk_lengthen_23 ⟨rfl, rfl, x19, sm, hW, e32, e33, g16, hs, ht, hF⟩
set_option maxHeartbeats 4000000 in
set_option maxRecDepth 100000 in
theorem c_Rk_product (l : Launch) (D : va_G) (t0 : Nat) (L : List Nat) (f : Nat → va_E) (sz : Nat) (o r fr : Nat → Nat) (ad al ab am ak ah aw ar rg wf : Nat) (x : Nat → Nat) (sg : Nat → Bool) (wt rs : Nat → Nat) (a ja jb : Nat) (nb : Bool) (hg : Gl o r fr ad al ab am ak ah aw ar rg wf) (hW : Wd D L f o r fr ad al ab am ak ah aw ar rg wf x sg wt rs) (ha : a < 16) (hja : ja < 32) (hjb : jb < 32) (h1 : x (2 * a) < nB ^ 20) (h2 : x (2 * a + 1) < nB ^ 20) (h3 : x ja < nB ^ 20) (h4 : x jb < nB ^ 20) : Met l y_Rk_product (Cond.code y_Rk_product b_Rk_product 5 none :: TT) ({ frames := 8, cells := 0, slots := 0, locals := 161 } : Room) (hw_Pc t0 [.ref (ak), .ref (fr a), .ref (o ja), .ref (o jb), .int (sB nb)] D L f sz) (hw_Q D L sz (fun oc L' f' => oc = .returned none ∧ L = L' ∧ ∃ x' sg', Wd D L f' o r fr ad al ab am ak ah aw ar rg wf x' sg' wt rs ∧ x' 32 = x (2 * a) * x ja ∧ x' 33 = x (2 * a + 1) * x jb ∧ sg' 16 = (sg a != nb) ∧ (∀ z, z < 32 → x' z = x z) ∧ (∀ k, k < 16 → sg' k = sg k) ∧ Fm o r fr ad al ab am ak ah aw ar rg wf f f')) 0 0 (hw_A L sz) := by
  refine Met.ofW (cc := b_Rk_product) (maxL := 5) (ret := none) (by decide) rfl ?_
  intro p e s m args below meth c s₁ B hml hv
  obtain ⟨rfl, rfl, hI⟩ := hw_start hv
  clear hv
  have hx := B.exec
  have hb := B.bytes
  have hr := B.returns
  have hlocks := B.notSynchronized
  have hown : s.vm.findClass "WallFractions$Reckoner" = some m.cls := findClass_of_methodNamed B.named
  have hT : ∀ w ∈ TT, w.before ([.ref (ak), .ref (fr a), .ref (o ja), .ref (o jb), .int (sB nb)]).toArray s = true := fun w h => atoms_spec (ws := (Cond.code y_Rk_product b_Rk_product 5 none :: TT)) B.pre w (List.mem_cons_of_mem _ h)
  have S : CallFix p m c b_Rk_product 5 s ([.ref (ak), .ref (fr a), .ref (o ja), .ref (o jb), .int (sB nb)]).toArray TT "WallFractions$Reckoner" := ⟨hx, hb, hml, hown, hT⟩
  have hl := lv_entry ([.ref (ak), .ref (fr a), .ref (o ja), .ref (o jb), .int (sB nb)]) (n := 5) (Nat.le_of_ble_eq_true rfl)
  rw [lg_entry_eq]
  generalize (lg_sl ([.ref (ak), .ref (fr a), .ref (o ja), .ref (o jb), .int (sB nb)]) ++ List.replicate (5 - (lg_sl ([.ref (ak), .ref (fr a), .ref (o ja), .ref (o jb), .int (sB nb)])).length) Slot.unset).toArray = ls at hl ⊢
  have hl : lv_has ls 5 [(0, .ref (ak)), (1, .ref (fr a)), (2, .ref (o ja)), (3, .ref (o jb)), (4, .int (sB nb))] := hl
  skip
  have hY := hg.1
  have hF : Fm o r fr ad al ab am ak ah aw ar rg wf f f := Fm.refl
  have hs : ∀ z, z < 32 → x z = x z := fun _ _ => rfl
  have ht : ∀ k, k < 16 → sg k = sg k := fun _ _ => rfl
  refine lv_aload_n hx hb d_Rk_product_0 rfl (lv_at hl 0 rfl) ?_
  refine ob_get S hI hW.Rk (C := R_Rk) (T := F_Rk) (N := 7) (ref := "WallFractions$Reckoner") rfl i_Rk 2 (by decide) rfl w_134 rfl d_Rk_product_1 ?_
  refine ob_getN S hI hW.Out (C := R_Fr) (T := F_Fr) (N := 3) (ref := "WallFractions$Fraction") rfl i_Fr 0 (by decide) rfl (by decide +kernel) rfl d_Rk_product_4 ?_
  refine lv_aload_n hx hb d_Rk_product_7 rfl (lv_at hl 1 rfl) ?_
  refine ob_getN S hI (hW.Fr (by omega)) (C := R_Fr) (T := F_Fr) (N := 3) (ref := "WallFractions$Fraction") rfl i_Fr 0 (by decide) rfl (by decide +kernel) rfl d_Rk_product_8 ?_
  refine lv_aload_n hx hb d_Rk_product_11 rfl (lv_at hl 2 rfl) ?_
  refine hw_cV (As := [.ref (o (2 * a)), .ref (o ja)]) (rest := []) S hI m_Wh_becomeProduct w_407 (c_Wh_becomeProduct l D t0 L _ _ o r 46 x 32 (2 * a) ja 20 20 (by omega) hY hW.N (by omega) (by omega) (by omega) (by omega) h1 h3 (by decide)) (hW.rc (i := 32) (by omega)).choose_spec rfl hl.1 rfl rfl (Nat.le_of_ble_eq_true rfl) d_Rk_product_12 ⟨Nat.le_of_ble_eq_true rfl, Nat.le_of_ble_eq_true rfl⟩ ⟨Nat.le_of_ble_eq_true rfl, Nat.le_of_ble_eq_true rfl⟩ (fun v9 L9 f20 H locs hp hI => ?_)
  refine W.cs (cells' := 0) (slots' := 0) rfl rfl ?_
  obtain ⟨hv9, rfl, hN9, hf9⟩ := hp
  cases hv9
  refine hw_stk (st' := []) rfl ?_
  have hF := hF.wh (fun q h9 _ _ _ => hf9 q (h9 32 (by omega)).1 (h9 32 (by omega)).2)
  obtain ⟨x20, hW, e9, s9⟩ := (hW.wh hN9 (fun q h9 => hf9 q (h9 32 (by omega)).1 (h9 32 (by omega)).2)).cut
  have n9 : x20 32 = x (2 * a) * x ja := by rw [e9]
  have e32 : x20 32 = x (2 * a) * x ja := n9
  have hs := fun z (hz : z < 32) => (s9 z (by omega)).trans (hs z hz)
  have q1 := hs (2 * a + 1) (by omega)
  have q2 := hs jb (by omega)
  refine lv_aload_n hx hb d_Rk_product_15 rfl (lv_at hl 0 rfl) ?_
  refine ob_get S hI hW.Rk (C := R_Rk) (T := F_Rk) (N := 7) (ref := "WallFractions$Reckoner") rfl i_Rk 2 (by decide) rfl w_134 rfl d_Rk_product_16 ?_
  refine ob_getN S hI hW.Out (C := R_Fr) (T := F_Fr) (N := 3) (ref := "WallFractions$Fraction") rfl i_Fr 1 (by decide) rfl (by decide +kernel) rfl d_Rk_product_19 ?_
  refine lv_aload_n hx hb d_Rk_product_22 rfl (lv_at hl 1 rfl) ?_
  refine ob_getN S hI (hW.Fr (by omega)) (C := R_Fr) (T := F_Fr) (N := 3) (ref := "WallFractions$Fraction") rfl i_Fr 1 (by decide) rfl (by decide +kernel) rfl d_Rk_product_23 ?_
  refine lv_aload_n hx hb d_Rk_product_26 rfl (lv_at hl 3 rfl) ?_
  refine hw_cV (As := [.ref (o (2 * a + 1)), .ref (o jb)]) (rest := []) S hI m_Wh_becomeProduct w_407 (c_Wh_becomeProduct l D t0 L _ _ o r 46 x20 33 (2 * a + 1) jb 20 20 (by omega) hY hW.N (by omega) (by omega) (by omega) (by omega) (by rw [q1]; exact h2) (by rw [q2]; exact h4) (by decide)) (hW.rc (i := 33) (by omega)).choose_spec rfl hl.1 rfl rfl (Nat.le_of_ble_eq_true rfl) d_Rk_product_27 ⟨Nat.le_of_ble_eq_true rfl, Nat.le_of_ble_eq_true rfl⟩ ⟨Nat.le_of_ble_eq_true rfl, Nat.le_of_ble_eq_true rfl⟩ (fun v9 L9 f21 H locs hp hI => ?_)
  refine W.cs (cells' := 0) (slots' := 0) rfl rfl ?_
  obtain ⟨hv9, rfl, hN9, hf9⟩ := hp
  cases hv9
  refine hw_stk (st' := []) rfl ?_
  have hF := hF.wh (fun q h9 _ _ _ => hf9 q (h9 33 (by omega)).1 (h9 33 (by omega)).2)
  obtain ⟨x21, hW, e9, s9⟩ := (hW.wh hN9 (fun q h9 => hf9 q (h9 33 (by omega)).1 (h9 33 (by omega)).2)).cut
  have n9 : x21 33 = x (2 * a + 1) * x jb := by rw [e9, q1, q2]
  have e32 : x21 32 = x (2 * a) * x ja := (s9 32 (by omega)).trans e32
  have e33 : x21 33 = x (2 * a + 1) * x jb := n9
  have hs := fun z (hz : z < 32) => (s9 z (by omega)).trans (hs z hz)
  refine lv_aload_n hx hb d_Rk_product_30 rfl (lv_at hl 0 rfl) ?_
  refine ob_get S hI hW.Rk (C := R_Rk) (T := F_Rk) (N := 7) (ref := "WallFractions$Reckoner") rfl i_Rk 2 (by decide) rfl w_134 rfl d_Rk_product_31 ?_
  refine lv_aload_n hx hb d_Rk_product_34 rfl (lv_at hl 1 rfl) ?_
  refine ob_getN S hI (hW.Fr (by omega)) (C := R_Fr) (T := F_Fr) (N := 3) (ref := "WallFractions$Fraction") rfl i_Fr 2 (by decide) rfl (by decide +kernel) rfl d_Rk_product_35 ?_
  refine lv_iload hx hb d_Rk_product_38 (lv_at hl 4 rfl) ?_
  refine lv_icmp_eq (tgt := 47) hx hb d_Rk_product_40 (by decide) (fun c22 => ?_) (fun c22 => ?_)
  · refine lv_iconst (v := nI 0) hx hb d_Rk_product_47 (by decide) ?_
    have hsn : sg a = nb := sB_inj.mp c22
    refine hw_ti (show _ = sB (sg a != nb) from by rw [hsn]; cases nb <;> rfl) ?_
    refine ob_putN S hI hW.Out (fs' := [.ref (o 32), .ref (o 33), .int (sB (sg a != nb))]) (C := R_Fr) (T := F_Fr) (N := 3) (ref := "WallFractions$Fraction") rfl i_Fr t_Fr t_Fr_ok n_Fr 2 (by decide) rfl (by decide +kernel) rfl (sB_nar _) (sB_fit _) (by simp only [List.length]; decide) rfl d_Rk_product_48 (fun f23 H locs hI hO9 hf23 => ?_)
    have hF := hF.sg (by decide) hf23
    obtain ⟨sg23, hW, g9, t9⟩ := (hW.sgn hg (by decide) hf23 (b := (sg a != nb)) hO9).cutS
    have g16 : sg23 16 = (sg a != nb) := g9
    have ht := fun z (hz : z < 16) => (t9 z (by omega)).trans (ht z hz)
    exact hw_vret hx hb hr hlocks hI d_Rk_product_51 ⟨rfl, rfl, x21, sg23, hW, e32, e33, g16, hs, ht, hF⟩
  · refine lv_iconst (v := nI 1) hx hb d_Rk_product_43 (by decide) ?_
    refine lv_goto (tgt := 48) hx hb d_Rk_product_44 (by decide) ?_
    have hsn : sg a ≠ nb := fun h => c22 (sB_inj.mpr h)
    refine hw_ti (show _ = sB (sg a != nb) from by revert hsn; cases sg a <;> cases nb <;> simp [sB]) ?_
    refine ob_putN S hI hW.Out (fs' := [.ref (o 32), .ref (o 33), .int (sB (sg a != nb))]) (C := R_Fr) (T := F_Fr) (N := 3) (ref := "WallFractions$Fraction") rfl i_Fr t_Fr t_Fr_ok n_Fr 2 (by decide) rfl (by decide +kernel) rfl (sB_nar _) (sB_fit _) (by simp only [List.length]; decide) rfl d_Rk_product_48 (fun f24 H locs hI hO9 hf24 => ?_)
    have hF := hF.sg (by decide) hf24
    obtain ⟨sg24, hW, g9, t9⟩ := (hW.sgn hg (by decide) hf24 (b := (sg a != nb)) hO9).cutS
    have g16 : sg24 16 = (sg a != nb) := g9
    have ht := fun z (hz : z < 16) => (t9 z (by omega)).trans (ht z hz)
    exact hw_vret hx hb hr hlocks hI d_Rk_product_51 ⟨rfl, rfl, x21, sg24, hW, e32, e33, g16, hs, ht, hF⟩
def tot (l r : Nat) (s n : Bool) : Nat := if s = n then l + r else if r ≤ l then l - r else r - l
def tots (l r : Nat) (s n : Bool) : Bool := if s = n then s else if r ≤ l then s else n
theorem cmpN_neg {a b : Nat} : cmpN a b < 0 ↔ a < b := by
  rcases Nat.lt_trichotomy a b with q | q | q
  · rw [cmpN_lt q]; exact ⟨fun _ => q, fun _ => by decide⟩
  · rw [cmpN_eq q]; exact ⟨fun h => absurd h (by decide), fun h => by omega⟩
  · rw [cmpN_gt q]; exact ⟨fun h => absurd h (by decide), fun h => by omega⟩
set_option maxHeartbeats 4000000 in
set_option maxRecDepth 100000 in
theorem c_Rk_total (l : Launch) (D : va_G) (t0 : Nat) (L : List Nat) (f : Nat → va_E) (sz : Nat) (o r fr : Nat → Nat) (ad al ab am ak ah aw ar rg wf : Nat) (x : Nat → Nat) (sg : Nat → Bool) (wt rs : Nat → Nat) (a b : Nat) (nb : Bool) (hg : Gl o r fr ad al ab am ak ah aw ar rg wf) (hW : Wd D L f o r fr ad al ab am ak ah aw ar rg wf x sg wt rs) (ha : a < 16) (hb0 : b < 16) (h20 : ∀ z, z < 32 → x z < nB ^ 20) : Met l y_Rk_total (Cond.code y_Rk_total b_Rk_total 4 none :: TT) ({ frames := 8, cells := 0, slots := 0, locals := 161 } : Room) (hw_Pc t0 [.ref (ak), .ref (fr a), .ref (fr b), .int (sB nb)] D L f sz) (hw_Q D L sz (fun oc L' f' => oc = .returned none ∧ L = L' ∧ ∃ x' sg', Wd D L f' o r fr ad al ab am ak ah aw ar rg wf x' sg' wt rs ∧ x' 32 = tot (x (2 * a) * x (2 * b + 1)) (x (2 * b) * x (2 * a + 1)) (sg a) nb ∧ x' 33 = x (2 * a + 1) * x (2 * b + 1) ∧ sg' 16 = tots (x (2 * a) * x (2 * b + 1)) (x (2 * b) * x (2 * a + 1)) (sg a) nb ∧ (∀ z, z < 32 → x' z = x z) ∧ (∀ k, k < 16 → sg' k = sg k) ∧ Fm o r fr ad al ab am ak ah aw ar rg wf f f')) 0 0 (hw_A L sz) := by
  refine Met.ofW (cc := b_Rk_total) (maxL := 4) (ret := none) (by decide) rfl ?_
  intro p e s m args below meth c s₁ B hml hv
  obtain ⟨rfl, rfl, hI⟩ := hw_start hv
  clear hv
  have hx := B.exec
  have hb := B.bytes
  have hr := B.returns
  have hlocks := B.notSynchronized
  have hown : s.vm.findClass "WallFractions$Reckoner" = some m.cls := findClass_of_methodNamed B.named
  have hT : ∀ w ∈ TT, w.before ([.ref (ak), .ref (fr a), .ref (fr b), .int (sB nb)]).toArray s = true := fun w h => atoms_spec (ws := (Cond.code y_Rk_total b_Rk_total 4 none :: TT)) B.pre w (List.mem_cons_of_mem _ h)
  have S : CallFix p m c b_Rk_total 4 s ([.ref (ak), .ref (fr a), .ref (fr b), .int (sB nb)]).toArray TT "WallFractions$Reckoner" := ⟨hx, hb, hml, hown, hT⟩
  have hl := lv_entry ([.ref (ak), .ref (fr a), .ref (fr b), .int (sB nb)]) (n := 4) (Nat.le_of_ble_eq_true rfl)
  rw [lg_entry_eq]
  generalize (lg_sl ([.ref (ak), .ref (fr a), .ref (fr b), .int (sB nb)]) ++ List.replicate (4 - (lg_sl ([.ref (ak), .ref (fr a), .ref (fr b), .int (sB nb)])).length) Slot.unset).toArray = ls at hl ⊢
  have hl : lv_has ls 4 [(0, .ref (ak)), (1, .ref (fr a)), (2, .ref (fr b)), (3, .int (sB nb))] := hl
  skip
  have hY := hg.1
  have hF : Fm o r fr ad al ab am ak ah aw ar rg wf f f := Fm.refl
  have hs : ∀ z, z < 32 → x z = x z := fun _ _ => rfl
  have ht : ∀ k, k < 16 → sg k = sg k := fun _ _ => rfl
  obtain ⟨l0, hl0⟩ : ∃ l0, l0 = x (2 * a) * x (2 * b + 1) := ⟨_, rfl⟩
  obtain ⟨r0, hr0⟩ : ∃ r0, r0 = x (2 * b) * x (2 * a + 1) := ⟨_, rfl⟩
  obtain ⟨b0, hb0⟩ : ∃ b0, b0 = x (2 * a + 1) * x (2 * b + 1) := ⟨_, rfl⟩
  have hl40 : l0 < nB ^ 40 := by rw [hl0]; exact mul_lt_pow (h20 _ (by omega)) (h20 _ (by omega))
  have hr40 : r0 < nB ^ 40 := by rw [hr0]; exact mul_lt_pow (h20 _ (by omega)) (h20 _ (by omega))
  refine lv_aload_n hx hb d_Rk_total_0 rfl (lv_at hl 0 rfl) ?_
  refine ob_get S hI hW.Rk (C := R_Rk) (T := F_Rk) (N := 7) (ref := "WallFractions$Reckoner") rfl i_Rk 3 (by decide) rfl w_136 rfl d_Rk_total_1 ?_
  refine lv_aload_n hx hb d_Rk_total_4 rfl (lv_at hl 1 rfl) ?_
  refine ob_getN S hI (hW.Fr (by omega)) (C := R_Fr) (T := F_Fr) (N := 3) (ref := "WallFractions$Fraction") rfl i_Fr 0 (by decide) rfl (by decide +kernel) rfl d_Rk_total_5 ?_
  refine lv_aload_n hx hb d_Rk_total_8 rfl (lv_at hl 2 rfl) ?_
  refine ob_getN S hI (hW.Fr (by omega)) (C := R_Fr) (T := F_Fr) (N := 3) (ref := "WallFractions$Fraction") rfl i_Fr 1 (by decide) rfl (by decide +kernel) rfl d_Rk_total_9 ?_
  have q1 := hs (2 * a) (by omega)
  have q2 := hs (2 * b + 1) (by omega)
  refine hw_cV (As := [.ref (o (2 * a)), .ref (o (2 * b + 1))]) (rest := []) S hI m_Wh_becomeProduct w_407 (c_Wh_becomeProduct l D t0 L _ _ o r 46 x 34 (2 * a) (2 * b + 1) 20 20 (by omega) hY hW.N (by omega) (by omega) (by omega) (by omega) (by rw [q1]; exact h20 _ (by omega)) (by rw [q2]; exact h20 _ (by omega)) (by decide)) (hW.rc (i := 34) (by omega)).choose_spec rfl hl.1 rfl rfl (Nat.le_of_ble_eq_true rfl) d_Rk_total_12 ⟨Nat.le_of_ble_eq_true rfl, Nat.le_of_ble_eq_true rfl⟩ ⟨Nat.le_of_ble_eq_true rfl, Nat.le_of_ble_eq_true rfl⟩ (fun v9 L9 f25 H locs hp hI => ?_)
  refine W.cs (cells' := 0) (slots' := 0) rfl rfl ?_
  obtain ⟨hv9, rfl, hN9, hf9⟩ := hp
  cases hv9
  refine hw_stk (st' := []) rfl ?_
  have hF := hF.wh (fun q h9 _ _ _ => hf9 q (h9 34 (by omega)).1 (h9 34 (by omega)).2)
  obtain ⟨x25, hW, e9, s9⟩ := (hW.wh hN9 (fun q h9 => hf9 q (h9 34 (by omega)).1 (h9 34 (by omega)).2)).cut
  have n9 : x25 34 = l0 := by rw [e9, q1, q2, ← hl0]
  have e34 : x25 34 = l0 := n9
  have hs := fun z (hz : z < 32) => (s9 z (by omega)).trans (hs z hz)
  refine lv_aload_n hx hb d_Rk_total_15 rfl (lv_at hl 0 rfl) ?_
  refine ob_get S hI hW.Rk (C := R_Rk) (T := F_Rk) (N := 7) (ref := "WallFractions$Reckoner") rfl i_Rk 4 (by decide) rfl w_137 rfl d_Rk_total_16 ?_
  refine lv_aload_n hx hb d_Rk_total_19 rfl (lv_at hl 2 rfl) ?_
  refine ob_getN S hI (hW.Fr (by omega)) (C := R_Fr) (T := F_Fr) (N := 3) (ref := "WallFractions$Fraction") rfl i_Fr 0 (by decide) rfl (by decide +kernel) rfl d_Rk_total_20 ?_
  refine lv_aload_n hx hb d_Rk_total_23 rfl (lv_at hl 1 rfl) ?_
  refine ob_getN S hI (hW.Fr (by omega)) (C := R_Fr) (T := F_Fr) (N := 3) (ref := "WallFractions$Fraction") rfl i_Fr 1 (by decide) rfl (by decide +kernel) rfl d_Rk_total_24 ?_
  have q1 := hs (2 * b) (by omega)
  have q2 := hs (2 * a + 1) (by omega)
  refine hw_cV (As := [.ref (o (2 * b)), .ref (o (2 * a + 1))]) (rest := []) S hI m_Wh_becomeProduct w_407 (c_Wh_becomeProduct l D t0 L _ _ o r 46 x25 35 (2 * b) (2 * a + 1) 20 20 (by omega) hY hW.N (by omega) (by omega) (by omega) (by omega) (by rw [q1]; exact h20 _ (by omega)) (by rw [q2]; exact h20 _ (by omega)) (by decide)) (hW.rc (i := 35) (by omega)).choose_spec rfl hl.1 rfl rfl (Nat.le_of_ble_eq_true rfl) d_Rk_total_27 ⟨Nat.le_of_ble_eq_true rfl, Nat.le_of_ble_eq_true rfl⟩ ⟨Nat.le_of_ble_eq_true rfl, Nat.le_of_ble_eq_true rfl⟩ (fun v9 L9 f26 H locs hp hI => ?_)
  refine W.cs (cells' := 0) (slots' := 0) rfl rfl ?_
  obtain ⟨hv9, rfl, hN9, hf9⟩ := hp
  cases hv9
  refine hw_stk (st' := []) rfl ?_
  have hF := hF.wh (fun q h9 _ _ _ => hf9 q (h9 35 (by omega)).1 (h9 35 (by omega)).2)
  obtain ⟨x26, hW, e9, s9⟩ := (hW.wh hN9 (fun q h9 => hf9 q (h9 35 (by omega)).1 (h9 35 (by omega)).2)).cut
  have n9 : x26 35 = r0 := by rw [e9, q1, q2, ← hr0]
  have e34 : x26 34 = l0 := (s9 34 (by omega)).trans e34
  have e35 : x26 35 = r0 := n9
  have hs := fun z (hz : z < 32) => (s9 z (by omega)).trans (hs z hz)
  refine lv_aload_n hx hb d_Rk_total_30 rfl (lv_at hl 0 rfl) ?_
  refine ob_get S hI hW.Rk (C := R_Rk) (T := F_Rk) (N := 7) (ref := "WallFractions$Reckoner") rfl i_Rk 2 (by decide) rfl w_134 rfl d_Rk_total_31 ?_
  refine ob_getN S hI hW.Out (C := R_Fr) (T := F_Fr) (N := 3) (ref := "WallFractions$Fraction") rfl i_Fr 1 (by decide) rfl (by decide +kernel) rfl d_Rk_total_34 ?_
  refine lv_aload_n hx hb d_Rk_total_37 rfl (lv_at hl 1 rfl) ?_
  refine ob_getN S hI (hW.Fr (by omega)) (C := R_Fr) (T := F_Fr) (N := 3) (ref := "WallFractions$Fraction") rfl i_Fr 1 (by decide) rfl (by decide +kernel) rfl d_Rk_total_38 ?_
  refine lv_aload_n hx hb d_Rk_total_41 rfl (lv_at hl 2 rfl) ?_
  refine ob_getN S hI (hW.Fr (by omega)) (C := R_Fr) (T := F_Fr) (N := 3) (ref := "WallFractions$Fraction") rfl i_Fr 1 (by decide) rfl (by decide +kernel) rfl d_Rk_total_42 ?_
  have q1 := hs (2 * a + 1) (by omega)
  have q2 := hs (2 * b + 1) (by omega)
  refine hw_cV (As := [.ref (o (2 * a + 1)), .ref (o (2 * b + 1))]) (rest := []) S hI m_Wh_becomeProduct w_407 (c_Wh_becomeProduct l D t0 L _ _ o r 46 x26 33 (2 * a + 1) (2 * b + 1) 20 20 (by omega) hY hW.N (by omega) (by omega) (by omega) (by omega) (by rw [q1]; exact h20 _ (by omega)) (by rw [q2]; exact h20 _ (by omega)) (by decide)) (hW.rc (i := 33) (by omega)).choose_spec rfl hl.1 rfl rfl (Nat.le_of_ble_eq_true rfl) d_Rk_total_45 ⟨Nat.le_of_ble_eq_true rfl, Nat.le_of_ble_eq_true rfl⟩ ⟨Nat.le_of_ble_eq_true rfl, Nat.le_of_ble_eq_true rfl⟩ (fun v9 L9 f27 H locs hp hI => ?_)
  refine W.cs (cells' := 0) (slots' := 0) rfl rfl ?_
  obtain ⟨hv9, rfl, hN9, hf9⟩ := hp
  cases hv9
  refine hw_stk (st' := []) rfl ?_
  have hF := hF.wh (fun q h9 _ _ _ => hf9 q (h9 33 (by omega)).1 (h9 33 (by omega)).2)
  obtain ⟨x27, hW, e9, s9⟩ := (hW.wh hN9 (fun q h9 => hf9 q (h9 33 (by omega)).1 (h9 33 (by omega)).2)).cut
  have n9 : x27 33 = b0 := by rw [e9, q1, q2, ← hb0]
  have e34 : x27 34 = l0 := (s9 34 (by omega)).trans e34
  have e35 : x27 35 = r0 := (s9 35 (by omega)).trans e35
  have e33 : x27 33 = b0 := n9
  have hs := fun z (hz : z < 32) => (s9 z (by omega)).trans (hs z hz)
  refine lv_aload_n hx hb d_Rk_total_48 rfl (lv_at hl 1 rfl) ?_
  refine ob_getN S hI (hW.Fr (by omega)) (C := R_Fr) (T := F_Fr) (N := 3) (ref := "WallFractions$Fraction") rfl i_Fr 2 (by decide) rfl (by decide +kernel) rfl d_Rk_total_49 ?_
  refine lv_iload_n hx hb d_Rk_total_52 rfl (lv_at hl 3 rfl) ?_
  refine lv_icmp_ne (tgt := 88) hx hb d_Rk_total_53 (by decide) (fun c28 => ?_) (fun c28 => ?_)
  · have hsn : sg a ≠ nb := fun h => c28 (sB_inj.mpr h)
    refine lv_aload_n hx hb d_Rk_total_88 rfl (lv_at hl 0 rfl) ?_
    refine ob_get S hI hW.Rk (C := R_Rk) (T := F_Rk) (N := 7) (ref := "WallFractions$Reckoner") rfl i_Rk 3 (by decide) rfl w_136 rfl d_Rk_total_89 ?_
    refine lv_aload_n hx hb d_Rk_total_92 rfl (lv_at hl 0 rfl) ?_
    refine ob_get S hI hW.Rk (C := R_Rk) (T := F_Rk) (N := 7) (ref := "WallFractions$Reckoner") rfl i_Rk 4 (by decide) rfl w_137 rfl d_Rk_total_93 ?_
    refine hw_cV (As := [.ref (o 35)]) (rest := []) S hI m_Wh_order w_422 (c_Wh_order l D t0 L _ _ o r 46 x27 34 35 (by omega) hY hW.N (by omega)) (hW.rc (i := 34) (by omega)).choose_spec rfl hl.1 rfl rfl (Nat.le_of_ble_eq_true rfl) d_Rk_total_96 ⟨Nat.le_of_ble_eq_true rfl, Nat.le_of_ble_eq_true rfl⟩ ⟨Nat.le_of_ble_eq_true rfl, Nat.le_of_ble_eq_true rfl⟩ (fun v9 L9 f31 H locs hp hI => ?_)
    refine W.cs (cells' := 0) (slots' := 0) rfl rfl ?_
    obtain ⟨hv9, rfl, rfl⟩ := hp
    cases hv9
    refine hw_stk (st' := [.int (cmpN (x27 34) (x27 35))]) rfl ?_
    refine lv_if_lt (tgt := 134) hx hb d_Rk_total_99 (by decide) (fun c32 => ?_) (fun c32 => ?_)
    · have hlr : l0 < r0 := by have h9 := cmpN_neg.mp c32; rw [e34, e35] at h9; exact h9
      refine lv_aload_n hx hb d_Rk_total_134 rfl (lv_at hl 0 rfl) ?_
      refine ob_get S hI hW.Rk (C := R_Rk) (T := F_Rk) (N := 7) (ref := "WallFractions$Reckoner") rfl i_Rk 2 (by decide) rfl w_134 rfl d_Rk_total_135 ?_
      refine ob_getN S hI hW.Out (C := R_Fr) (T := F_Fr) (N := 3) (ref := "WallFractions$Fraction") rfl i_Fr 0 (by decide) rfl (by decide +kernel) rfl d_Rk_total_138 ?_
      refine lv_aload_n hx hb d_Rk_total_141 rfl (lv_at hl 0 rfl) ?_
      refine ob_get S hI hW.Rk (C := R_Rk) (T := F_Rk) (N := 7) (ref := "WallFractions$Reckoner") rfl i_Rk 4 (by decide) rfl w_137 rfl d_Rk_total_142 ?_
      refine lv_aload_n hx hb d_Rk_total_145 rfl (lv_at hl 0 rfl) ?_
      refine ob_get S hI hW.Rk (C := R_Rk) (T := F_Rk) (N := 7) (ref := "WallFractions$Reckoner") rfl i_Rk 3 (by decide) rfl w_136 rfl d_Rk_total_146 ?_
      refine hw_cV (As := [.ref (o 35), .ref (o 34)]) (rest := []) S hI m_Wh_becomeDifference w_426 (c_Wh_becomeDifference l D t0 L _ _ o r 46 x27 32 35 34 (by omega) hY hW.N (by omega) (by omega) (by rw [e34, e35]; omega)) (hW.rc (i := 32) (by omega)).choose_spec rfl hl.1 rfl rfl (Nat.le_of_ble_eq_true rfl) d_Rk_total_149 ⟨Nat.le_of_ble_eq_true rfl, Nat.le_of_ble_eq_true rfl⟩ ⟨Nat.le_of_ble_eq_true rfl, Nat.le_of_ble_eq_true rfl⟩ (fun v9 L9 f33 H locs hp hI => ?_)
      refine W.cs (cells' := 0) (slots' := 0) rfl rfl ?_
      obtain ⟨hv9, rfl, hN9, hf9⟩ := hp
      cases hv9
      refine hw_stk (st' := []) rfl ?_
      have hF := hF.wh (fun q h9 _ _ _ => hf9 q (h9 32 (by omega)).1 (h9 32 (by omega)).2)
      obtain ⟨x33, hW, e9, s9⟩ := (hW.wh hN9 (fun q h9 => hf9 q (h9 32 (by omega)).1 (h9 32 (by omega)).2)).cut
      have n9 : x33 32 = r0 - l0 := by rw [e9, e34, e35]
      have e34 : x33 34 = l0 := (s9 34 (by omega)).trans e34
      have e35 : x33 35 = r0 := (s9 35 (by omega)).trans e35
      have e33 : x33 33 = b0 := (s9 33 (by omega)).trans e33
      have e32 : x33 32 = r0 - l0 := n9
      have hs := fun z (hz : z < 32) => (s9 z (by omega)).trans (hs z hz)
      refine lv_aload_n hx hb d_Rk_total_152 rfl (lv_at hl 0 rfl) ?_
      refine ob_get S hI hW.Rk (C := R_Rk) (T := F_Rk) (N := 7) (ref := "WallFractions$Reckoner") rfl i_Rk 2 (by decide) rfl w_134 rfl d_Rk_total_153 ?_
      refine lv_iload_n hx hb d_Rk_total_156 rfl (lv_at hl 3 rfl) ?_
      refine hw_ti (show _ = sB (nb) from rfl) ?_
      refine ob_putN S hI hW.Out (fs' := [.ref (o 32), .ref (o 33), .int (sB (nb))]) (C := R_Fr) (T := F_Fr) (N := 3) (ref := "WallFractions$Fraction") rfl i_Fr t_Fr t_Fr_ok n_Fr 2 (by decide) rfl (by decide +kernel) rfl (sB_nar _) (sB_fit _) (by simp only [List.length]; decide) rfl d_Rk_total_157 (fun f34 H locs hI hO9 hf34 => ?_)
      have hF := hF.sg (by decide) hf34
      obtain ⟨sg34, hW, g9, t9⟩ := (hW.sgn hg (by decide) hf34 (b := (nb)) hO9).cutS
      have g16 : sg34 16 = (nb) := g9
      have ht := fun z (hz : z < 16) => (t9 z (by omega)).trans (ht z hz)
      have hto : tot l0 r0 (sg a) nb = r0 - l0 := by unfold tot; rw [if_neg hsn, if_neg (by omega)]
      have hts : tots l0 r0 (sg a) nb = nb := by unfold tots; rw [if_neg hsn, if_neg (by omega)]
      exact hw_vret hx hb hr hlocks hI d_Rk_total_160 ⟨rfl, rfl, x33, sg34, hW, (by rw [← hl0, ← hr0, hto]; exact e32), (e33.trans hb0), (by rw [← hl0, ← hr0, hts]; exact g16), hs, ht, hF⟩
    · have hlr : r0 ≤ l0 := Nat.not_lt.mp (fun h9 => c32 (cmpN_neg.mpr (by rw [e34, e35]; exact h9)))
      refine lv_aload_n hx hb d_Rk_total_102 rfl (lv_at hl 0 rfl) ?_
      refine ob_get S hI hW.Rk (C := R_Rk) (T := F_Rk) (N := 7) (ref := "WallFractions$Reckoner") rfl i_Rk 2 (by decide) rfl w_134 rfl d_Rk_total_103 ?_
      refine ob_getN S hI hW.Out (C := R_Fr) (T := F_Fr) (N := 3) (ref := "WallFractions$Fraction") rfl i_Fr 0 (by decide) rfl (by decide +kernel) rfl d_Rk_total_106 ?_
      refine lv_aload_n hx hb d_Rk_total_109 rfl (lv_at hl 0 rfl) ?_
      refine ob_get S hI hW.Rk (C := R_Rk) (T := F_Rk) (N := 7) (ref := "WallFractions$Reckoner") rfl i_Rk 3 (by decide) rfl w_136 rfl d_Rk_total_110 ?_
      refine lv_aload_n hx hb d_Rk_total_113 rfl (lv_at hl 0 rfl) ?_
      refine ob_get S hI hW.Rk (C := R_Rk) (T := F_Rk) (N := 7) (ref := "WallFractions$Reckoner") rfl i_Rk 4 (by decide) rfl w_137 rfl d_Rk_total_114 ?_
      refine hw_cV (As := [.ref (o 34), .ref (o 35)]) (rest := []) S hI m_Wh_becomeDifference w_426 (c_Wh_becomeDifference l D t0 L _ _ o r 46 x27 32 34 35 (by omega) hY hW.N (by omega) (by omega) (by rw [e34, e35]; omega)) (hW.rc (i := 32) (by omega)).choose_spec rfl hl.1 rfl rfl (Nat.le_of_ble_eq_true rfl) d_Rk_total_117 ⟨Nat.le_of_ble_eq_true rfl, Nat.le_of_ble_eq_true rfl⟩ ⟨Nat.le_of_ble_eq_true rfl, Nat.le_of_ble_eq_true rfl⟩ (fun v9 L9 f35 H locs hp hI => ?_)
      refine W.cs (cells' := 0) (slots' := 0) rfl rfl ?_
      obtain ⟨hv9, rfl, hN9, hf9⟩ := hp
      cases hv9
      refine hw_stk (st' := []) rfl ?_
      have hF := hF.wh (fun q h9 _ _ _ => hf9 q (h9 32 (by omega)).1 (h9 32 (by omega)).2)
      obtain ⟨x35, hW, e9, s9⟩ := (hW.wh hN9 (fun q h9 => hf9 q (h9 32 (by omega)).1 (h9 32 (by omega)).2)).cut
      have n9 : x35 32 = l0 - r0 := by rw [e9, e34, e35]
      have e34 : x35 34 = l0 := (s9 34 (by omega)).trans e34
      have e35 : x35 35 = r0 := (s9 35 (by omega)).trans e35
      have e33 : x35 33 = b0 := (s9 33 (by omega)).trans e33
      have e32 : x35 32 = l0 - r0 := n9
      have hs := fun z (hz : z < 32) => (s9 z (by omega)).trans (hs z hz)
      refine lv_aload_n hx hb d_Rk_total_120 rfl (lv_at hl 0 rfl) ?_
      refine ob_get S hI hW.Rk (C := R_Rk) (T := F_Rk) (N := 7) (ref := "WallFractions$Reckoner") rfl i_Rk 2 (by decide) rfl w_134 rfl d_Rk_total_121 ?_
      refine lv_aload_n hx hb d_Rk_total_124 rfl (lv_at hl 1 rfl) ?_
      refine ob_getN S hI (hW.Fr (by omega)) (C := R_Fr) (T := F_Fr) (N := 3) (ref := "WallFractions$Fraction") rfl i_Fr 2 (by decide) rfl (by decide +kernel) rfl d_Rk_total_125 ?_
      refine hw_ti (show _ = sB (sg a) from rfl) ?_
      refine ob_putN S hI hW.Out (fs' := [.ref (o 32), .ref (o 33), .int (sB (sg a))]) (C := R_Fr) (T := F_Fr) (N := 3) (ref := "WallFractions$Fraction") rfl i_Fr t_Fr t_Fr_ok n_Fr 2 (by decide) rfl (by decide +kernel) rfl (sB_nar _) (sB_fit _) (by simp only [List.length]; decide) rfl d_Rk_total_128 (fun f36 H locs hI hO9 hf36 => ?_)
      have hF := hF.sg (by decide) hf36
      obtain ⟨sg36, hW, g9, t9⟩ := (hW.sgn hg (by decide) hf36 (b := (sg a)) hO9).cutS
      have g16 : sg36 16 = (sg a) := g9
      have ht := fun z (hz : z < 16) => (t9 z (by omega)).trans (ht z hz)
      have hto : tot l0 r0 (sg a) nb = l0 - r0 := by unfold tot; rw [if_neg hsn, if_pos (by omega)]
      have hts : tots l0 r0 (sg a) nb = sg a := by unfold tots; rw [if_neg hsn, if_pos (by omega)]
      refine lv_goto (tgt := 160) hx hb d_Rk_total_131 (by decide) ?_
      exact hw_vret hx hb hr hlocks hI d_Rk_total_160 ⟨rfl, rfl, x35, sg36, hW, (by rw [← hl0, ← hr0, hto]; exact e32), (e33.trans hb0), (by rw [← hl0, ← hr0, hts]; exact g16), hs, ht, hF⟩
  · have hsn : sg a = nb := sB_inj.mp c28
    refine lv_aload_n hx hb d_Rk_total_56 rfl (lv_at hl 0 rfl) ?_
    refine ob_get S hI hW.Rk (C := R_Rk) (T := F_Rk) (N := 7) (ref := "WallFractions$Reckoner") rfl i_Rk 2 (by decide) rfl w_134 rfl d_Rk_total_57 ?_
    refine ob_getN S hI hW.Out (C := R_Fr) (T := F_Fr) (N := 3) (ref := "WallFractions$Fraction") rfl i_Fr 0 (by decide) rfl (by decide +kernel) rfl d_Rk_total_60 ?_
    refine lv_aload_n hx hb d_Rk_total_63 rfl (lv_at hl 0 rfl) ?_
    refine ob_get S hI hW.Rk (C := R_Rk) (T := F_Rk) (N := 7) (ref := "WallFractions$Reckoner") rfl i_Rk 3 (by decide) rfl w_136 rfl d_Rk_total_64 ?_
    refine lv_aload_n hx hb d_Rk_total_67 rfl (lv_at hl 0 rfl) ?_
    refine ob_get S hI hW.Rk (C := R_Rk) (T := F_Rk) (N := 7) (ref := "WallFractions$Reckoner") rfl i_Rk 4 (by decide) rfl w_137 rfl d_Rk_total_68 ?_
    refine hw_cV (As := [.ref (o 34), .ref (o 35)]) (rest := []) S hI m_Wh_becomeSum w_411 (c_Wh_becomeSum l D t0 L _ _ o r 46 x27 32 34 35 (by omega) hY hW.N (by omega) (by omega) (by rw [e34]; exact hl40) (by rw [e35]; exact hr40)) (hW.rc (i := 32) (by omega)).choose_spec rfl hl.1 rfl rfl (Nat.le_of_ble_eq_true rfl) d_Rk_total_71 ⟨Nat.le_of_ble_eq_true rfl, Nat.le_of_ble_eq_true rfl⟩ ⟨Nat.le_of_ble_eq_true rfl, Nat.le_of_ble_eq_true rfl⟩ (fun v9 L9 f29 H locs hp hI => ?_)
    refine W.cs (cells' := 0) (slots' := 0) rfl rfl ?_
    obtain ⟨hv9, rfl, hN9, hf9⟩ := hp
    cases hv9
    refine hw_stk (st' := []) rfl ?_
    have hF := hF.wh (fun q h9 _ _ _ => hf9 q (h9 32 (by omega)).1 (h9 32 (by omega)).2)
    obtain ⟨x29, hW, e9, s9⟩ := (hW.wh hN9 (fun q h9 => hf9 q (h9 32 (by omega)).1 (h9 32 (by omega)).2)).cut
    have n9 : x29 32 = l0 + r0 := by rw [e9, e34, e35]
    have e34 : x29 34 = l0 := (s9 34 (by omega)).trans e34
    have e35 : x29 35 = r0 := (s9 35 (by omega)).trans e35
    have e33 : x29 33 = b0 := (s9 33 (by omega)).trans e33
    have e32 : x29 32 = l0 + r0 := n9
    have hs := fun z (hz : z < 32) => (s9 z (by omega)).trans (hs z hz)
    refine lv_aload_n hx hb d_Rk_total_74 rfl (lv_at hl 0 rfl) ?_
    refine ob_get S hI hW.Rk (C := R_Rk) (T := F_Rk) (N := 7) (ref := "WallFractions$Reckoner") rfl i_Rk 2 (by decide) rfl w_134 rfl d_Rk_total_75 ?_
    refine lv_aload_n hx hb d_Rk_total_78 rfl (lv_at hl 1 rfl) ?_
    refine ob_getN S hI (hW.Fr (by omega)) (C := R_Fr) (T := F_Fr) (N := 3) (ref := "WallFractions$Fraction") rfl i_Fr 2 (by decide) rfl (by decide +kernel) rfl d_Rk_total_79 ?_
    refine hw_ti (show _ = sB (sg a) from rfl) ?_
    refine ob_putN S hI hW.Out (fs' := [.ref (o 32), .ref (o 33), .int (sB (sg a))]) (C := R_Fr) (T := F_Fr) (N := 3) (ref := "WallFractions$Fraction") rfl i_Fr t_Fr t_Fr_ok n_Fr 2 (by decide) rfl (by decide +kernel) rfl (sB_nar _) (sB_fit _) (by simp only [List.length]; decide) rfl d_Rk_total_82 (fun f30 H locs hI hO9 hf30 => ?_)
    have hF := hF.sg (by decide) hf30
    obtain ⟨sg30, hW, g9, t9⟩ := (hW.sgn hg (by decide) hf30 (b := (sg a)) hO9).cutS
    have g16 : sg30 16 = (sg a) := g9
    have ht := fun z (hz : z < 16) => (t9 z (by omega)).trans (ht z hz)
    have hto : tot l0 r0 (sg a) nb = l0 + r0 := by unfold tot; rw [if_pos hsn]
    have hts : tots l0 r0 (sg a) nb = sg a := by unfold tots; rw [if_pos hsn]
    refine lv_goto (tgt := 160) hx hb d_Rk_total_85 (by decide) ?_
    exact hw_vret hx hb hr hlocks hI d_Rk_total_160 ⟨rfl, rfl, x29, sg30, hW, (by rw [← hl0, ← hr0, hto]; exact e32), (e33.trans hb0), (by rw [← hl0, ← hr0, hts]; exact g16), hs, ht, hF⟩

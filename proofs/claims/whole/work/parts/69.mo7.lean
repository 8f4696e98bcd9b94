theorem zL_least : (-9223372036854775807 : Int64) = zL (-9223372036854775807) := by decide
theorem zL_abs_neg {p : Int} (h : p < 0) (h1 : -9223372036854775807 ≤ p) : -zL p = lN p.natAbs := by rw [zL_neg, zL_lN]; congr 1; omega
theorem zL_abs_pos {p : Int} (h : 0 ≤ p) : zL p = lN p.natAbs := by rw [zL_lN]; congr 1; omega
theorem lows_fit {a b : Nat} {s : Bool} (ha : a < nB ^ 20) (hb : b < nB ^ 20) : fitR (lows a b s) = true := decide_eq_true ⟨Nat.lt_of_le_of_lt (Nat.div_le_self _ _) ha, Nat.lt_of_le_of_lt (Nat.div_le_self _ _) hb⟩
theorem l63 : (2 : Nat) ^ 63 < nB ^ 20 := by decide +kernel
set_option maxHeartbeats 4000000 in
set_option maxRecDepth 100000 in
theorem c_Mo_set (l : Launch) (D : va_G) (t0 : Nat) (L : List Nat) (f : Nat → va_E) (sz : Nat) (mm mc ml mg mw mr : Nat) (th : Int32) (σ : Sg) (wt : Nat → Nat) (r0 : Int32) (pa qa : Int) (hM : Mg D L f mm mc ml mg mw mr th σ wt) (hok : Ok σ wt) (hp1 : -2 ^ 63 ≤ pa) (hp2 : pa < 2 ^ 63) (hq1 : -2 ^ 63 ≤ qa) (hq2 : qa < 2 ^ 63) : Met l y_Mo_set (Cond.code y_Mo_set b_Mo_set 9 none :: TT) ({ frames := 5, cells := 0, slots := 0, locals := 131 } : Room) (hw_Pc t0 [.ref (mm), .int (r0), .long (zL pa), .long (zL qa)] D L f sz) (hw_Q D L sz (fun oc L' f' => oc = .returned none ∧ L = L' ∧ Mg D L f' mm mc ml mg mw mr (nI (opSet σ r0 pa qa).1) (opSet σ r0 pa qa).2 wt ∧ Fo mm mc ml mg mw mr f f')) 0 0 (hw_A L sz) := by
  refine Met.ofW (cc := b_Mo_set) (maxL := 9) (ret := none) (by decide) rfl ?_
  intro p e s m args below meth c s₁ B hml hv
  obtain ⟨rfl, rfl, hI⟩ := hw_start hv
  clear hv
  have hx := B.exec
  have hb := B.bytes
  have hr := B.returns
  have hlocks := B.notSynchronized
  have hown : s.vm.findClass "WallFractionsModel" = some m.cls := findClass_of_methodNamed B.named
  have hT : ∀ w ∈ TT, w.before ([.ref (mm), .int (r0), .long (zL pa), .long (zL qa)]).toArray s = true := fun w h => atoms_spec (ws := (Cond.code y_Mo_set b_Mo_set 9 none :: TT)) B.pre w (List.mem_cons_of_mem _ h)
  have S : CallFix p m c b_Mo_set 9 s ([.ref (mm), .int (r0), .long (zL pa), .long (zL qa)]).toArray TT "WallFractionsModel" := ⟨hx, hb, hml, hown, hT⟩
  have hl := lv_entry ([.ref (mm), .int (r0), .long (zL pa), .long (zL qa)]) (n := 9) (Nat.le_of_ble_eq_true rfl)
  rw [lg_entry_eq]
  generalize (lg_sl ([.ref (mm), .int (r0), .long (zL pa), .long (zL qa)]) ++ List.replicate (9 - (lg_sl ([.ref (mm), .int (r0), .long (zL pa), .long (zL qa)])).length) Slot.unset).toArray = ls at hl ⊢
  have hl : lv_has ls 9 [(0, .ref (mm)), (1, .int (r0)), (2, .long (zL pa)), (4, .long (zL qa))] := hl
  skip
  obtain ⟨y, sn, rr, hn, hR⟩ := hM
  have hF : Fo mm mc ml mg mw mr f f := Fo.refl
  obtain ⟨cs, ns, hm, hc⟩ := id hn
  refine hw_ldc2 (v := (-9223372036854775807)) hx hb hown (hT _ w_798) d_Mo_set_0 ?_
  refine hw_tl (show _ = zL (-9223372036854775807) from zL_least) ?_
  refine lv_lstore (lv' := [(6, .long (zL (-9223372036854775807))), (0, .ref (mm)), (1, .int (r0)), (2, .long (zL pa)), (4, .long (zL qa))]) hx hb d_Mo_set_3 hl (by decide) rfl (fun ls hl => ?_)
  refine lv_aload_n hx hb d_Mo_set_5 rfl (lv_at hl 1 rfl) ?_
  refine lv_iload_n hx hb d_Mo_set_6 rfl (lv_at hl 2 rfl) ?_
  by_cases hr0 : vr r0 = true
  · refine hw_cS (As := [.int (r0)]) (rest := [.ref (mm)]) S hI m_Mo_isRegister w_799 (c_Mo_isRegister l D t0 L _ _ r0) hl.1 rfl rfl (Nat.le_of_ble_eq_true rfl) d_Mo_set_7 ⟨Nat.le_of_ble_eq_true rfl, Nat.le_of_ble_eq_true rfl⟩ ⟨Nat.le_of_ble_eq_true rfl, Nat.le_of_ble_eq_true rfl⟩ (fun v9 L9 f103 H locs hp hI => ?_)
    refine W.cs (cells' := 0) (slots' := 0) rfl rfl ?_
    obtain ⟨hv9, rfl, rfl⟩ := hp
    cases hv9
    refine hw_stk (st' := [.int (if vr r0 = true then nI 1 else nI 0), .ref (mm)]) rfl ?_
    refine hw_ti (show _ = nI 1 from by rw [if_pos hr0]) ?_
    refine hw_if_eq (tgt := 28) hx hb d_Mo_set_10 (by decide) (by decide) (fun c9 => absurd c9 (by decide)) (fun _ => ?_)
    refine lv_lload_n hx hb d_Mo_set_13 rfl (lv_at hl 3 rfl) ?_
    refine lv_lload hx hb d_Mo_set_14 (lv_at hl 0 rfl) ?_
    by_cases hp : -9223372036854775807 ≤ pa
    · refine hw_l_lt (tgt := 28) hx hb d_Mo_set_16 d_Mo_set_17 (by decide) (fun c9 => absurd ((zL_le (by decide) (by decide) hp1 hp2).mpr (by omega)) (Int64.not_le.mpr c9)) (fun _ => ?_)
      refine lv_lload hx hb d_Mo_set_20 (lv_at hl 4 rfl) ?_
      refine lv_lload hx hb d_Mo_set_22 (lv_at hl 0 rfl) ?_
      by_cases hq : -9223372036854775807 ≤ qa
      · refine hw_l_ge (tgt := 32) hx hb d_Mo_set_24 d_Mo_set_25 (by decide) (fun _ => ?_) (fun c9 => absurd ((zL_le (by decide) (by decide) hq1 hq2).mpr (by omega)) (Int64.not_le.mpr c9))
        refine lv_lload hx hb d_Mo_set_32 (lv_at hl 4 rfl) ?_
        refine lv_lconst (v := lN 0) hx hb d_Mo_set_34 rfl ?_
        have hv : (vr r0 && decide (-9223372036854775807 ≤ pa) && decide (-9223372036854775807 ≤ qa)) = true := by simp [hr0, hp, hq]
        by_cases hz : qa = 0
        · refine hw_l_ne (tgt := 43) hx hb d_Mo_set_35 d_Mo_set_36 (by decide) (fun c9 => absurd (show zL qa = lN 0 by rw [hz]; rfl) c9) (fun _ => ?_)
          have e9 : opSet σ r0 pa qa = (2, σ) := by unfold opSet; rw [if_pos hv, if_pos hz]
          refine lv_iconst (v := nI 2) hx hb d_Mo_set_39 (by decide) ?_
          refine lv_goto (tgt := 44) hx hb d_Mo_set_40 (by decide) ?_
          refine ob_put S hI hm.1 (fs' := [.int (nI 2), .ref (mc), .ref (ml), .ref (mg), .ref (mw), .ref (mr)]) (C := R_Mo) (T := F_Mo) (N := 6) (ref := "WallFractionsModel") rfl i_Mo t_Mo t_Mo_ok n_Mo 0 (by decide) rfl w_771 rfl rfl rfl (by simp only [List.length]; decide) rfl d_Mo_set_44 (fun f106 H locs hI hO9 hf106 => ?_)
          have hm := hm.umm hf106 hO9
          have hF := hF.umm hf106
          have hn := (⟨_, _, hm, hc⟩ : Mn D L _ mm mc ml mg mw mr _ _ _ _ _)
          refine lv_aload_n hx hb d_Mo_set_47 rfl (lv_at hl 1 rfl) ?_
          refine ob_get S hI hm.1 (C := R_Mo) (T := F_Mo) (N := 6) (ref := "WallFractionsModel") rfl i_Mo 0 (by decide) rfl w_771 rfl d_Mo_set_48 ?_
          refine hw_if_le (tgt := 55) hx hb d_Mo_set_51 (by decide) (by decide) (fun c9 => absurd c9 (by decide)) (fun _ => ?_)
          exact hw_vret hx hb hr hlocks hI d_Mo_set_54 ⟨rfl, rfl, by rw [e9]; exact ⟨_, _, _, hn, hR⟩, hF⟩
        · refine hw_l_ne (tgt := 43) hx hb d_Mo_set_35 d_Mo_set_36 (by decide) (fun _ => ?_) (fun c9 => absurd c9 (fun h9 => hz ((zL_eq (b := 0) hq1 hq2 (by decide) (by decide)).mp h9)))
          refine lv_iconst (v := nI 0) hx hb d_Mo_set_43 (by decide) ?_
          refine ob_put S hI hm.1 (fs' := [.int (nI 0), .ref (mc), .ref (ml), .ref (mg), .ref (mw), .ref (mr)]) (C := R_Mo) (T := F_Mo) (N := 6) (ref := "WallFractionsModel") rfl i_Mo t_Mo t_Mo_ok n_Mo 0 (by decide) rfl w_771 rfl rfl rfl (by simp only [List.length]; decide) rfl d_Mo_set_44 (fun f107 H locs hI hO9 hf107 => ?_)
          have hm := hm.umm hf107 hO9
          have hF := hF.umm hf107
          have hn := (⟨_, _, hm, hc⟩ : Mn D L _ mm mc ml mg mw mr _ _ _ _ _)
          refine lv_aload_n hx hb d_Mo_set_47 rfl (lv_at hl 1 rfl) ?_
          refine ob_get S hI hm.1 (C := R_Mo) (T := F_Mo) (N := 6) (ref := "WallFractionsModel") rfl i_Mo 0 (by decide) rfl w_771 rfl d_Mo_set_48 ?_
          refine hw_if_le (tgt := 55) hx hb d_Mo_set_51 (by decide) (by decide) (fun _ => ?_) (fun c9 => absurd c9 (by decide))
          obtain ⟨r, hr9, rfl⟩ := vr_nat hr0
          have l9 := l63
          rcases Int.lt_or_le pa 0 with sp | sp
          · rcases Int.lt_or_le qa 0 with sq | sq
            · refine lv_aload_n hx hb d_Mo_set_55 rfl (lv_at hl 1 rfl) ?_
              refine lv_bipush (v := nI 32) hx hb d_Mo_set_56 (by decide) ?_
              refine lv_lload_n hx hb d_Mo_set_58 rfl (lv_at hl 3 rfl) ?_
              refine lv_lconst (v := lN 0) hx hb d_Mo_set_59 rfl ?_
              refine hw_l_ge (tgt := 69) hx hb d_Mo_set_60 d_Mo_set_61 (by decide) (fun c9 => absurd ((zL_lt (b := 0) hp1 hp2 (by decide) (by decide)).mpr sp) (Int64.not_lt.mpr c9)) (fun _ => ?_)
              refine lv_lload_n hx hb d_Mo_set_64 rfl (lv_at hl 3 rfl) ?_
              refine lv_lneg hx hb d_Mo_set_65 ?_
              refine lv_goto (tgt := 70) hx hb d_Mo_set_66 (by decide) ?_
              refine hw_tl (show _ = lN pa.natAbs from zL_abs_neg sp hp) ?_
              refine hw_cV (As := [.int (nI 32), .long (lN pa.natAbs)]) (rest := []) S hI m_Mo_setLong w_766 (c_Mo_setLong l D t0 L _ _ mm mc ml mg mw mr (nI 0) y sn wt rr 32 pa.natAbs hn (by decide) (by omega)) hm.1 rfl hl.1 rfl rfl (Nat.le_of_ble_eq_true rfl) d_Mo_set_70 ⟨Nat.le_of_ble_eq_true rfl, Nat.le_of_ble_eq_true rfl⟩ ⟨Nat.le_of_ble_eq_true rfl, Nat.le_of_ble_eq_true rfl⟩ (fun v9 L9 f108 H locs hp hI => ?_)
              refine W.cs (cells' := 0) (slots' := 0) rfl rfl ?_
              obtain ⟨hv9, rfl, hn, hF9⟩ := hp
              cases hv9
              refine hw_stk (st' := []) rfl ?_
              have hF := hF.trans hF9
              obtain ⟨y109, ey⟩ : ∃ z9, z9 = va_up y 32 pa.natAbs := ⟨_, rfl⟩
              rw [← ey] at hn
              have q32 : y109 32 = pa.natAbs := by rw [ey]; rw [hw_up_eq]
              have k32 := q32
              have hR : RM σ y109 sn := by rw [ey]; exact hR.up (by decide)
              obtain ⟨cs, ns, hm, hc⟩ := id hn
              refine lv_aload_n hx hb d_Mo_set_73 rfl (lv_at hl 1 rfl) ?_
              refine lv_bipush (v := nI 34) hx hb d_Mo_set_74 (by decide) ?_
              refine lv_lload hx hb d_Mo_set_76 (lv_at hl 4 rfl) ?_
              refine lv_lconst (v := lN 0) hx hb d_Mo_set_78 rfl ?_
              refine hw_l_ge (tgt := 89) hx hb d_Mo_set_79 d_Mo_set_80 (by decide) (fun c9 => absurd ((zL_lt (b := 0) hq1 hq2 (by decide) (by decide)).mpr sq) (Int64.not_lt.mpr c9)) (fun _ => ?_)
              refine lv_lload hx hb d_Mo_set_83 (lv_at hl 4 rfl) ?_
              refine lv_lneg hx hb d_Mo_set_85 ?_
              refine lv_goto (tgt := 91) hx hb d_Mo_set_86 (by decide) ?_
              refine hw_tl (show _ = lN qa.natAbs from zL_abs_neg sq hq) ?_
              refine hw_cV (As := [.int (nI 34), .long (lN qa.natAbs)]) (rest := []) S hI m_Mo_setLong w_766 (c_Mo_setLong l D t0 L _ _ mm mc ml mg mw mr (nI 0) y109 sn wt rr 34 qa.natAbs hn (by decide) (by omega)) hm.1 rfl hl.1 rfl rfl (Nat.le_of_ble_eq_true rfl) d_Mo_set_91 ⟨Nat.le_of_ble_eq_true rfl, Nat.le_of_ble_eq_true rfl⟩ ⟨Nat.le_of_ble_eq_true rfl, Nat.le_of_ble_eq_true rfl⟩ (fun v9 L9 f110 H locs hp hI => ?_)
              refine W.cs (cells' := 0) (slots' := 0) rfl rfl ?_
              obtain ⟨hv9, rfl, hn, hF9⟩ := hp
              cases hv9
              refine hw_stk (st' := []) rfl ?_
              have hF := hF.trans hF9
              obtain ⟨y111, ey⟩ : ∃ z9, z9 = va_up y109 34 qa.natAbs := ⟨_, rfl⟩
              rw [← ey] at hn
              have q34 : y111 34 = qa.natAbs := by rw [ey]; rw [hw_up_eq]
              have q32 : y111 32 = pa.natAbs := by rw [ey, hw_up_ne (by decide)]; exact k32
              have k34 := q34
              have k32 := q32
              have hR : RM σ y111 sn := by rw [ey]; exact hR.up (by decide)
              obtain ⟨cs, ns, hm, hc⟩ := id hn
              refine lv_aload_n hx hb d_Mo_set_94 rfl (lv_at hl 1 rfl) ?_
              refine lv_iload_n hx hb d_Mo_set_95 rfl (lv_at hl 2 rfl) ?_
              refine lv_lload_n hx hb d_Mo_set_96 rfl (lv_at hl 3 rfl) ?_
              refine lv_lconst (v := lN 0) hx hb d_Mo_set_97 rfl ?_
              refine hw_l_ge (tgt := 106) hx hb d_Mo_set_98 d_Mo_set_99 (by decide) (fun c9 => absurd ((zL_lt (b := 0) hp1 hp2 (by decide) (by decide)).mpr sp) (Int64.not_lt.mpr c9)) (fun _ => ?_)
              refine lv_iconst (v := nI 1) hx hb d_Mo_set_102 (by decide) ?_
              refine lv_goto (tgt := 107) hx hb d_Mo_set_103 (by decide) ?_
              refine lv_lload hx hb d_Mo_set_107 (lv_at hl 4 rfl) ?_
              refine lv_lconst (v := lN 0) hx hb d_Mo_set_109 rfl ?_
              refine hw_l_ge (tgt := 118) hx hb d_Mo_set_110 d_Mo_set_111 (by decide) (fun c9 => absurd ((zL_lt (b := 0) hq1 hq2 (by decide) (by decide)).mpr sq) (Int64.not_lt.mpr c9)) (fun _ => ?_)
              refine lv_iconst (v := nI 1) hx hb d_Mo_set_114 (by decide) ?_
              refine lv_goto (tgt := 119) hx hb d_Mo_set_115 (by decide) ?_
              refine hw_icmp_ne (tgt := 126) hx hb d_Mo_set_119 (by decide) (by omega) (by omega) (fun c9 => absurd c9 (by decide)) (fun _ => ?_)
              refine lv_iconst (v := nI 1) hx hb d_Mo_set_122 (by decide) ?_
              refine lv_goto (tgt := 127) hx hb d_Mo_set_123 (by decide) ?_
              have hs0 : (decide (pa < 0) != decide (qa < 0)) = false := by simp [sp, sq]
              refine hw_cV (As := [.int (nI r), .int (nI 1)]) (rest := []) S hI m_Mo_finish w_802 (c_Mo_finish l D t0 L _ _ mm mc ml mg mw mr (nI 0) y111 sn wt rr σ r (nI 1) (decide (pa < 0) != decide (qa < 0)) hn hR hr9 (by rw [k34]; omega) (fun _ => by rw [hs0]; rfl)) hm.1 rfl hl.1 rfl rfl (Nat.le_of_ble_eq_true rfl) d_Mo_set_127 ⟨Nat.le_of_ble_eq_true rfl, Nat.le_of_ble_eq_true rfl⟩ ⟨Nat.le_of_ble_eq_true rfl, Nat.le_of_ble_eq_true rfl⟩ (fun v9 L9 f112 H locs hp hI => ?_)
              refine W.cs (cells' := 0) (slots' := 0) rfl rfl ?_
              obtain ⟨hv9, rfl, ⟨y9, sn9, hn, hR⟩, hF9⟩ := hp
              cases hv9
              refine hw_stk (st' := [.int (if fitR (lows (y111 32) (y111 34) (decide (pa < 0) != decide (qa < 0))) = true then nI 1 else nI 0)]) rfl ?_
              have hF := hF.trans hF9
              rw [k32, k34] at hR
              have hfit : fitR (lows pa.natAbs qa.natAbs (decide (pa < 0) != decide (qa < 0))) = true := lows_fit (by omega) (by omega)
              rw [if_pos hfit] at hR
              have e9 : opSet σ (nI r) pa qa = (0, va_up σ r (lows pa.natAbs qa.natAbs (decide (pa < 0) != decide (qa < 0)))) := by unfold opSet; rw [if_pos hv, if_neg hz, putR_eq, ix_nI (by omega), if_pos hfit]
              refine lv_istore (lv' := [(8, .int (if fitR (lows (y111 32) (y111 34) (decide (pa < 0) != decide (qa < 0))) = true then nI 1 else nI 0)), (6, .long (zL (-9223372036854775807))), (0, .ref (mm)), (1, .int (nI r)), (2, .long (zL pa)), (4, .long (zL qa))]) hx hb d_Mo_set_130 hl (by decide) rfl (fun ls hl => ?_)
              exact hw_vret hx hb hr hlocks hI d_Mo_set_132 ⟨rfl, rfl, by rw [e9]; exact ⟨_, _, _, hn, hR⟩, hF⟩
            · refine lv_aload_n hx hb d_Mo_set_55 rfl (lv_at hl 1 rfl) ?_
              refine lv_bipush (v := nI 32) hx hb d_Mo_set_56 (by decide) ?_
              refine lv_lload_n hx hb d_Mo_set_58 rfl (lv_at hl 3 rfl) ?_
              refine lv_lconst (v := lN 0) hx hb d_Mo_set_59 rfl ?_
              refine hw_l_ge (tgt := 69) hx hb d_Mo_set_60 d_Mo_set_61 (by decide) (fun c9 => absurd ((zL_lt (b := 0) hp1 hp2 (by decide) (by decide)).mpr sp) (Int64.not_lt.mpr c9)) (fun _ => ?_)
              refine lv_lload_n hx hb d_Mo_set_64 rfl (lv_at hl 3 rfl) ?_
              refine lv_lneg hx hb d_Mo_set_65 ?_
              refine lv_goto (tgt := 70) hx hb d_Mo_set_66 (by decide) ?_
              refine hw_tl (show _ = lN pa.natAbs from zL_abs_neg sp hp) ?_
              refine hw_cV (As := [.int (nI 32), .long (lN pa.natAbs)]) (rest := []) S hI m_Mo_setLong w_766 (c_Mo_setLong l D t0 L _ _ mm mc ml mg mw mr (nI 0) y sn wt rr 32 pa.natAbs hn (by decide) (by omega)) hm.1 rfl hl.1 rfl rfl (Nat.le_of_ble_eq_true rfl) d_Mo_set_70 ⟨Nat.le_of_ble_eq_true rfl, Nat.le_of_ble_eq_true rfl⟩ ⟨Nat.le_of_ble_eq_true rfl, Nat.le_of_ble_eq_true rfl⟩ (fun v9 L9 f113 H locs hp hI => ?_)
              refine W.cs (cells' := 0) (slots' := 0) rfl rfl ?_
              obtain ⟨hv9, rfl, hn, hF9⟩ := hp
              cases hv9
              refine hw_stk (st' := []) rfl ?_
              have hF := hF.trans hF9
              obtain ⟨y114, ey⟩ : ∃ z9, z9 = va_up y 32 pa.natAbs := ⟨_, rfl⟩
              rw [← ey] at hn
              have q32 : y114 32 = pa.natAbs := by rw [ey]; rw [hw_up_eq]
              have k32 := q32
              have hR : RM σ y114 sn := by rw [ey]; exact hR.up (by decide)
              obtain ⟨cs, ns, hm, hc⟩ := id hn
              refine lv_aload_n hx hb d_Mo_set_73 rfl (lv_at hl 1 rfl) ?_
              refine lv_bipush (v := nI 34) hx hb d_Mo_set_74 (by decide) ?_
              refine lv_lload hx hb d_Mo_set_76 (lv_at hl 4 rfl) ?_
              refine lv_lconst (v := lN 0) hx hb d_Mo_set_78 rfl ?_
              refine hw_l_ge (tgt := 89) hx hb d_Mo_set_79 d_Mo_set_80 (by decide) (fun _ => ?_) (fun c9 => absurd ((zL_le (a := 0) (by decide) (by decide) hq1 hq2).mpr sq) (Int64.not_le.mpr c9))
              refine lv_lload hx hb d_Mo_set_89 (lv_at hl 4 rfl) ?_
              refine hw_tl (show _ = lN qa.natAbs from zL_abs_pos sq) ?_
              refine hw_cV (As := [.int (nI 34), .long (lN qa.natAbs)]) (rest := []) S hI m_Mo_setLong w_766 (c_Mo_setLong l D t0 L _ _ mm mc ml mg mw mr (nI 0) y114 sn wt rr 34 qa.natAbs hn (by decide) (by omega)) hm.1 rfl hl.1 rfl rfl (Nat.le_of_ble_eq_true rfl) d_Mo_set_91 ⟨Nat.le_of_ble_eq_true rfl, Nat.le_of_ble_eq_true rfl⟩ ⟨Nat.le_of_ble_eq_true rfl, Nat.le_of_ble_eq_true rfl⟩ (fun v9 L9 f115 H locs hp hI => ?_)
              refine W.cs (cells' := 0) (slots' := 0) rfl rfl ?_
              obtain ⟨hv9, rfl, hn, hF9⟩ := hp
              cases hv9
              refine hw_stk (st' := []) rfl ?_
              have hF := hF.trans hF9
              obtain ⟨y116, ey⟩ : ∃ z9, z9 = va_up y114 34 qa.natAbs := ⟨_, rfl⟩
              rw [← ey] at hn
              have q34 : y116 34 = qa.natAbs := by rw [ey]; rw [hw_up_eq]
              have q32 : y116 32 = pa.natAbs := by rw [ey, hw_up_ne (by decide)]; exact k32
              have k34 := q34
              have k32 := q32
              have hR : RM σ y116 sn := by rw [ey]; exact hR.up (by decide)
              obtain ⟨cs, ns, hm, hc⟩ := id hn
              refine lv_aload_n hx hb d_Mo_set_94 rfl (lv_at hl 1 rfl) ?_
              refine lv_iload_n hx hb d_Mo_set_95 rfl (lv_at hl 2 rfl) ?_
              refine lv_lload_n hx hb d_Mo_set_96 rfl (lv_at hl 3 rfl) ?_
              refine lv_lconst (v := lN 0) hx hb d_Mo_set_97 rfl ?_
              refine hw_l_ge (tgt := 106) hx hb d_Mo_set_98 d_Mo_set_99 (by decide) (fun c9 => absurd ((zL_lt (b := 0) hp1 hp2 (by decide) (by decide)).mpr sp) (Int64.not_lt.mpr c9)) (fun _ => ?_)
              refine lv_iconst (v := nI 1) hx hb d_Mo_set_102 (by decide) ?_
              refine lv_goto (tgt := 107) hx hb d_Mo_set_103 (by decide) ?_
              refine lv_lload hx hb d_Mo_set_107 (lv_at hl 4 rfl) ?_
              refine lv_lconst (v := lN 0) hx hb d_Mo_set_109 rfl ?_
              refine hw_l_ge (tgt := 118) hx hb d_Mo_set_110 d_Mo_set_111 (by decide) (fun _ => ?_) (fun c9 => absurd ((zL_le (a := 0) (by decide) (by decide) hq1 hq2).mpr sq) (Int64.not_le.mpr c9))
              refine lv_iconst (v := nI 0) hx hb d_Mo_set_118 (by decide) ?_
              refine hw_icmp_ne (tgt := 126) hx hb d_Mo_set_119 (by decide) (by omega) (by omega) (fun _ => ?_) (fun c9 => absurd c9 (by decide))
              refine lv_iconst (v := -1) hx hb d_Mo_set_126 (by decide) ?_
              have hs0 : (decide (pa < 0) != decide (qa < 0)) = true := by simp [sp, sq, Int.not_lt.mpr sq]
              refine hw_cV (As := [.int (nI r), .int (-1)]) (rest := []) S hI m_Mo_finish w_802 (c_Mo_finish l D t0 L _ _ mm mc ml mg mw mr (nI 0) y116 sn wt rr σ r (-1) (decide (pa < 0) != decide (qa < 0)) hn hR hr9 (by rw [k34]; omega) (fun _ => by rw [hs0]; rfl)) hm.1 rfl hl.1 rfl rfl (Nat.le_of_ble_eq_true rfl) d_Mo_set_127 ⟨Nat.le_of_ble_eq_true rfl, Nat.le_of_ble_eq_true rfl⟩ ⟨Nat.le_of_ble_eq_true rfl, Nat.le_of_ble_eq_true rfl⟩ (fun v9 L9 f117 H locs hp hI => ?_)
              refine W.cs (cells' := 0) (slots' := 0) rfl rfl ?_
              obtain ⟨hv9, rfl, ⟨y9, sn9, hn, hR⟩, hF9⟩ := hp
              cases hv9
              refine hw_stk (st' := [.int (if fitR (lows (y116 32) (y116 34) (decide (pa < 0) != decide (qa < 0))) = true then nI 1 else nI 0)]) rfl ?_
              have hF := hF.trans hF9
              rw [k32, k34] at hR
              have hfit : fitR (lows pa.natAbs qa.natAbs (decide (pa < 0) != decide (qa < 0))) = true := lows_fit (by omega) (by omega)
              rw [if_pos hfit] at hR
              have e9 : opSet σ (nI r) pa qa = (0, va_up σ r (lows pa.natAbs qa.natAbs (decide (pa < 0) != decide (qa < 0)))) := by unfold opSet; rw [if_pos hv, if_neg hz, putR_eq, ix_nI (by omega), if_pos hfit]
              refine lv_istore (lv' := [(8, .int (if fitR (lows (y116 32) (y116 34) (decide (pa < 0) != decide (qa < 0))) = true then nI 1 else nI 0)), (6, .long (zL (-9223372036854775807))), (0, .ref (mm)), (1, .int (nI r)), (2, .long (zL pa)), (4, .long (zL qa))]) hx hb d_Mo_set_130 hl (by decide) rfl (fun ls hl => ?_)
              exact hw_vret hx hb hr hlocks hI d_Mo_set_132 ⟨rfl, rfl, by rw [e9]; exact ⟨_, _, _, hn, hR⟩, hF⟩
          · rcases Int.lt_or_le qa 0 with sq | sq
            · refine lv_aload_n hx hb d_Mo_set_55 rfl (lv_at hl 1 rfl) ?_
              refine lv_bipush (v := nI 32) hx hb d_Mo_set_56 (by decide) ?_
              refine lv_lload_n hx hb d_Mo_set_58 rfl (lv_at hl 3 rfl) ?_
              refine lv_lconst (v := lN 0) hx hb d_Mo_set_59 rfl ?_
              refine hw_l_ge (tgt := 69) hx hb d_Mo_set_60 d_Mo_set_61 (by decide) (fun _ => ?_) (fun c9 => absurd ((zL_le (a := 0) (by decide) (by decide) hp1 hp2).mpr sp) (Int64.not_le.mpr c9))
              refine lv_lload_n hx hb d_Mo_set_69 rfl (lv_at hl 3 rfl) ?_
              refine hw_tl (show _ = lN pa.natAbs from zL_abs_pos sp) ?_
              refine hw_cV (As := [.int (nI 32), .long (lN pa.natAbs)]) (rest := []) S hI m_Mo_setLong w_766 (c_Mo_setLong l D t0 L _ _ mm mc ml mg mw mr (nI 0) y sn wt rr 32 pa.natAbs hn (by decide) (by omega)) hm.1 rfl hl.1 rfl rfl (Nat.le_of_ble_eq_true rfl) d_Mo_set_70 ⟨Nat.le_of_ble_eq_true rfl, Nat.le_of_ble_eq_true rfl⟩ ⟨Nat.le_of_ble_eq_true rfl, Nat.le_of_ble_eq_true rfl⟩ (fun v9 L9 f118 H locs hp hI => ?_)
              refine W.cs (cells' := 0) (slots' := 0) rfl rfl ?_
              obtain ⟨hv9, rfl, hn, hF9⟩ := hp
              cases hv9
              refine hw_stk (st' := []) rfl ?_
              have hF := hF.trans hF9
              obtain ⟨y119, ey⟩ : ∃ z9, z9 = va_up y 32 pa.natAbs := ⟨_, rfl⟩
              rw [← ey] at hn
              have q32 : y119 32 = pa.natAbs := by rw [ey]; rw [hw_up_eq]
              have k32 := q32
              have hR : RM σ y119 sn := by rw [ey]; exact hR.up (by decide)
              obtain ⟨cs, ns, hm, hc⟩ := id hn
              refine lv_aload_n hx hb d_Mo_set_73 rfl (lv_at hl 1 rfl) ?_
              refine lv_bipush (v := nI 34) hx hb d_Mo_set_74 (by decide) ?_
              refine lv_lload hx hb d_Mo_set_76 (lv_at hl 4 rfl) ?_
              refine lv_lconst (v := lN 0) hx hb d_Mo_set_78 rfl ?_
              refine hw_l_ge (tgt := 89) hx hb d_Mo_set_79 d_Mo_set_80 (by decide) (fun c9 => absurd ((zL_lt (b := 0) hq1 hq2 (by decide) (by decide)).mpr sq) (Int64.not_lt.mpr c9)) (fun _ => ?_)
              refine lv_lload hx hb d_Mo_set_83 (lv_at hl 4 rfl) ?_
              refine lv_lneg hx hb d_Mo_set_85 ?_
              refine lv_goto (tgt := 91) hx hb d_Mo_set_86 (by decide) ?_
              refine hw_tl (show _ = lN qa.natAbs from zL_abs_neg sq hq) ?_
              refine hw_cV (As := [.int (nI 34), .long (lN qa.natAbs)]) (rest := []) S hI m_Mo_setLong w_766 (c_Mo_setLong l D t0 L _ _ mm mc ml mg mw mr (nI 0) y119 sn wt rr 34 qa.natAbs hn (by decide) (by omega)) hm.1 rfl hl.1 rfl rfl (Nat.le_of_ble_eq_true rfl) d_Mo_set_91 ⟨Nat.le_of_ble_eq_true rfl, Nat.le_of_ble_eq_true rfl⟩ ⟨Nat.le_of_ble_eq_true rfl, Nat.le_of_ble_eq_true rfl⟩ (fun v9 L9 f120 H locs hp hI => ?_)
              refine W.cs (cells' := 0) (slots' := 0) rfl rfl ?_
              obtain ⟨hv9, rfl, hn, hF9⟩ := hp
              cases hv9
              refine hw_stk (st' := []) rfl ?_
              have hF := hF.trans hF9
              obtain ⟨y121, ey⟩ : ∃ z9, z9 = va_up y119 34 qa.natAbs := ⟨_, rfl⟩
              rw [← ey] at hn
              have q34 : y121 34 = qa.natAbs := by rw [ey]; rw [hw_up_eq]
              have q32 : y121 32 = pa.natAbs := by rw [ey, hw_up_ne (by decide)]; exact k32
              have k34 := q34
              have k32 := q32
              have hR : RM σ y121 sn := by rw [ey]; exact hR.up (by decide)
              obtain ⟨cs, ns, hm, hc⟩ := id hn
              refine lv_aload_n hx hb d_Mo_set_94 rfl (lv_at hl 1 rfl) ?_
              refine lv_iload_n hx hb d_Mo_set_95 rfl (lv_at hl 2 rfl) ?_
              refine lv_lload_n hx hb d_Mo_set_96 rfl (lv_at hl 3 rfl) ?_
              refine lv_lconst (v := lN 0) hx hb d_Mo_set_97 rfl ?_
              refine hw_l_ge (tgt := 106) hx hb d_Mo_set_98 d_Mo_set_99 (by decide) (fun _ => ?_) (fun c9 => absurd ((zL_le (a := 0) (by decide) (by decide) hp1 hp2).mpr sp) (Int64.not_le.mpr c9))
              refine lv_iconst (v := nI 0) hx hb d_Mo_set_106 (by decide) ?_
              refine lv_lload hx hb d_Mo_set_107 (lv_at hl 4 rfl) ?_
              refine lv_lconst (v := lN 0) hx hb d_Mo_set_109 rfl ?_
              refine hw_l_ge (tgt := 118) hx hb d_Mo_set_110 d_Mo_set_111 (by decide) (fun c9 => absurd ((zL_lt (b := 0) hq1 hq2 (by decide) (by decide)).mpr sq) (Int64.not_lt.mpr c9)) (fun _ => ?_)
              refine lv_iconst (v := nI 1) hx hb d_Mo_set_114 (by decide) ?_
              refine lv_goto (tgt := 119) hx hb d_Mo_set_115 (by decide) ?_
              refine hw_icmp_ne (tgt := 126) hx hb d_Mo_set_119 (by decide) (by omega) (by omega) (fun _ => ?_) (fun c9 => absurd c9 (by decide))
              refine lv_iconst (v := -1) hx hb d_Mo_set_126 (by decide) ?_
              have hs0 : (decide (pa < 0) != decide (qa < 0)) = true := by simp [sp, sq, Int.not_lt.mpr sp]
              refine hw_cV (As := [.int (nI r), .int (-1)]) (rest := []) S hI m_Mo_finish w_802 (c_Mo_finish l D t0 L _ _ mm mc ml mg mw mr (nI 0) y121 sn wt rr σ r (-1) (decide (pa < 0) != decide (qa < 0)) hn hR hr9 (by rw [k34]; omega) (fun _ => by rw [hs0]; rfl)) hm.1 rfl hl.1 rfl rfl (Nat.le_of_ble_eq_true rfl) d_Mo_set_127 ⟨Nat.le_of_ble_eq_true rfl, Nat.le_of_ble_eq_true rfl⟩ ⟨Nat.le_of_ble_eq_true rfl, Nat.le_of_ble_eq_true rfl⟩ (fun v9 L9 f122 H locs hp hI => ?_)
              refine W.cs (cells' := 0) (slots' := 0) rfl rfl ?_
              obtain ⟨hv9, rfl, ⟨y9, sn9, hn, hR⟩, hF9⟩ := hp
              cases hv9
              refine hw_stk (st' := [.int (if fitR (lows (y121 32) (y121 34) (decide (pa < 0) != decide (qa < 0))) = true then nI 1 else nI 0)]) rfl ?_
              have hF := hF.trans hF9
              rw [k32, k34] at hR
              have hfit : fitR (lows pa.natAbs qa.natAbs (decide (pa < 0) != decide (qa < 0))) = true := lows_fit (by omega) (by omega)
              rw [if_pos hfit] at hR
              have e9 : opSet σ (nI r) pa qa = (0, va_up σ r (lows pa.natAbs qa.natAbs (decide (pa < 0) != decide (qa < 0)))) := by unfold opSet; rw [if_pos hv, if_neg hz, putR_eq, ix_nI (by omega), if_pos hfit]
              refine lv_istore (lv' := [(8, .int (if fitR (lows (y121 32) (y121 34) (decide (pa < 0) != decide (qa < 0))) = true then nI 1 else nI 0)), (6, .long (zL (-9223372036854775807))), (0, .ref (mm)), (1, .int (nI r)), (2, .long (zL pa)), (4, .long (zL qa))]) hx hb d_Mo_set_130 hl (by decide) rfl (fun ls hl => ?_)
              exact hw_vret hx hb hr hlocks hI d_Mo_set_132 ⟨rfl, rfl, by rw [e9]; exact ⟨_, _, _, hn, hR⟩, hF⟩
            · refine lv_aload_n hx hb d_Mo_set_55 rfl (lv_at hl 1 rfl) ?_
              refine lv_bipush (v := nI 32) hx hb d_Mo_set_56 (by decide) ?_
              refine lv_lload_n hx hb d_Mo_set_58 rfl (lv_at hl 3 rfl) ?_
              refine lv_lconst (v := lN 0) hx hb d_Mo_set_59 rfl ?_
              refine hw_l_ge (tgt := 69) hx hb d_Mo_set_60 d_Mo_set_61 (by decide) (fun _ => ?_) (fun c9 => absurd ((zL_le (a := 0) (by decide) (by decide) hp1 hp2).mpr sp) (Int64.not_le.mpr c9))
              refine lv_lload_n hx hb d_Mo_set_69 rfl (lv_at hl 3 rfl) ?_
              refine hw_tl (show _ = lN pa.natAbs from zL_abs_pos sp) ?_
              refine hw_cV (As := [.int (nI 32), .long (lN pa.natAbs)]) (rest := []) S hI m_Mo_setLong w_766 (c_Mo_setLong l D t0 L _ _ mm mc ml mg mw mr (nI 0) y sn wt rr 32 pa.natAbs hn (by decide) (by omega)) hm.1 rfl hl.1 rfl rfl (Nat.le_of_ble_eq_true rfl) d_Mo_set_70 ⟨Nat.le_of_ble_eq_true rfl, Nat.le_of_ble_eq_true rfl⟩ ⟨Nat.le_of_ble_eq_true rfl, Nat.le_of_ble_eq_true rfl⟩ (fun v9 L9 f123 H locs hp hI => ?_)
              refine W.cs (cells' := 0) (slots' := 0) rfl rfl ?_
              obtain ⟨hv9, rfl, hn, hF9⟩ := hp
              cases hv9
              refine hw_stk (st' := []) rfl ?_
              have hF := hF.trans hF9
              obtain ⟨y124, ey⟩ : ∃ z9, z9 = va_up y 32 pa.natAbs := ⟨_, rfl⟩
              rw [← ey] at hn
              have q32 : y124 32 = pa.natAbs := by rw [ey]; rw [hw_up_eq]
              have k32 := q32
              have hR : RM σ y124 sn := by rw [ey]; exact hR.up (by decide)
              obtain ⟨cs, ns, hm, hc⟩ := id hn
              refine lv_aload_n hx hb d_Mo_set_73 rfl (lv_at hl 1 rfl) ?_
              refine lv_bipush (v := nI 34) hx hb d_Mo_set_74 (by decide) ?_
              refine lv_lload hx hb d_Mo_set_76 (lv_at hl 4 rfl) ?_
              refine lv_lconst (v := lN 0) hx hb d_Mo_set_78 rfl ?_
              refine hw_l_ge (tgt := 89) hx hb d_Mo_set_79 d_Mo_set_80 (by decide) (fun _ => ?_) (fun c9 => absurd ((zL_le (a := 0) (by decide) (by decide) hq1 hq2).mpr sq) (Int64.not_le.mpr c9))
              refine lv_lload hx hb d_Mo_set_89 (lv_at hl 4 rfl) ?_
              refine hw_tl (show _ = lN qa.natAbs from zL_abs_pos sq) ?_
              refine hw_cV (As := [.int (nI 34), .long (lN qa.natAbs)]) (rest := []) S hI m_Mo_setLong w_766 (c_Mo_setLong l D t0 L _ _ mm mc ml mg mw mr (nI 0) y124 sn wt rr 34 qa.natAbs hn (by decide) (by omega)) hm.1 rfl hl.1 rfl rfl (Nat.le_of_ble_eq_true rfl) d_Mo_set_91 ⟨Nat.le_of_ble_eq_true rfl, Nat.le_of_ble_eq_true rfl⟩ ⟨Nat.le_of_ble_eq_true rfl, Nat.le_of_ble_eq_true rfl⟩ (fun v9 L9 f125 H locs hp hI => ?_)
              refine W.cs (cells' := 0) (slots' := 0) rfl rfl ?_
              obtain ⟨hv9, rfl, hn, hF9⟩ := hp
              cases hv9
              refine hw_stk (st' := []) rfl ?_
              have hF := hF.trans hF9
              obtain ⟨y126, ey⟩ : ∃ z9, z9 = va_up y124 34 qa.natAbs := ⟨_, rfl⟩
              rw [← ey] at hn
              have q34 : y126 34 = qa.natAbs := by rw [ey]; rw [hw_up_eq]
              have q32 : y126 32 = pa.natAbs := by rw [ey, hw_up_ne (by decide)]; exact k32
              have k34 := q34
              have k32 := q32
              have hR : RM σ y126 sn := by rw [ey]; exact hR.up (by decide)
              obtain ⟨cs, ns, hm, hc⟩ := id hn
              refine lv_aload_n hx hb d_Mo_set_94 rfl (lv_at hl 1 rfl) ?_
              refine lv_iload_n hx hb d_Mo_set_95 rfl (lv_at hl 2 rfl) ?_
              refine lv_lload_n hx hb d_Mo_set_96 rfl (lv_at hl 3 rfl) ?_
              refine lv_lconst (v := lN 0) hx hb d_Mo_set_97 rfl ?_
              refine hw_l_ge (tgt := 106) hx hb d_Mo_set_98 d_Mo_set_99 (by decide) (fun _ => ?_) (fun c9 => absurd ((zL_le (a := 0) (by decide) (by decide) hp1 hp2).mpr sp) (Int64.not_le.mpr c9))
              refine lv_iconst (v := nI 0) hx hb d_Mo_set_106 (by decide) ?_
              refine lv_lload hx hb d_Mo_set_107 (lv_at hl 4 rfl) ?_
              refine lv_lconst (v := lN 0) hx hb d_Mo_set_109 rfl ?_
              refine hw_l_ge (tgt := 118) hx hb d_Mo_set_110 d_Mo_set_111 (by decide) (fun _ => ?_) (fun c9 => absurd ((zL_le (a := 0) (by decide) (by decide) hq1 hq2).mpr sq) (Int64.not_le.mpr c9))
              refine lv_iconst (v := nI 0) hx hb d_Mo_set_118 (by decide) ?_
              refine hw_icmp_ne (tgt := 126) hx hb d_Mo_set_119 (by decide) (by omega) (by omega) (fun c9 => absurd c9 (by decide)) (fun _ => ?_)
              refine lv_iconst (v := nI 1) hx hb d_Mo_set_122 (by decide) ?_
              refine lv_goto (tgt := 127) hx hb d_Mo_set_123 (by decide) ?_
              have hs0 : (decide (pa < 0) != decide (qa < 0)) = false := by simp [sp, sq, Int.not_lt.mpr sp, Int.not_lt.mpr sq]
              refine hw_cV (As := [.int (nI r), .int (nI 1)]) (rest := []) S hI m_Mo_finish w_802 (c_Mo_finish l D t0 L _ _ mm mc ml mg mw mr (nI 0) y126 sn wt rr σ r (nI 1) (decide (pa < 0) != decide (qa < 0)) hn hR hr9 (by rw [k34]; omega) (fun _ => by rw [hs0]; rfl)) hm.1 rfl hl.1 rfl rfl (Nat.le_of_ble_eq_true rfl) d_Mo_set_127 ⟨Nat.le_of_ble_eq_true rfl, Nat.le_of_ble_eq_true rfl⟩ ⟨Nat.le_of_ble_eq_true rfl, Nat.le_of_ble_eq_true rfl⟩ (fun v9 L9 f127 H locs hp hI => ?_)
              refine W.cs (cells' := 0) (slots' := 0) rfl rfl ?_
              obtain ⟨hv9, rfl, ⟨y9, sn9, hn, hR⟩, hF9⟩ := hp
              cases hv9
              refine hw_stk (st' := [.int (if fitR (lows (y126 32) (y126 34) (decide (pa < 0) != decide (qa < 0))) = true then nI 1 else nI 0)]) rfl ?_
              have hF := hF.trans hF9
              rw [k32, k34] at hR
              have hfit : fitR (lows pa.natAbs qa.natAbs (decide (pa < 0) != decide (qa < 0))) = true := lows_fit (by omega) (by omega)
              rw [if_pos hfit] at hR
              have e9 : opSet σ (nI r) pa qa = (0, va_up σ r (lows pa.natAbs qa.natAbs (decide (pa < 0) != decide (qa < 0)))) := by unfold opSet; rw [if_pos hv, if_neg hz, putR_eq, ix_nI (by omega), if_pos hfit]
              refine lv_istore (lv' := [(8, .int (if fitR (lows (y126 32) (y126 34) (decide (pa < 0) != decide (qa < 0))) = true then nI 1 else nI 0)), (6, .long (zL (-9223372036854775807))), (0, .ref (mm)), (1, .int (nI r)), (2, .long (zL pa)), (4, .long (zL qa))]) hx hb d_Mo_set_130 hl (by decide) rfl (fun ls hl => ?_)
              exact hw_vret hx hb hr hlocks hI d_Mo_set_132 ⟨rfl, rfl, by rw [e9]; exact ⟨_, _, _, hn, hR⟩, hF⟩
      · refine hw_l_ge (tgt := 32) hx hb d_Mo_set_24 d_Mo_set_25 (by decide) (fun c9 => absurd ((zL_lt hq1 hq2 (by decide) (by decide)).mpr (by omega)) (Int64.not_lt.mpr c9)) (fun _ => ?_)
        have e9 : opSet σ r0 pa qa = (1, σ) := by unfold opSet; rw [if_neg (by simp [hq])]
        refine lv_iconst (v := nI 1) hx hb d_Mo_set_28 (by decide) ?_
        refine lv_goto (tgt := 44) hx hb d_Mo_set_29 (by decide) ?_
        refine ob_put S hI hm.1 (fs' := [.int (nI 1), .ref (mc), .ref (ml), .ref (mg), .ref (mw), .ref (mr)]) (C := R_Mo) (T := F_Mo) (N := 6) (ref := "WallFractionsModel") rfl i_Mo t_Mo t_Mo_ok n_Mo 0 (by decide) rfl w_771 rfl rfl rfl (by simp only [List.length]; decide) rfl d_Mo_set_44 (fun f105 H locs hI hO9 hf105 => ?_)
        have hm := hm.umm hf105 hO9
        have hF := hF.umm hf105
        have hn := (⟨_, _, hm, hc⟩ : Mn D L _ mm mc ml mg mw mr _ _ _ _ _)
        refine lv_aload_n hx hb d_Mo_set_47 rfl (lv_at hl 1 rfl) ?_
        refine ob_get S hI hm.1 (C := R_Mo) (T := F_Mo) (N := 6) (ref := "WallFractionsModel") rfl i_Mo 0 (by decide) rfl w_771 rfl d_Mo_set_48 ?_
        refine hw_if_le (tgt := 55) hx hb d_Mo_set_51 (by decide) (by decide) (fun c9 => absurd c9 (by decide)) (fun _ => ?_)
        exact hw_vret hx hb hr hlocks hI d_Mo_set_54 ⟨rfl, rfl, by rw [e9]; exact ⟨_, _, _, hn, hR⟩, hF⟩
    · refine hw_l_lt (tgt := 28) hx hb d_Mo_set_16 d_Mo_set_17 (by decide) (fun _ => ?_) (fun c9 => absurd ((zL_lt hp1 hp2 (by decide) (by decide)).mpr (by omega)) (Int64.not_lt.mpr c9))
      have e9 : opSet σ r0 pa qa = (1, σ) := by unfold opSet; rw [if_neg (by simp [hp])]
      refine lv_iconst (v := nI 1) hx hb d_Mo_set_28 (by decide) ?_
      refine lv_goto (tgt := 44) hx hb d_Mo_set_29 (by decide) ?_
      refine ob_put S hI hm.1 (fs' := [.int (nI 1), .ref (mc), .ref (ml), .ref (mg), .ref (mw), .ref (mr)]) (C := R_Mo) (T := F_Mo) (N := 6) (ref := "WallFractionsModel") rfl i_Mo t_Mo t_Mo_ok n_Mo 0 (by decide) rfl w_771 rfl rfl rfl (by simp only [List.length]; decide) rfl d_Mo_set_44 (fun f104 H locs hI hO9 hf104 => ?_)
      have hm := hm.umm hf104 hO9
      have hF := hF.umm hf104
      have hn := (⟨_, _, hm, hc⟩ : Mn D L _ mm mc ml mg mw mr _ _ _ _ _)
      refine lv_aload_n hx hb d_Mo_set_47 rfl (lv_at hl 1 rfl) ?_
      refine ob_get S hI hm.1 (C := R_Mo) (T := F_Mo) (N := 6) (ref := "WallFractionsModel") rfl i_Mo 0 (by decide) rfl w_771 rfl d_Mo_set_48 ?_
      refine hw_if_le (tgt := 55) hx hb d_Mo_set_51 (by decide) (by decide) (fun c9 => absurd c9 (by decide)) (fun _ => ?_)
      exact hw_vret hx hb hr hlocks hI d_Mo_set_54 ⟨rfl, rfl, by rw [e9]; exact ⟨_, _, _, hn, hR⟩, hF⟩
  · refine hw_cS (As := [.int (r0)]) (rest := [.ref (mm)]) S hI m_Mo_isRegister w_799 (c_Mo_isRegister l D t0 L _ _ r0) hl.1 rfl rfl (Nat.le_of_ble_eq_true rfl) d_Mo_set_7 ⟨Nat.le_of_ble_eq_true rfl, Nat.le_of_ble_eq_true rfl⟩ ⟨Nat.le_of_ble_eq_true rfl, Nat.le_of_ble_eq_true rfl⟩ (fun v9 L9 f101 H locs hp hI => ?_)
    refine W.cs (cells' := 0) (slots' := 0) rfl rfl ?_
    obtain ⟨hv9, rfl, rfl⟩ := hp
    cases hv9
    refine hw_stk (st' := [.int (if vr r0 = true then nI 1 else nI 0), .ref (mm)]) rfl ?_
    refine hw_ti (show _ = nI 0 from by rw [if_neg hr0]) ?_
    refine hw_if_eq (tgt := 28) hx hb d_Mo_set_10 (by decide) (by decide) (fun _ => ?_) (fun c9 => absurd c9 (by decide))
    have e9 : opSet σ r0 pa qa = (1, σ) := by unfold opSet; rw [if_neg (by simp [hr0])]
    refine lv_iconst (v := nI 1) hx hb d_Mo_set_28 (by decide) ?_
    refine lv_goto (tgt := 44) hx hb d_Mo_set_29 (by decide) ?_
    refine ob_put S hI hm.1 (fs' := [.int (nI 1), .ref (mc), .ref (ml), .ref (mg), .ref (mw), .ref (mr)]) (C := R_Mo) (T := F_Mo) (N := 6) (ref := "WallFractionsModel") rfl i_Mo t_Mo t_Mo_ok n_Mo 0 (by decide) rfl w_771 rfl rfl rfl (by simp only [List.length]; decide) rfl d_Mo_set_44 (fun f102 H locs hI hO9 hf102 => ?_)
    have hm := hm.umm hf102 hO9
    have hF := hF.umm hf102
    have hn := (⟨_, _, hm, hc⟩ : Mn D L _ mm mc ml mg mw mr _ _ _ _ _)
    refine lv_aload_n hx hb d_Mo_set_47 rfl (lv_at hl 1 rfl) ?_
    refine ob_get S hI hm.1 (C := R_Mo) (T := F_Mo) (N := 6) (ref := "WallFractionsModel") rfl i_Mo 0 (by decide) rfl w_771 rfl d_Mo_set_48 ?_
    refine hw_if_le (tgt := 55) hx hb d_Mo_set_51 (by decide) (by decide) (fun c9 => absurd c9 (by decide)) (fun _ => ?_)
    exact hw_vret hx hb hr hlocks hI d_Mo_set_54 ⟨rfl, rfl, by rw [e9]; exact ⟨_, _, _, hn, hR⟩, hF⟩
set_option maxHeartbeats 4000000 in
set_option maxRecDepth 100000 in
theorem c_Mo_more (l : Launch) (D : va_G) (t0 : Nat) (L : List Nat) (f : Nat → va_E) (sz : Nat) (mm mc ml mg mw mr : Nat) (th : Int32) (σ : Sg) (wt : Nat → Nat) (r0 d0 : Int32) (hM : Mg D L f mm mc ml mg mw mr th σ wt) (hok : Ok σ wt) : Met l y_Mo_more (Cond.code y_Mo_more b_Mo_more 3 none :: TT) ({ frames := 5, cells := 0, slots := 0, locals := 131 } : Room) (hw_Pc t0 [.ref (mm), .int (r0), .int (d0)] D L f sz) (hw_Q D L sz (fun oc L' f' => oc = .returned none ∧ L = L' ∧ Mg D L f' mm mc ml mg mw mr (nI (opMore σ r0 d0).1) (opMore σ r0 d0).2 wt ∧ Fo mm mc ml mg mw mr f f')) 0 0 (hw_A L sz) := by
  refine Met.ofW (cc := b_Mo_more) (maxL := 3) (ret := none) (by decide) rfl ?_
  intro p e s m args below meth c s₁ B hml hv
  obtain ⟨rfl, rfl, hI⟩ := hw_start hv
  clear hv
  have hx := B.exec
  have hb := B.bytes
  have hr := B.returns
  have hlocks := B.notSynchronized
  have hown : s.vm.findClass "WallFractionsModel" = some m.cls := findClass_of_methodNamed B.named
  have hT : ∀ w ∈ TT, w.before ([.ref (mm), .int (r0), .int (d0)]).toArray s = true := fun w h => atoms_spec (ws := (Cond.code y_Mo_more b_Mo_more 3 none :: TT)) B.pre w (List.mem_cons_of_mem _ h)
  have S : CallFix p m c b_Mo_more 3 s ([.ref (mm), .int (r0), .int (d0)]).toArray TT "WallFractionsModel" := ⟨hx, hb, hml, hown, hT⟩
  have hl := lv_entry ([.ref (mm), .int (r0), .int (d0)]) (n := 3) (Nat.le_of_ble_eq_true rfl)
  rw [lg_entry_eq]
  generalize (lg_sl ([.ref (mm), .int (r0), .int (d0)]) ++ List.replicate (3 - (lg_sl ([.ref (mm), .int (r0), .int (d0)])).length) Slot.unset).toArray = ls at hl ⊢
  have hl : lv_has ls 3 [(0, .ref (mm)), (1, .int (r0)), (2, .int (d0))] := hl
  skip
  obtain ⟨y, sn, rr, hn, hR⟩ := hM
  have hF : Fo mm mc ml mg mw mr f f := Fo.refl
  obtain ⟨cs, ns, hm, hc⟩ := id hn
  refine lv_aload_n hx hb d_Mo_more_0 rfl (lv_at hl 0 rfl) ?_
  refine lv_iload_n hx hb d_Mo_more_1 rfl (lv_at hl 1 rfl) ?_
  by_cases hr0 : vr r0 = true
  · refine hw_cS (As := [.int (r0)]) (rest := [.ref (mm)]) S hI m_Mo_isRegister w_799 (c_Mo_isRegister l D t0 L _ _ r0) hl.1 rfl rfl (Nat.le_of_ble_eq_true rfl) d_Mo_more_2 ⟨Nat.le_of_ble_eq_true rfl, Nat.le_of_ble_eq_true rfl⟩ ⟨Nat.le_of_ble_eq_true rfl, Nat.le_of_ble_eq_true rfl⟩ (fun v9 L9 f130 H locs hp hI => ?_)
    refine W.cs (cells' := 0) (slots' := 0) rfl rfl ?_
    obtain ⟨hv9, rfl, rfl⟩ := hp
    cases hv9
    refine hw_stk (st' := [.int (if vr r0 = true then nI 1 else nI 0), .ref (mm)]) rfl ?_
    refine hw_ti (show _ = nI 1 from by rw [if_pos hr0]) ?_
    refine hw_if_eq (tgt := 20) hx hb d_Mo_more_5 (by decide) (by decide) (fun c9 => absurd c9 (by decide)) (fun _ => ?_)
    refine lv_iload_n hx hb d_Mo_more_8 rfl (lv_at hl 2 rfl) ?_
    refine lv_i2l hx hb d_Mo_more_9 rfl ?_
    refine lv_lconst (v := lN 0) hx hb d_Mo_more_10 rfl ?_
    refine hw_ldc2 (v := lN 999999999) hx hb hown (hT _ w_842) d_Mo_more_11 ?_
    by_cases hd : inR d0 0 999999999 = true
    · refine hw_cS (As := [.long ((d0).toInt64), .long (lN 0), .long (lN 999999999)]) (rest := [.ref (mm)]) S hI m_Mo_in w_843 (c_Mo_in l D t0 L _ _ d0 0 999999999 (by omega) (by omega)) hl.1 rfl rfl (Nat.le_of_ble_eq_true rfl) d_Mo_more_14 ⟨Nat.le_of_ble_eq_true rfl, Nat.le_of_ble_eq_true rfl⟩ ⟨Nat.le_of_ble_eq_true rfl, Nat.le_of_ble_eq_true rfl⟩ (fun v9 L9 f133 H locs hp hI => ?_)
      refine W.cs (cells' := 0) (slots' := 0) rfl rfl ?_
      obtain ⟨hv9, rfl, rfl⟩ := hp
      cases hv9
      refine hw_stk (st' := [.int (if inR d0 0 999999999 = true then nI 1 else nI 0), .ref (mm)]) rfl ?_
      refine hw_ti (show _ = nI 1 from by rw [if_pos hd]) ?_
      refine hw_if_ne (tgt := 24) hx hb d_Mo_more_17 (by decide) (by decide) (fun _ => ?_) (fun c9 => absurd c9 (by decide))
      have hv : (vr r0 && inR d0 0 999999999) = true := by simp [hr0, hd]
      obtain ⟨r, hr9, rfl⟩ := vr_nat hr0
      obtain ⟨d, _, hd9, rfl⟩ := inR_nat hd (by decide) (by decide)
      have okr := hok.1 r hr9
      have ltr := okr.lt4
      refine lv_aload_n hx hb d_Mo_more_24 rfl (lv_at hl 0 rfl) ?_
      refine lv_iload_n hx hb d_Mo_more_25 rfl (lv_at hl 1 rfl) ?_
      refine hw_cV (As := [.int (nI r)]) (rest := [.ref (mm)]) S hI m_Mo_isWhole w_846 (c_Mo_isWhole l D t0 L _ _ mm mc ml mg mw mr th y sn wt rr r hn hr9) hm.1 rfl hl.1 rfl rfl (Nat.le_of_ble_eq_true rfl) d_Mo_more_26 ⟨Nat.le_of_ble_eq_true rfl, Nat.le_of_ble_eq_true rfl⟩ ⟨Nat.le_of_ble_eq_true rfl, Nat.le_of_ble_eq_true rfl⟩ (fun v9 L9 f134 H locs hp hI => ?_)
      refine W.cs (cells' := 0) (slots' := 0) rfl rfl ?_
      obtain ⟨hv9, rfl, rfl⟩ := hp
      cases hv9
      refine hw_stk (st' := [.int (if y (16 + r) = 1 then nI 1 else nI 0), .ref (mm)]) rfl ?_
      by_cases hw : (σ r).2.1 = 1
      · refine hw_ti (show _ = nI 1 from by rw [(hR r hr9).2.1, if_pos hw]) ?_
        refine hw_if_ne (tgt := 36) hx hb d_Mo_more_29 (by decide) (by decide) (fun _ => ?_) (fun c9 => absurd c9 (by decide))
        refine lv_iconst (v := nI 0) hx hb d_Mo_more_36 (by decide) ?_
        refine ob_put S hI hm.1 (fs' := [.int (nI 0), .ref (mc), .ref (ml), .ref (mg), .ref (mw), .ref (mr)]) (C := R_Mo) (T := F_Mo) (N := 6) (ref := "WallFractionsModel") rfl i_Mo t_Mo t_Mo_ok n_Mo 0 (by decide) rfl w_771 rfl rfl rfl (by simp only [List.length]; decide) rfl d_Mo_more_37 (fun f136 H locs hI hO9 hf136 => ?_)
        have hm := hm.umm hf136 hO9
        have hF := hF.umm hf136
        have hn := (⟨_, _, hm, hc⟩ : Mn D L _ mm mc ml mg mw mr _ _ _ _ _)
        refine lv_aload_n hx hb d_Mo_more_40 rfl (lv_at hl 0 rfl) ?_
        refine ob_get S hI hm.1 (C := R_Mo) (T := F_Mo) (N := 6) (ref := "WallFractionsModel") rfl i_Mo 0 (by decide) rfl w_771 rfl d_Mo_more_41 ?_
        refine hw_if_le (tgt := 48) hx hb d_Mo_more_44 (by decide) (by decide) (fun _ => ?_) (fun c9 => absurd c9 (by decide))
        refine lv_aload_n hx hb d_Mo_more_48 rfl (lv_at hl 0 rfl) ?_
        refine lv_bipush (v := nI 32) hx hb d_Mo_more_49 (by decide) ?_
        refine lv_iload_n hx hb d_Mo_more_51 rfl (lv_at hl 1 rfl) ?_
        refine hw_cV (As := [.int (nI 32), .int (nI r)]) (rest := []) S hI m_Mo_copy w_810 (c_Mo_copy l D t0 L _ _ mm mc ml mg mw mr (nI 0) y sn wt rr 32 r hn (by decide) (by omega)) hm.1 rfl hl.1 rfl rfl (Nat.le_of_ble_eq_true rfl) d_Mo_more_52 ⟨Nat.le_of_ble_eq_true rfl, Nat.le_of_ble_eq_true rfl⟩ ⟨Nat.le_of_ble_eq_true rfl, Nat.le_of_ble_eq_true rfl⟩ (fun v9 L9 f137 H locs hp hI => ?_)
        refine W.cs (cells' := 0) (slots' := 0) rfl rfl ?_
        obtain ⟨hv9, rfl, hn, hF9⟩ := hp
        cases hv9
        refine hw_stk (st' := []) rfl ?_
        have hF := hF.trans hF9
        obtain ⟨y138, ey⟩ : ∃ z9, z9 = va_up y 32 (y r) := ⟨_, rfl⟩
        rw [← ey] at hn
        have q32 : y138 32 = (σ r).1 := by rw [ey]; rw [hw_up_eq]; exact (hR r hr9).1
        have k32 := q32
        have hR : RM σ y138 sn := by rw [ey]; exact hR.up (by decide)
        obtain ⟨cs, ns, hm, hc⟩ := id hn
        refine lv_aload_n hx hb d_Mo_more_55 rfl (lv_at hl 0 rfl) ?_
        refine lv_bipush (v := nI 32) hx hb d_Mo_more_56 (by decide) ?_
        refine hw_ldc2 (v := lN 1000000000) hx hb hown (hT _ w_850) d_Mo_more_58 ?_
        refine lv_iload_n hx hb d_Mo_more_61 rfl (lv_at hl 2 rfl) ?_
        refine lv_i2l (v := lN d) hx hb d_Mo_more_62 (nI_l (by omega)) ?_
        refine hw_cV (As := [.int (nI 32), .long (lN 1000000000), .long (lN d)]) (rest := []) S hI m_Mo_times w_851 (c_Mo_times l D t0 L _ _ mm mc ml mg mw mr (nI 0) y138 sn wt rr 32 1000000000 d hn (by decide) (by rw [k32]; exact p4 125 ltr.1 (by decide)) (by decide) (by omega)) hm.1 rfl hl.1 rfl rfl (Nat.le_of_ble_eq_true rfl) d_Mo_more_63 ⟨Nat.le_of_ble_eq_true rfl, Nat.le_of_ble_eq_true rfl⟩ ⟨Nat.le_of_ble_eq_true rfl, Nat.le_of_ble_eq_true rfl⟩ (fun v9 L9 f139 H locs hp hI => ?_)
        refine W.cs (cells' := 0) (slots' := 0) rfl rfl ?_
        obtain ⟨hv9, rfl, hn, hF9⟩ := hp
        cases hv9
        refine hw_stk (st' := []) rfl ?_
        have hF := hF.trans hF9
        obtain ⟨y140, ey⟩ : ∃ z9, z9 = va_up y138 32 (y138 32 * 1000000000 + d) := ⟨_, rfl⟩
        rw [← ey] at hn
        have q32 : y140 32 = (σ r).1 * nB + d := by rw [ey]; rw [hw_up_eq, k32]; rfl
        have k32 := q32
        have hR : RM σ y140 sn := by rw [ey]; exact hR.up (by decide)
        obtain ⟨cs, ns, hm, hc⟩ := id hn
        refine lv_aload_n hx hb d_Mo_more_66 rfl (lv_at hl 0 rfl) ?_
        refine lv_bipush (v := nI 34) hx hb d_Mo_more_67 (by decide) ?_
        refine lv_lconst (v := lN 1) hx hb d_Mo_more_69 rfl ?_
        refine hw_cV (As := [.int (nI 34), .long (lN 1)]) (rest := []) S hI m_Mo_setLong w_766 (c_Mo_setLong l D t0 L _ _ mm mc ml mg mw mr (nI 0) y140 sn wt rr 34 1 hn (by decide) (by decide)) hm.1 rfl hl.1 rfl rfl (Nat.le_of_ble_eq_true rfl) d_Mo_more_70 ⟨Nat.le_of_ble_eq_true rfl, Nat.le_of_ble_eq_true rfl⟩ ⟨Nat.le_of_ble_eq_true rfl, Nat.le_of_ble_eq_true rfl⟩ (fun v9 L9 f141 H locs hp hI => ?_)
        refine W.cs (cells' := 0) (slots' := 0) rfl rfl ?_
        obtain ⟨hv9, rfl, hn, hF9⟩ := hp
        cases hv9
        refine hw_stk (st' := []) rfl ?_
        have hF := hF.trans hF9
        obtain ⟨y142, ey⟩ : ∃ z9, z9 = va_up y140 34 1 := ⟨_, rfl⟩
        rw [← ey] at hn
        have q34 : y142 34 = 1 := by rw [ey]; rw [hw_up_eq]
        have q32 : y142 32 = (σ r).1 * nB + d := by rw [ey, hw_up_ne (by decide)]; exact k32
        have k34 := q34
        have k32 := q32
        have hR : RM σ y142 sn := by rw [ey]; exact hR.up (by decide)
        obtain ⟨cs, ns, hm, hc⟩ := id hn
        have h34 : 0 < 1 := by decide
        refine lv_aload_n hx hb d_Mo_more_73 rfl (lv_at hl 0 rfl) ?_
        refine lv_aload_n hx hb d_Mo_more_74 rfl (lv_at hl 0 rfl) ?_
        refine lv_iload_n hx hb d_Mo_more_75 rfl (lv_at hl 1 rfl) ?_
        refine lv_aload_n hx hb d_Mo_more_76 rfl (lv_at hl 0 rfl) ?_
        refine ob_get S hI hm.1 (C := R_Mo) (T := F_Mo) (N := 6) (ref := "WallFractionsModel") rfl i_Mo 3 (by decide) rfl w_774 rfl d_Mo_more_77 ?_
        refine lv_iload_n hx hb d_Mo_more_80 rfl (lv_at hl 1 rfl) ?_
        refine ia_ldR S hI hm.2.2.2.1 (by decide) (by omega) d_Mo_more_81 ?_
        refine hw_ti (show _ = sgI (σ r) from (hR r hr9).2.2) ?_
        have hng := sgI_neg okr.2.2.2.2
        refine lv_if_ge (tgt := 89) hx hb d_Mo_more_82 (by decide) (fun c143 => ?_) (fun c143 => ?_)
        · have hs9 : (σ r).2.2 = false := by cases e9 : (σ r).2.2; rfl; exact absurd (hng.mpr e9) (Int32.not_lt.mpr c143)
          refine lv_iconst (v := nI 1) hx hb d_Mo_more_89 (by decide) ?_
          refine hw_cV (As := [.int (nI r), .int (nI 1)]) (rest := [.ref (mm)]) S hI m_Mo_finish w_802 (c_Mo_finish l D t0 L _ _ mm mc ml mg mw mr (nI 0) y142 sn wt rr σ r (nI 1) ((σ r).2.2) hn hR hr9 (by rw [k34]; exact h34) (by rw [k32]; exact (fun _ => by rw [hs9]; rfl))) hm.1 rfl hl.1 rfl rfl (Nat.le_of_ble_eq_true rfl) d_Mo_more_90 ⟨Nat.le_of_ble_eq_true rfl, Nat.le_of_ble_eq_true rfl⟩ ⟨Nat.le_of_ble_eq_true rfl, Nat.le_of_ble_eq_true rfl⟩ (fun v9 L9 f144 H locs hp hI => ?_)
          refine W.cs (cells' := 0) (slots' := 0) rfl rfl ?_
          obtain ⟨hv9, rfl, ⟨y9, sn9, hn, hR⟩, hF9⟩ := hp
          cases hv9
          refine hw_stk (st' := [.int (if fitR (lows (y142 32) (y142 34) ((σ r).2.2)) = true then nI 1 else nI 0), .ref (mm)]) rfl ?_
          have hF := hF.trans hF9
          rw [k32, k34] at hR
          obtain ⟨cs, ns, hm, hc⟩ := id hn
          by_cases hfit : fitR (lows ((σ r).1 * nB + d) 1 ((σ r).2.2)) = true
          · refine hw_ti (show _ = nI 1 from by rw [k32, k34, if_pos hfit]) ?_
            rw [if_pos hfit] at hR
            refine hw_if_eq (tgt := 100) hx hb d_Mo_more_93 (by decide) (by decide) (fun c9 => absurd c9 (by decide)) (fun _ => ?_)
            refine lv_iconst (v := nI 0) hx hb d_Mo_more_96 (by decide) ?_
            refine lv_goto (tgt := 101) hx hb d_Mo_more_97 (by decide) ?_
            refine ob_put S hI hm.1 (fs' := [.int (nI 0), .ref (mc), .ref (ml), .ref (mg), .ref (mw), .ref (mr)]) (C := R_Mo) (T := F_Mo) (N := 6) (ref := "WallFractionsModel") rfl i_Mo t_Mo t_Mo_ok n_Mo 0 (by decide) rfl w_771 rfl rfl rfl (by simp only [List.length]; decide) rfl d_Mo_more_101 (fun f145 H locs hI hO9 hf145 => ?_)
            have hm := hm.umm hf145 hO9
            have hF := hF.umm hf145
            have hn := (⟨_, _, hm, hc⟩ : Mn D L _ mm mc ml mg mw mr _ _ _ _ _)
            exact hw_vret hx hb hr hlocks hI d_Mo_more_104 ⟨rfl, rfl, by rw [show opMore σ (nI r) (nI d) = (0, va_up σ r (lows ((σ r).1 * nB + d) 1 (σ r).2.2)) from by unfold opMore; rw [if_pos hv, if_pos (by rw [ix_nI (by omega)]; exact hw), putR_eq, ix_nI (by omega), nI_clamp (by omega), if_pos hfit]]; exact ⟨_, _, _, hn, hR⟩, hF⟩
          · refine hw_ti (show _ = nI 0 from by rw [k32, k34, if_neg hfit]) ?_
            rw [if_neg hfit] at hR
            refine hw_if_eq (tgt := 100) hx hb d_Mo_more_93 (by decide) (by decide) (fun _ => ?_) (fun c9 => absurd c9 (by decide))
            refine lv_iconst (v := nI 2) hx hb d_Mo_more_100 (by decide) ?_
            refine ob_put S hI hm.1 (fs' := [.int (nI 2), .ref (mc), .ref (ml), .ref (mg), .ref (mw), .ref (mr)]) (C := R_Mo) (T := F_Mo) (N := 6) (ref := "WallFractionsModel") rfl i_Mo t_Mo t_Mo_ok n_Mo 0 (by decide) rfl w_771 rfl rfl rfl (by simp only [List.length]; decide) rfl d_Mo_more_101 (fun f146 H locs hI hO9 hf146 => ?_)
            have hm := hm.umm hf146 hO9
            have hF := hF.umm hf146
            have hn := (⟨_, _, hm, hc⟩ : Mn D L _ mm mc ml mg mw mr _ _ _ _ _)
            exact hw_vret hx hb hr hlocks hI d_Mo_more_104 ⟨rfl, rfl, by rw [show opMore σ (nI r) (nI d) = (2, σ) from by unfold opMore; rw [if_pos hv, if_pos (by rw [ix_nI (by omega)]; exact hw), putR_eq, ix_nI (by omega), nI_clamp (by omega), if_neg hfit]]; exact ⟨_, _, _, hn, hR⟩, hF⟩
        · have hs9 : (σ r).2.2 = true := hng.mp (Int32.not_le.mp c143)
          refine lv_iconst (v := -1) hx hb d_Mo_more_85 (by decide) ?_
          refine lv_goto (tgt := 90) hx hb d_Mo_more_86 (by decide) ?_
          refine hw_cV (As := [.int (nI r), .int (-1)]) (rest := [.ref (mm)]) S hI m_Mo_finish w_802 (c_Mo_finish l D t0 L _ _ mm mc ml mg mw mr (nI 0) y142 sn wt rr σ r (-1) ((σ r).2.2) hn hR hr9 (by rw [k34]; exact h34) (by rw [k32]; exact (fun _ => by rw [hs9]; rfl))) hm.1 rfl hl.1 rfl rfl (Nat.le_of_ble_eq_true rfl) d_Mo_more_90 ⟨Nat.le_of_ble_eq_true rfl, Nat.le_of_ble_eq_true rfl⟩ ⟨Nat.le_of_ble_eq_true rfl, Nat.le_of_ble_eq_true rfl⟩ (fun v9 L9 f147 H locs hp hI => ?_)
          refine W.cs (cells' := 0) (slots' := 0) rfl rfl ?_
          obtain ⟨hv9, rfl, ⟨y9, sn9, hn, hR⟩, hF9⟩ := hp
          cases hv9
          refine hw_stk (st' := [.int (if fitR (lows (y142 32) (y142 34) ((σ r).2.2)) = true then nI 1 else nI 0), .ref (mm)]) rfl ?_
          have hF := hF.trans hF9
          rw [k32, k34] at hR
          obtain ⟨cs, ns, hm, hc⟩ := id hn
          by_cases hfit : fitR (lows ((σ r).1 * nB + d) 1 ((σ r).2.2)) = true
          · refine hw_ti (show _ = nI 1 from by rw [k32, k34, if_pos hfit]) ?_
            rw [if_pos hfit] at hR
            refine hw_if_eq (tgt := 100) hx hb d_Mo_more_93 (by decide) (by decide) (fun c9 => absurd c9 (by decide)) (fun _ => ?_)
            refine lv_iconst (v := nI 0) hx hb d_Mo_more_96 (by decide) ?_
            refine lv_goto (tgt := 101) hx hb d_Mo_more_97 (by decide) ?_
            refine ob_put S hI hm.1 (fs' := [.int (nI 0), .ref (mc), .ref (ml), .ref (mg), .ref (mw), .ref (mr)]) (C := R_Mo) (T := F_Mo) (N := 6) (ref := "WallFractionsModel") rfl i_Mo t_Mo t_Mo_ok n_Mo 0 (by decide) rfl w_771 rfl rfl rfl (by simp only [List.length]; decide) rfl d_Mo_more_101 (fun f148 H locs hI hO9 hf148 => ?_)
            have hm := hm.umm hf148 hO9
            have hF := hF.umm hf148
            have hn := (⟨_, _, hm, hc⟩ : Mn D L _ mm mc ml mg mw mr _ _ _ _ _)
            exact hw_vret hx hb hr hlocks hI d_Mo_more_104 ⟨rfl, rfl, by rw [show opMore σ (nI r) (nI d) = (0, va_up σ r (lows ((σ r).1 * nB + d) 1 (σ r).2.2)) from by unfold opMore; rw [if_pos hv, if_pos (by rw [ix_nI (by omega)]; exact hw), putR_eq, ix_nI (by omega), nI_clamp (by omega), if_pos hfit]]; exact ⟨_, _, _, hn, hR⟩, hF⟩
          · refine hw_ti (show _ = nI 0 from by rw [k32, k34, if_neg hfit]) ?_
            rw [if_neg hfit] at hR
            refine hw_if_eq (tgt := 100) hx hb d_Mo_more_93 (by decide) (by decide) (fun _ => ?_) (fun c9 => absurd c9 (by decide))
            refine lv_iconst (v := nI 2) hx hb d_Mo_more_100 (by decide) ?_
            refine ob_put S hI hm.1 (fs' := [.int (nI 2), .ref (mc), .ref (ml), .ref (mg), .ref (mw), .ref (mr)]) (C := R_Mo) (T := F_Mo) (N := 6) (ref := "WallFractionsModel") rfl i_Mo t_Mo t_Mo_ok n_Mo 0 (by decide) rfl w_771 rfl rfl rfl (by simp only [List.length]; decide) rfl d_Mo_more_101 (fun f149 H locs hI hO9 hf149 => ?_)
            have hm := hm.umm hf149 hO9
            have hF := hF.umm hf149
            have hn := (⟨_, _, hm, hc⟩ : Mn D L _ mm mc ml mg mw mr _ _ _ _ _)
            exact hw_vret hx hb hr hlocks hI d_Mo_more_104 ⟨rfl, rfl, by rw [show opMore σ (nI r) (nI d) = (2, σ) from by unfold opMore; rw [if_pos hv, if_pos (by rw [ix_nI (by omega)]; exact hw), putR_eq, ix_nI (by omega), nI_clamp (by omega), if_neg hfit]]; exact ⟨_, _, _, hn, hR⟩, hF⟩
      · refine hw_ti (show _ = nI 0 from by rw [(hR r hr9).2.1, if_neg hw]) ?_
        refine hw_if_ne (tgt := 36) hx hb d_Mo_more_29 (by decide) (by decide) (fun c9 => absurd c9 (by decide)) (fun _ => ?_)
        have e9 : opMore σ (nI r) (nI d) = (2, σ) := by unfold opMore; rw [if_pos hv, if_neg (by rw [ix_nI (by omega)]; exact hw)]
        refine lv_iconst (v := nI 2) hx hb d_Mo_more_32 (by decide) ?_
        refine lv_goto (tgt := 37) hx hb d_Mo_more_33 (by decide) ?_
        refine ob_put S hI hm.1 (fs' := [.int (nI 2), .ref (mc), .ref (ml), .ref (mg), .ref (mw), .ref (mr)]) (C := R_Mo) (T := F_Mo) (N := 6) (ref := "WallFractionsModel") rfl i_Mo t_Mo t_Mo_ok n_Mo 0 (by decide) rfl w_771 rfl rfl rfl (by simp only [List.length]; decide) rfl d_Mo_more_37 (fun f135 H locs hI hO9 hf135 => ?_)
        have hm := hm.umm hf135 hO9
        have hF := hF.umm hf135
        have hn := (⟨_, _, hm, hc⟩ : Mn D L _ mm mc ml mg mw mr _ _ _ _ _)
        refine lv_aload_n hx hb d_Mo_more_40 rfl (lv_at hl 0 rfl) ?_
        refine ob_get S hI hm.1 (C := R_Mo) (T := F_Mo) (N := 6) (ref := "WallFractionsModel") rfl i_Mo 0 (by decide) rfl w_771 rfl d_Mo_more_41 ?_
        refine hw_if_le (tgt := 48) hx hb d_Mo_more_44 (by decide) (by decide) (fun c9 => absurd c9 (by decide)) (fun _ => ?_)
        exact hw_vret hx hb hr hlocks hI d_Mo_more_47 ⟨rfl, rfl, by rw [e9]; exact ⟨_, _, _, hn, hR⟩, hF⟩
    · refine hw_cS (As := [.long ((d0).toInt64), .long (lN 0), .long (lN 999999999)]) (rest := [.ref (mm)]) S hI m_Mo_in w_843 (c_Mo_in l D t0 L _ _ d0 0 999999999 (by omega) (by omega)) hl.1 rfl rfl (Nat.le_of_ble_eq_true rfl) d_Mo_more_14 ⟨Nat.le_of_ble_eq_true rfl, Nat.le_of_ble_eq_true rfl⟩ ⟨Nat.le_of_ble_eq_true rfl, Nat.le_of_ble_eq_true rfl⟩ (fun v9 L9 f131 H locs hp hI => ?_)
      refine W.cs (cells' := 0) (slots' := 0) rfl rfl ?_
      obtain ⟨hv9, rfl, rfl⟩ := hp
      cases hv9
      refine hw_stk (st' := [.int (if inR d0 0 999999999 = true then nI 1 else nI 0), .ref (mm)]) rfl ?_
      refine hw_ti (show _ = nI 0 from by rw [if_neg hd]) ?_
      refine hw_if_ne (tgt := 24) hx hb d_Mo_more_17 (by decide) (by decide) (fun c9 => absurd c9 (by decide)) (fun _ => ?_)
      have e9 : opMore σ r0 d0 = (1, σ) := by unfold opMore; rw [if_neg (by simp [hd])]
      refine lv_iconst (v := nI 1) hx hb d_Mo_more_20 (by decide) ?_
      refine lv_goto (tgt := 37) hx hb d_Mo_more_21 (by decide) ?_
      refine ob_put S hI hm.1 (fs' := [.int (nI 1), .ref (mc), .ref (ml), .ref (mg), .ref (mw), .ref (mr)]) (C := R_Mo) (T := F_Mo) (N := 6) (ref := "WallFractionsModel") rfl i_Mo t_Mo t_Mo_ok n_Mo 0 (by decide) rfl w_771 rfl rfl rfl (by simp only [List.length]; decide) rfl d_Mo_more_37 (fun f132 H locs hI hO9 hf132 => ?_)
      have hm := hm.umm hf132 hO9
      have hF := hF.umm hf132
      have hn := (⟨_, _, hm, hc⟩ : Mn D L _ mm mc ml mg mw mr _ _ _ _ _)
      refine lv_aload_n hx hb d_Mo_more_40 rfl (lv_at hl 0 rfl) ?_
      refine ob_get S hI hm.1 (C := R_Mo) (T := F_Mo) (N := 6) (ref := "WallFractionsModel") rfl i_Mo 0 (by decide) rfl w_771 rfl d_Mo_more_41 ?_
      refine hw_if_le (tgt := 48) hx hb d_Mo_more_44 (by decide) (by decide) (fun c9 => absurd c9 (by decide)) (fun _ => ?_)
      exact hw_vret hx hb hr hlocks hI d_Mo_more_47 ⟨rfl, rfl, by rw [e9]; exact ⟨_, _, _, hn, hR⟩, hF⟩
  · refine hw_cS (As := [.int (r0)]) (rest := [.ref (mm)]) S hI m_Mo_isRegister w_799 (c_Mo_isRegister l D t0 L _ _ r0) hl.1 rfl rfl (Nat.le_of_ble_eq_true rfl) d_Mo_more_2 ⟨Nat.le_of_ble_eq_true rfl, Nat.le_of_ble_eq_true rfl⟩ ⟨Nat.le_of_ble_eq_true rfl, Nat.le_of_ble_eq_true rfl⟩ (fun v9 L9 f128 H locs hp hI => ?_)
    refine W.cs (cells' := 0) (slots' := 0) rfl rfl ?_
    obtain ⟨hv9, rfl, rfl⟩ := hp
    cases hv9
    refine hw_stk (st' := [.int (if vr r0 = true then nI 1 else nI 0), .ref (mm)]) rfl ?_
    refine hw_ti (show _ = nI 0 from by rw [if_neg hr0]) ?_
    refine hw_if_eq (tgt := 20) hx hb d_Mo_more_5 (by decide) (by decide) (fun _ => ?_) (fun c9 => absurd c9 (by decide))
    have e9 : opMore σ r0 d0 = (1, σ) := by unfold opMore; rw [if_neg (by simp [hr0])]
    refine lv_iconst (v := nI 1) hx hb d_Mo_more_20 (by decide) ?_
    refine lv_goto (tgt := 37) hx hb d_Mo_more_21 (by decide) ?_
    refine ob_put S hI hm.1 (fs' := [.int (nI 1), .ref (mc), .ref (ml), .ref (mg), .ref (mw), .ref (mr)]) (C := R_Mo) (T := F_Mo) (N := 6) (ref := "WallFractionsModel") rfl i_Mo t_Mo t_Mo_ok n_Mo 0 (by decide) rfl w_771 rfl rfl rfl (by simp only [List.length]; decide) rfl d_Mo_more_37 (fun f129 H locs hI hO9 hf129 => ?_)
    have hm := hm.umm hf129 hO9
    have hF := hF.umm hf129
    have hn := (⟨_, _, hm, hc⟩ : Mn D L _ mm mc ml mg mw mr _ _ _ _ _)
    refine lv_aload_n hx hb d_Mo_more_40 rfl (lv_at hl 0 rfl) ?_
    refine ob_get S hI hm.1 (C := R_Mo) (T := F_Mo) (N := 6) (ref := "WallFractionsModel") rfl i_Mo 0 (by decide) rfl w_771 rfl d_Mo_more_41 ?_
    refine hw_if_le (tgt := 48) hx hb d_Mo_more_44 (by decide) (by decide) (fun c9 => absurd c9 (by decide)) (fun _ => ?_)
    exact hw_vret hx hb hr hlocks hI d_Mo_more_47 ⟨rfl, rfl, by rw [e9]; exact ⟨_, _, _, hn, hR⟩, hF⟩

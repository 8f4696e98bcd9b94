theorem two125 {n k : Nat} (h : n ≤ 500) : ch n k < 10000 ^ 125 := Nat.lt_of_le_of_lt (ch_le n k) (Nat.lt_of_le_of_lt (Nat.pow_le_pow_right (by decide) h) (by decide +kernel))
theorem ten40 {a d : Nat} (ha : a < 10000 ^ 45) (hd : d ≤ 80) : a * 10 ^ d < 10000 ^ 65 := by
  rw [show (65 : Nat) = 45 + 20 from rfl, Nat.pow_add, show (10000 : Nat) ^ 20 = 10 ^ 80 by decide +kernel]
  exact Nat.lt_of_lt_of_le (Nat.mul_lt_mul_of_pos_right ha (Nat.pow_pos (by decide))) (Nat.mul_le_mul_left _ (Nat.pow_le_pow_right (by decide) hd))
theorem i32_gt {n : Nat} {k : Int32} (hn : n ≤ 500) (h : nI n < k) : nI (n + 1) ≤ k := by
  rw [Int32.lt_iff_toInt_lt, nI_toInt (by omega)] at h
  rw [Int32.le_iff_toInt_le, nI_toInt (by omega)]
  omega
theorem i32_nat {n : Nat} {k : Int32} (hn : n ≤ 500) (h1 : ¬ k < 0) (h2 : ¬ nI n < k) : ∃ j, j ≤ n ∧ k = nI j := by
  have h3 := Int32.le_iff_toInt_le.mp (Int32.not_lt.mp h1)
  have h4 := Int32.le_iff_toInt_le.mp (Int32.not_lt.mp h2)
  rw [nI_toInt (by omega)] at h4
  have h5 : (0 : Int32).toInt = 0 := rfl
  rw [h5] at h3
  refine ⟨k.toInt.toNat, by omega, Int32.toInt_inj.mp ?_⟩
  rw [nI_toInt (by omega)]
  omega
set_option maxHeartbeats 4000000 in
set_option maxRecDepth 100000 in
theorem c_Mo_power (l : Launch) (D : va_G) (t0 : Nat) (L : List Nat) (f : Nat → va_E) (sz : Nat) (mm mc ml mg mw mr : Nat) (th : Int32) (σ : Sg) (wt : Nat → Nat) (r0 a0 n0 : Int32) (hM : Mg D L f mm mc ml mg mw mr th σ wt) (hok : Ok σ wt) : Met l y_Mo_power (Cond.code y_Mo_power b_Mo_power 5 none :: TT) ({ frames := 5, cells := 0, slots := 0, locals := 131 } : Room) (hw_Pc t0 [.ref (mm), .int (r0), .int (a0), .int (n0)] D L f sz) (hw_Q D L sz (fun oc L' f' => oc = .returned none ∧ L = L' ∧ Mg D L f' mm mc ml mg mw mr (nI (opPow σ r0 a0 n0).1) (opPow σ r0 a0 n0).2 wt ∧ Fo mm mc ml mg mw mr f f')) 0 0 (hw_A L sz) := by
  refine Met.ofW (cc := b_Mo_power) (maxL := 5) (ret := none) (by decide) rfl ?_
  intro p e s m args below meth c s₁ B hml hv
  obtain ⟨rfl, rfl, hI⟩ := hw_start hv
  clear hv
  have hx := B.exec
  have hb := B.bytes
  have hr := B.returns
  have hlocks := B.notSynchronized
  have hown : s.vm.findClass "WallFractionsModel" = some m.cls := findClass_of_methodNamed B.named
  have hT : ∀ w ∈ TT, w.before ([.ref (mm), .int (r0), .int (a0), .int (n0)]).toArray s = true := fun w h => atoms_spec (ws := (Cond.code y_Mo_power b_Mo_power 5 none :: TT)) B.pre w (List.mem_cons_of_mem _ h)
  have S : CallFix p m c b_Mo_power 5 s ([.ref (mm), .int (r0), .int (a0), .int (n0)]).toArray TT "WallFractionsModel" := ⟨hx, hb, hml, hown, hT⟩
  have hl := lv_entry ([.ref (mm), .int (r0), .int (a0), .int (n0)]) (n := 5) (Nat.le_of_ble_eq_true rfl)
  rw [lg_entry_eq]
  generalize (lg_sl ([.ref (mm), .int (r0), .int (a0), .int (n0)]) ++ List.replicate (5 - (lg_sl ([.ref (mm), .int (r0), .int (a0), .int (n0)])).length) Slot.unset).toArray = ls at hl ⊢
  have hl : lv_has ls 5 [(0, .ref (mm)), (1, .int (r0)), (2, .int (a0)), (3, .int (n0))] := hl
  skip
  obtain ⟨y, sn, rr, hn, hR⟩ := hM
  have hF : Fo mm mc ml mg mw mr f f := Fo.refl
  obtain ⟨cs, ns, hm, hc⟩ := id hn
  refine lv_aload_n hx hb d_Mo_power_0 rfl (lv_at hl 0 rfl) ?_
  refine lv_iload_n hx hb d_Mo_power_1 rfl (lv_at hl 1 rfl) ?_
  by_cases hr0 : vr r0 = true
  · refine hw_cS (As := [.int (r0)]) (rest := [.ref (mm)]) S hI m_Mo_isRegister w_799 (c_Mo_isRegister l D t0 L _ _ r0) hl.1 rfl rfl (Nat.le_of_ble_eq_true rfl) d_Mo_power_2 ⟨Nat.le_of_ble_eq_true rfl, Nat.le_of_ble_eq_true rfl⟩ ⟨Nat.le_of_ble_eq_true rfl, Nat.le_of_ble_eq_true rfl⟩ (fun v9 L9 f102 H locs hp hI => ?_)
    refine W.cs (cells' := 0) (slots' := 0) rfl rfl ?_
    obtain ⟨hv9, rfl, rfl⟩ := hp
    cases hv9
    refine hw_stk (st' := [.int (if vr r0 = true then nI 1 else nI 0), .ref (mm)]) rfl ?_
    refine hw_ti (show _ = nI 1 from by rw [if_pos hr0]) ?_
    refine hw_if_eq (tgt := 31) hx hb d_Mo_power_5 (by decide) (by decide) (fun c9 => absurd c9 (by decide)) (fun _ => ?_)
    refine lv_iload_n hx hb d_Mo_power_8 rfl (lv_at hl 2 rfl) ?_
    by_cases ha0 : vr a0 = true
    · refine hw_cS (As := [.int (a0)]) (rest := [.ref (mm)]) S hI m_Mo_isRegister w_799 (c_Mo_isRegister l D t0 L _ _ a0) hl.1 rfl rfl (Nat.le_of_ble_eq_true rfl) d_Mo_power_9 ⟨Nat.le_of_ble_eq_true rfl, Nat.le_of_ble_eq_true rfl⟩ ⟨Nat.le_of_ble_eq_true rfl, Nat.le_of_ble_eq_true rfl⟩ (fun v9 L9 f105 H locs hp hI => ?_)
      refine W.cs (cells' := 0) (slots' := 0) rfl rfl ?_
      obtain ⟨hv9, rfl, rfl⟩ := hp
      cases hv9
      refine hw_stk (st' := [.int (if vr a0 = true then nI 1 else nI 0), .ref (mm)]) rfl ?_
      refine hw_ti (show _ = nI 1 from by rw [if_pos ha0]) ?_
      refine hw_if_eq (tgt := 31) hx hb d_Mo_power_12 (by decide) (by decide) (fun c9 => absurd c9 (by decide)) (fun _ => ?_)
      refine lv_iload_n hx hb d_Mo_power_15 rfl (lv_at hl 3 rfl) ?_
      refine lv_i2l hx hb d_Mo_power_16 rfl ?_
      refine lv_lconst (v := lN 0) hx hb d_Mo_power_17 rfl ?_
      refine hw_ldc2 (v := lN 200) hx hb hown (hT _ w_898) d_Mo_power_18 ?_
      by_cases hn0 : inR n0 0 200 = true
      · refine hw_cS (As := [.long ((n0).toInt64), .long (lN 0), .long (lN 200)]) (rest := [.ref (mm)]) S hI m_Mo_in w_843 (c_Mo_in l D t0 L _ _ n0 0 200 (by omega) (by omega)) hl.1 rfl rfl (Nat.le_of_ble_eq_true rfl) d_Mo_power_21 ⟨Nat.le_of_ble_eq_true rfl, Nat.le_of_ble_eq_true rfl⟩ ⟨Nat.le_of_ble_eq_true rfl, Nat.le_of_ble_eq_true rfl⟩ (fun v9 L9 f108 H locs hp hI => ?_)
        refine W.cs (cells' := 0) (slots' := 0) rfl rfl ?_
        obtain ⟨hv9, rfl, rfl⟩ := hp
        cases hv9
        refine hw_stk (st' := [.int (if inR n0 0 200 = true then nI 1 else nI 0), .ref (mm)]) rfl ?_
        refine hw_ti (show _ = nI 1 from by rw [if_pos hn0]) ?_
        refine hw_if_eq (tgt := 31) hx hb d_Mo_power_24 (by decide) (by decide) (fun c9 => absurd c9 (by decide)) (fun _ => ?_)
        have hv : (vr r0 && vr a0 && inR n0 0 200) = true := by simp [hr0, ha0, hn0]
        refine lv_iconst (v := nI 0) hx hb d_Mo_power_27 (by decide) ?_
        refine lv_goto (tgt := 32) hx hb d_Mo_power_28 (by decide) ?_
        refine ob_put S hI hm.1 (fs' := [.int (nI 0), .ref (mc), .ref (ml), .ref (mg), .ref (mw), .ref (mr)]) (C := R_Mo) (T := F_Mo) (N := 6) (ref := "WallFractionsModel") rfl i_Mo t_Mo t_Mo_ok n_Mo 0 (by decide) rfl w_771 rfl rfl rfl (by simp only [List.length]; decide) rfl d_Mo_power_32 (fun f110 H locs hI hO9 hf110 => ?_)
        have hm := hm.umm hf110 hO9
        have hF := hF.umm hf110
        have hn := (⟨_, _, hm, hc⟩ : Mn D L _ mm mc ml mg mw mr _ _ _ _ _)
        refine lv_aload_n hx hb d_Mo_power_35 rfl (lv_at hl 0 rfl) ?_
        refine ob_get S hI hm.1 (C := R_Mo) (T := F_Mo) (N := 6) (ref := "WallFractionsModel") rfl i_Mo 0 (by decide) rfl w_771 rfl d_Mo_power_36 ?_
        refine hw_if_le (tgt := 43) hx hb d_Mo_power_39 (by decide) (by decide) (fun _ => ?_) (fun c9 => absurd c9 (by decide))
        obtain ⟨r, hr9, rfl⟩ := vr_nat hr0
        obtain ⟨a, ha9, rfl⟩ := vr_nat ha0
        obtain ⟨n, _, hn9, rfl⟩ := inR_nat hn0 (by decide) (by decide)
        have oka := hok.1 a ha9
        have lta := oka.lt4
        refine lv_aload_n hx hb d_Mo_power_43 rfl (lv_at hl 0 rfl) ?_
        refine lv_bipush (v := nI 32) hx hb d_Mo_power_44 (by decide) ?_
        refine lv_lconst (v := lN 1) hx hb d_Mo_power_46 rfl ?_
        refine hw_cV (As := [.int (nI 32), .long (lN 1)]) (rest := []) S hI m_Mo_setLong w_766 (c_Mo_setLong l D t0 L _ _ mm mc ml mg mw mr (nI 0) y sn wt rr 32 1 hn (by decide) (by decide)) hm.1 rfl hl.1 rfl rfl (Nat.le_of_ble_eq_true rfl) d_Mo_power_47 ⟨Nat.le_of_ble_eq_true rfl, Nat.le_of_ble_eq_true rfl⟩ ⟨Nat.le_of_ble_eq_true rfl, Nat.le_of_ble_eq_true rfl⟩ (fun v9 L9 f111 H locs hp hI => ?_)
        refine W.cs (cells' := 0) (slots' := 0) rfl rfl ?_
        obtain ⟨hv9, rfl, hn, hF9⟩ := hp
        cases hv9
        refine hw_stk (st' := []) rfl ?_
        have hF := hF.trans hF9
        obtain ⟨y112, ey⟩ : ∃ z9, z9 = va_up y 32 1 := ⟨_, rfl⟩
        rw [← ey] at hn
        have q32 : y112 32 = 1 := by rw [ey]; rw [hw_up_eq]
        have k32 := q32
        have hR : RM σ y112 sn := by rw [ey]; exact hR.up (by decide)
        obtain ⟨cs, ns, hm, hc⟩ := id hn
        refine lv_aload_n hx hb d_Mo_power_50 rfl (lv_at hl 0 rfl) ?_
        refine lv_bipush (v := nI 34) hx hb d_Mo_power_51 (by decide) ?_
        refine lv_lconst (v := lN 1) hx hb d_Mo_power_53 rfl ?_
        refine hw_cV (As := [.int (nI 34), .long (lN 1)]) (rest := []) S hI m_Mo_setLong w_766 (c_Mo_setLong l D t0 L _ _ mm mc ml mg mw mr (nI 0) y112 sn wt rr 34 1 hn (by decide) (by decide)) hm.1 rfl hl.1 rfl rfl (Nat.le_of_ble_eq_true rfl) d_Mo_power_54 ⟨Nat.le_of_ble_eq_true rfl, Nat.le_of_ble_eq_true rfl⟩ ⟨Nat.le_of_ble_eq_true rfl, Nat.le_of_ble_eq_true rfl⟩ (fun v9 L9 f113 H locs hp hI => ?_)
        refine W.cs (cells' := 0) (slots' := 0) rfl rfl ?_
        obtain ⟨hv9, rfl, hn, hF9⟩ := hp
        cases hv9
        refine hw_stk (st' := []) rfl ?_
        have hF := hF.trans hF9
        obtain ⟨y114, ey⟩ : ∃ z9, z9 = va_up y112 34 1 := ⟨_, rfl⟩
        rw [← ey] at hn
        have q34 : y114 34 = 1 := by rw [ey]; rw [hw_up_eq]
        have q32 : y114 32 = 1 := by rw [ey, hw_up_ne (by decide)]; exact k32
        have k34 := q34
        have k32 := q32
        have hR : RM σ y114 sn := by rw [ey]; exact hR.up (by decide)
        obtain ⟨cs, ns, hm, hc⟩ := id hn
        refine lv_iconst (v := nI 0) hx hb d_Mo_power_57 (by decide) ?_
        refine lv_istore (lv' := [(4, .int (nI 0)), (0, .ref (mm)), (1, .int (nI r)), (2, .int (nI a)), (3, .int (nI n))]) hx hb d_Mo_power_58 hl (by decide) rfl (fun ls hl => ?_)
        have loop : ∀ (g t : Nat) (y1 : Nat → Nat) (f1 : Nat → va_E) (H : Heap) (locs : List Loc) (ls : Array Slot), t + g = n → y1 32 = (σ a).1 ^ t → y1 34 = (σ a).2.1 ^ t → (σ a).1 ^ t < 10000 ^ 45 → (σ a).2.1 ^ t < 10000 ^ 45 → RM σ y1 sn → Mn D L f1 mm mc ml mg mw mr (nI 0) y1 sn wt rr → Fo mm mc ml mg mw mr f f1 → hw_I D t0 (hw_A L s.heap.size) s L f1 H locs → lv_has ls 5 [(4, .int (nI t)), (3, .int (nI n)), (2, .int (nI a)), (1, .int (nI r)), (0, .ref (mm))] → W p l e (headSpec (Cond.code y_Mo_power b_Mo_power 5 none :: TT) ({ frames := 5, cells := 0, slots := 0, locals := 131 } : Room)).room s m ([.ref (mm), .int ((nI r)), .int ((nI a)), .int ((nI n))]).toArray below meth c H locs 0 0 (MQ below (hw_Q D L s.heap.size (fun oc L' f' => oc = .returned none ∧ L = L' ∧ Mg D L f' mm mc ml mg mw mr (nI (opPow σ (nI r) (nI a) (nI n)).1) (opPow σ (nI r) (nI a) (nI n)).2 wt ∧ Fo mm mc ml mg mw mr f f')) ([.ref (mm), .int ((nI r)), .int ((nI a)), .int ((nI n))]).toArray s 0 0 (hw_A L s.heap.size)) (F0 m 60 ls []) := by
          intro g
          induction g with
          | zero =>
            intro t y1 f1 H locs ls htg k32 k34 hb1 hb2 hR hn hF hI hl
            obtain ⟨cs, ns, hm, hc⟩ := id hn
            refine lv_iload hx hb d_Mo_power_60 (lv_at hl 0 rfl) ?_
            refine lv_iload_n hx hb d_Mo_power_62 rfl (lv_at hl 1 rfl) ?_
            refine hw_icmp_ge (tgt := 139) hx hb d_Mo_power_63 (by decide) (by omega) (by omega) (fun _ => ?_) (fun c9 => absurd c9 (by omega))
            have ht : t = n := by omega
            rw [ht] at k32 k34
            have h34 : 0 < (σ a).2.1 ^ n := Nat.pow_pos oka.2.2.1
            have hng := sgI_neg oka.2.2.2.2
            refine lv_aload_n hx hb d_Mo_power_139 rfl (lv_at hl 4 rfl) ?_
            refine lv_aload_n hx hb d_Mo_power_140 rfl (lv_at hl 4 rfl) ?_
            refine lv_iload_n hx hb d_Mo_power_141 rfl (lv_at hl 3 rfl) ?_
            refine lv_aload_n hx hb d_Mo_power_142 rfl (lv_at hl 4 rfl) ?_
            refine ob_get S hI hm.1 (C := R_Mo) (T := F_Mo) (N := 6) (ref := "WallFractionsModel") rfl i_Mo 3 (by decide) rfl w_774 rfl d_Mo_power_143 ?_
            refine lv_iload_n hx hb d_Mo_power_146 rfl (lv_at hl 2 rfl) ?_
            refine ia_ldR S hI hm.2.2.2.1 (by decide) (by omega) d_Mo_power_147 ?_
            refine hw_ti (show _ = sgI (σ a) from (hR a ha9).2.2) ?_
            refine lv_if_ge (tgt := 162) hx hb d_Mo_power_148 (by decide) (fun c115 => ?_) (fun c115 => ?_)
            · have hs9 : ((σ a).2.2 && decide (n % 2 = 1)) = false := by cases e9 : (σ a).2.2; rfl; exact absurd (hng.mpr e9) (Int32.not_lt.mpr c115)
              refine lv_iconst (v := nI 1) hx hb d_Mo_power_162 (by decide) ?_
              refine hw_cV (As := [.int (nI r), .int (nI 1)]) (rest := [.ref (mm)]) S hI m_Mo_finish w_802 (c_Mo_finish l D t0 L _ _ mm mc ml mg mw mr (nI 0) y1 sn wt rr σ r (nI 1) (((σ a).2.2 && decide (n % 2 = 1))) hn hR hr9 (by rw [k34]; exact h34) (by rw [k32]; exact (fun _ => by rw [hs9]; rfl))) hm.1 rfl hl.1 rfl rfl (Nat.le_of_ble_eq_true rfl) d_Mo_power_163 ⟨Nat.le_of_ble_eq_true rfl, Nat.le_of_ble_eq_true rfl⟩ ⟨Nat.le_of_ble_eq_true rfl, Nat.le_of_ble_eq_true rfl⟩ (fun v9 L9 f116 H locs hp hI => ?_)
              refine W.cs (cells' := 0) (slots' := 0) rfl rfl ?_
              obtain ⟨hv9, rfl, ⟨y9, sn9, hn, hR⟩, hF9⟩ := hp
              cases hv9
              refine hw_stk (st' := [.int (if fitR (lows (y1 32) (y1 34) (((σ a).2.2 && decide (n % 2 = 1)))) = true then nI 1 else nI 0), .ref (mm)]) rfl ?_
              have hF := hF.trans hF9
              rw [k32, k34] at hR
              obtain ⟨cs, ns, hm, hc⟩ := id hn
              by_cases hfit : fitR (lows ((σ a).1 ^ n) ((σ a).2.1 ^ n) (((σ a).2.2 && decide (n % 2 = 1)))) = true
              · refine hw_ti (show _ = nI 1 from by rw [k32, k34, if_pos hfit]) ?_
                rw [if_pos hfit] at hR
                refine hw_if_eq (tgt := 173) hx hb d_Mo_power_166 (by decide) (by decide) (fun c9 => absurd c9 (by decide)) (fun _ => ?_)
                refine lv_iconst (v := nI 0) hx hb d_Mo_power_169 (by decide) ?_
                refine lv_goto (tgt := 174) hx hb d_Mo_power_170 (by decide) ?_
                refine ob_put S hI hm.1 (fs' := [.int (nI 0), .ref (mc), .ref (ml), .ref (mg), .ref (mw), .ref (mr)]) (C := R_Mo) (T := F_Mo) (N := 6) (ref := "WallFractionsModel") rfl i_Mo t_Mo t_Mo_ok n_Mo 0 (by decide) rfl w_771 rfl rfl rfl (by simp only [List.length]; decide) rfl d_Mo_power_174 (fun f117 H locs hI hO9 hf117 => ?_)
                have hm := hm.umm hf117 hO9
                have hF := hF.umm hf117
                have hn := (⟨_, _, hm, hc⟩ : Mn D L _ mm mc ml mg mw mr _ _ _ _ _)
                exact hw_vret hx hb hr hlocks hI d_Mo_power_177 ⟨rfl, rfl, by rw [show opPow σ (nI r) (nI a) (nI n) = (0, va_up σ r (lows ((σ a).1 ^ n) ((σ a).2.1 ^ n) ((σ a).2.2 && decide (n % 2 = 1)))) from by unfold opPow; rw [if_pos hv, putR_eq, ix_nI (by omega), ix_nI (by omega), nI_clamp (by omega), ← lows_pow oka n, if_pos hfit]]; exact ⟨_, _, _, hn, hR⟩, hF⟩
              · refine hw_ti (show _ = nI 0 from by rw [k32, k34, if_neg hfit]) ?_
                rw [if_neg hfit] at hR
                refine hw_if_eq (tgt := 173) hx hb d_Mo_power_166 (by decide) (by decide) (fun _ => ?_) (fun c9 => absurd c9 (by decide))
                refine lv_iconst (v := nI 2) hx hb d_Mo_power_173 (by decide) ?_
                refine ob_put S hI hm.1 (fs' := [.int (nI 2), .ref (mc), .ref (ml), .ref (mg), .ref (mw), .ref (mr)]) (C := R_Mo) (T := F_Mo) (N := 6) (ref := "WallFractionsModel") rfl i_Mo t_Mo t_Mo_ok n_Mo 0 (by decide) rfl w_771 rfl rfl rfl (by simp only [List.length]; decide) rfl d_Mo_power_174 (fun f118 H locs hI hO9 hf118 => ?_)
                have hm := hm.umm hf118 hO9
                have hF := hF.umm hf118
                have hn := (⟨_, _, hm, hc⟩ : Mn D L _ mm mc ml mg mw mr _ _ _ _ _)
                exact hw_vret hx hb hr hlocks hI d_Mo_power_177 ⟨rfl, rfl, by rw [show opPow σ (nI r) (nI a) (nI n) = (2, σ) from by unfold opPow; rw [if_pos hv, putR_eq, ix_nI (by omega), ix_nI (by omega), nI_clamp (by omega), ← lows_pow oka n, if_neg hfit]]; exact ⟨_, _, _, hn, hR⟩, hF⟩
            · have hs8 : (σ a).2.2 = true := hng.mp (Int32.not_le.mp c115)
              refine lv_iload_n hx hb d_Mo_power_151 rfl (lv_at hl 1 rfl) ?_
              refine lv_iconst (v := nI 2) hx hb d_Mo_power_152 (by decide) ?_
              refine lv_irem hx hb d_Mo_power_153 (by decide) ?_
              refine hw_ti (pk_rem (by omega) (by omega) (by omega)) ?_
              refine lv_iconst (v := nI 1) hx hb d_Mo_power_154 (by decide) ?_
              refine hw_icmp_ne (tgt := 162) hx hb d_Mo_power_155 (by decide) (by omega) (by omega) (fun c119 => ?_) (fun c119 => ?_)
              · have hs9 : ((σ a).2.2 && decide (n % 2 = 1)) = false := by rw [hs8, decide_eq_false c119]; rfl
                refine lv_iconst (v := nI 1) hx hb d_Mo_power_162 (by decide) ?_
                refine hw_cV (As := [.int (nI r), .int (nI 1)]) (rest := [.ref (mm)]) S hI m_Mo_finish w_802 (c_Mo_finish l D t0 L _ _ mm mc ml mg mw mr (nI 0) y1 sn wt rr σ r (nI 1) (((σ a).2.2 && decide (n % 2 = 1))) hn hR hr9 (by rw [k34]; exact h34) (by rw [k32]; exact (fun _ => by rw [hs9]; rfl))) hm.1 rfl hl.1 rfl rfl (Nat.le_of_ble_eq_true rfl) d_Mo_power_163 ⟨Nat.le_of_ble_eq_true rfl, Nat.le_of_ble_eq_true rfl⟩ ⟨Nat.le_of_ble_eq_true rfl, Nat.le_of_ble_eq_true rfl⟩ (fun v9 L9 f120 H locs hp hI => ?_)
                refine W.cs (cells' := 0) (slots' := 0) rfl rfl ?_
                obtain ⟨hv9, rfl, ⟨y9, sn9, hn, hR⟩, hF9⟩ := hp
                cases hv9
                refine hw_stk (st' := [.int (if fitR (lows (y1 32) (y1 34) (((σ a).2.2 && decide (n % 2 = 1)))) = true then nI 1 else nI 0), .ref (mm)]) rfl ?_
                have hF := hF.trans hF9
                rw [k32, k34] at hR
                obtain ⟨cs, ns, hm, hc⟩ := id hn
                by_cases hfit : fitR (lows ((σ a).1 ^ n) ((σ a).2.1 ^ n) (((σ a).2.2 && decide (n % 2 = 1)))) = true
                · refine hw_ti (show _ = nI 1 from by rw [k32, k34, if_pos hfit]) ?_
                  rw [if_pos hfit] at hR
                  refine hw_if_eq (tgt := 173) hx hb d_Mo_power_166 (by decide) (by decide) (fun c9 => absurd c9 (by decide)) (fun _ => ?_)
                  refine lv_iconst (v := nI 0) hx hb d_Mo_power_169 (by decide) ?_
                  refine lv_goto (tgt := 174) hx hb d_Mo_power_170 (by decide) ?_
                  refine ob_put S hI hm.1 (fs' := [.int (nI 0), .ref (mc), .ref (ml), .ref (mg), .ref (mw), .ref (mr)]) (C := R_Mo) (T := F_Mo) (N := 6) (ref := "WallFractionsModel") rfl i_Mo t_Mo t_Mo_ok n_Mo 0 (by decide) rfl w_771 rfl rfl rfl (by simp only [List.length]; decide) rfl d_Mo_power_174 (fun f121 H locs hI hO9 hf121 => ?_)
                  have hm := hm.umm hf121 hO9
                  have hF := hF.umm hf121
                  have hn := (⟨_, _, hm, hc⟩ : Mn D L _ mm mc ml mg mw mr _ _ _ _ _)
                  exact hw_vret hx hb hr hlocks hI d_Mo_power_177 ⟨rfl, rfl, by rw [show opPow σ (nI r) (nI a) (nI n) = (0, va_up σ r (lows ((σ a).1 ^ n) ((σ a).2.1 ^ n) ((σ a).2.2 && decide (n % 2 = 1)))) from by unfold opPow; rw [if_pos hv, putR_eq, ix_nI (by omega), ix_nI (by omega), nI_clamp (by omega), ← lows_pow oka n, if_pos hfit]]; exact ⟨_, _, _, hn, hR⟩, hF⟩
                · refine hw_ti (show _ = nI 0 from by rw [k32, k34, if_neg hfit]) ?_
                  rw [if_neg hfit] at hR
                  refine hw_if_eq (tgt := 173) hx hb d_Mo_power_166 (by decide) (by decide) (fun _ => ?_) (fun c9 => absurd c9 (by decide))
                  refine lv_iconst (v := nI 2) hx hb d_Mo_power_173 (by decide) ?_
                  refine ob_put S hI hm.1 (fs' := [.int (nI 2), .ref (mc), .ref (ml), .ref (mg), .ref (mw), .ref (mr)]) (C := R_Mo) (T := F_Mo) (N := 6) (ref := "WallFractionsModel") rfl i_Mo t_Mo t_Mo_ok n_Mo 0 (by decide) rfl w_771 rfl rfl rfl (by simp only [List.length]; decide) rfl d_Mo_power_174 (fun f122 H locs hI hO9 hf122 => ?_)
                  have hm := hm.umm hf122 hO9
                  have hF := hF.umm hf122
                  have hn := (⟨_, _, hm, hc⟩ : Mn D L _ mm mc ml mg mw mr _ _ _ _ _)
                  exact hw_vret hx hb hr hlocks hI d_Mo_power_177 ⟨rfl, rfl, by rw [show opPow σ (nI r) (nI a) (nI n) = (2, σ) from by unfold opPow; rw [if_pos hv, putR_eq, ix_nI (by omega), ix_nI (by omega), nI_clamp (by omega), ← lows_pow oka n, if_neg hfit]]; exact ⟨_, _, _, hn, hR⟩, hF⟩
              · have hs9 : ((σ a).2.2 && decide (n % 2 = 1)) = true := by rw [hs8, decide_eq_true c119]; rfl
                refine lv_iconst (v := -1) hx hb d_Mo_power_158 (by decide) ?_
                refine lv_goto (tgt := 163) hx hb d_Mo_power_159 (by decide) ?_
                refine hw_cV (As := [.int (nI r), .int (-1)]) (rest := [.ref (mm)]) S hI m_Mo_finish w_802 (c_Mo_finish l D t0 L _ _ mm mc ml mg mw mr (nI 0) y1 sn wt rr σ r (-1) (((σ a).2.2 && decide (n % 2 = 1))) hn hR hr9 (by rw [k34]; exact h34) (by rw [k32]; exact (fun _ => by rw [hs9]; rfl))) hm.1 rfl hl.1 rfl rfl (Nat.le_of_ble_eq_true rfl) d_Mo_power_163 ⟨Nat.le_of_ble_eq_true rfl, Nat.le_of_ble_eq_true rfl⟩ ⟨Nat.le_of_ble_eq_true rfl, Nat.le_of_ble_eq_true rfl⟩ (fun v9 L9 f123 H locs hp hI => ?_)
                refine W.cs (cells' := 0) (slots' := 0) rfl rfl ?_
                obtain ⟨hv9, rfl, ⟨y9, sn9, hn, hR⟩, hF9⟩ := hp
                cases hv9
                refine hw_stk (st' := [.int (if fitR (lows (y1 32) (y1 34) (((σ a).2.2 && decide (n % 2 = 1)))) = true then nI 1 else nI 0), .ref (mm)]) rfl ?_
                have hF := hF.trans hF9
                rw [k32, k34] at hR
                obtain ⟨cs, ns, hm, hc⟩ := id hn
                by_cases hfit : fitR (lows ((σ a).1 ^ n) ((σ a).2.1 ^ n) (((σ a).2.2 && decide (n % 2 = 1)))) = true
                · refine hw_ti (show _ = nI 1 from by rw [k32, k34, if_pos hfit]) ?_
                  rw [if_pos hfit] at hR
                  refine hw_if_eq (tgt := 173) hx hb d_Mo_power_166 (by decide) (by decide) (fun c9 => absurd c9 (by decide)) (fun _ => ?_)
                  refine lv_iconst (v := nI 0) hx hb d_Mo_power_169 (by decide) ?_
                  refine lv_goto (tgt := 174) hx hb d_Mo_power_170 (by decide) ?_
                  refine ob_put S hI hm.1 (fs' := [.int (nI 0), .ref (mc), .ref (ml), .ref (mg), .ref (mw), .ref (mr)]) (C := R_Mo) (T := F_Mo) (N := 6) (ref := "WallFractionsModel") rfl i_Mo t_Mo t_Mo_ok n_Mo 0 (by decide) rfl w_771 rfl rfl rfl (by simp only [List.length]; decide) rfl d_Mo_power_174 (fun f124 H locs hI hO9 hf124 => ?_)
                  have hm := hm.umm hf124 hO9
                  have hF := hF.umm hf124
                  have hn := (⟨_, _, hm, hc⟩ : Mn D L _ mm mc ml mg mw mr _ _ _ _ _)
                  exact hw_vret hx hb hr hlocks hI d_Mo_power_177 ⟨rfl, rfl, by rw [show opPow σ (nI r) (nI a) (nI n) = (0, va_up σ r (lows ((σ a).1 ^ n) ((σ a).2.1 ^ n) ((σ a).2.2 && decide (n % 2 = 1)))) from by unfold opPow; rw [if_pos hv, putR_eq, ix_nI (by omega), ix_nI (by omega), nI_clamp (by omega), ← lows_pow oka n, if_pos hfit]]; exact ⟨_, _, _, hn, hR⟩, hF⟩
                · refine hw_ti (show _ = nI 0 from by rw [k32, k34, if_neg hfit]) ?_
                  rw [if_neg hfit] at hR
                  refine hw_if_eq (tgt := 173) hx hb d_Mo_power_166 (by decide) (by decide) (fun _ => ?_) (fun c9 => absurd c9 (by decide))
                  refine lv_iconst (v := nI 2) hx hb d_Mo_power_173 (by decide) ?_
                  refine ob_put S hI hm.1 (fs' := [.int (nI 2), .ref (mc), .ref (ml), .ref (mg), .ref (mw), .ref (mr)]) (C := R_Mo) (T := F_Mo) (N := 6) (ref := "WallFractionsModel") rfl i_Mo t_Mo t_Mo_ok n_Mo 0 (by decide) rfl w_771 rfl rfl rfl (by simp only [List.length]; decide) rfl d_Mo_power_174 (fun f125 H locs hI hO9 hf125 => ?_)
                  have hm := hm.umm hf125 hO9
                  have hF := hF.umm hf125
                  have hn := (⟨_, _, hm, hc⟩ : Mn D L _ mm mc ml mg mw mr _ _ _ _ _)
                  exact hw_vret hx hb hr hlocks hI d_Mo_power_177 ⟨rfl, rfl, by rw [show opPow σ (nI r) (nI a) (nI n) = (2, σ) from by unfold opPow; rw [if_pos hv, putR_eq, ix_nI (by omega), ix_nI (by omega), nI_clamp (by omega), ← lows_pow oka n, if_neg hfit]]; exact ⟨_, _, _, hn, hR⟩, hF⟩
          | succ g ih =>
            intro t y1 f1 H locs ls htg k32 k34 hb1 hb2 hR hn hF hI hl
            obtain ⟨cs, ns, hm, hc⟩ := id hn
            refine lv_iload hx hb d_Mo_power_60 (lv_at hl 0 rfl) ?_
            refine lv_iload_n hx hb d_Mo_power_62 rfl (lv_at hl 1 rfl) ?_
            refine hw_icmp_ge (tgt := 139) hx hb d_Mo_power_63 (by decide) (by omega) (by omega) (fun c9 => absurd c9 (by omega)) (fun _ => ?_)
            refine lv_aload_n hx hb d_Mo_power_66 rfl (lv_at hl 4 rfl) ?_
            refine lv_bipush (v := nI 35) hx hb d_Mo_power_67 (by decide) ?_
            refine lv_bipush (v := nI 32) hx hb d_Mo_power_69 (by decide) ?_
            refine lv_iload_n hx hb d_Mo_power_71 rfl (lv_at hl 2 rfl) ?_
            refine hw_cV (As := [.int (nI 35), .int (nI 32), .int (nI a)]) (rest := []) S hI m_Mo_product w_866 (c_Mo_product l D t0 L _ _ mm mc ml mg mw mr (nI 0) y1 sn wt rr 35 32 a 45 45 hn (by decide) (by omega) (by omega) (by omega) (by omega) (by rw [k32]; exact hb1) (by rw [(hR a ha9).1]; exact lta.1) (by decide)) hm.1 rfl hl.1 rfl rfl (Nat.le_of_ble_eq_true rfl) d_Mo_power_72 ⟨Nat.le_of_ble_eq_true rfl, Nat.le_of_ble_eq_true rfl⟩ ⟨Nat.le_of_ble_eq_true rfl, Nat.le_of_ble_eq_true rfl⟩ (fun v9 L9 f126 H locs hp hI => ?_)
            refine W.cs (cells' := 0) (slots' := 0) rfl rfl ?_
            obtain ⟨hv9, rfl, hn, hF9⟩ := hp
            cases hv9
            refine hw_stk (st' := []) rfl ?_
            have hF := hF.trans hF9
            obtain ⟨y127, ey⟩ : ∃ z9, z9 = va_up y1 35 (y1 32 * y1 a) := ⟨_, rfl⟩
            rw [← ey] at hn
            have q35 : y127 35 = (σ a).1 ^ (t + 1) := by rw [ey]; rw [hw_up_eq, k32, (hR a ha9).1, Nat.pow_succ]
            have q32 : y127 32 = (σ a).1 ^ t := by rw [ey, hw_up_ne (by decide)]; exact k32
            have q34 : y127 34 = (σ a).2.1 ^ t := by rw [ey, hw_up_ne (by decide)]; exact k34
            have k35 := q35
            have k32 := q32
            have k34 := q34
            have hR : RM σ y127 sn := by rw [ey]; exact hR.up (by decide)
            obtain ⟨cs, ns, hm, hc⟩ := id hn
            refine lv_aload_n hx hb d_Mo_power_75 rfl (lv_at hl 4 rfl) ?_
            refine lv_bipush (v := nI 32) hx hb d_Mo_power_76 (by decide) ?_
            refine lv_bipush (v := nI 35) hx hb d_Mo_power_78 (by decide) ?_
            refine hw_cV (As := [.int (nI 32), .int (nI 35)]) (rest := []) S hI m_Mo_copy w_810 (c_Mo_copy l D t0 L _ _ mm mc ml mg mw mr (nI 0) y127 sn wt rr 32 35 hn (by decide) (by decide)) hm.1 rfl hl.1 rfl rfl (Nat.le_of_ble_eq_true rfl) d_Mo_power_80 ⟨Nat.le_of_ble_eq_true rfl, Nat.le_of_ble_eq_true rfl⟩ ⟨Nat.le_of_ble_eq_true rfl, Nat.le_of_ble_eq_true rfl⟩ (fun v9 L9 f128 H locs hp hI => ?_)
            refine W.cs (cells' := 0) (slots' := 0) rfl rfl ?_
            obtain ⟨hv9, rfl, hn, hF9⟩ := hp
            cases hv9
            refine hw_stk (st' := []) rfl ?_
            have hF := hF.trans hF9
            obtain ⟨y129, ey⟩ : ∃ z9, z9 = va_up y127 32 (y127 35) := ⟨_, rfl⟩
            rw [← ey] at hn
            have q32 : y129 32 = (σ a).1 ^ (t + 1) := by rw [ey]; rw [hw_up_eq]; exact k35
            have q35 : y129 35 = (σ a).1 ^ (t + 1) := by rw [ey, hw_up_ne (by decide)]; exact k35
            have q34 : y129 34 = (σ a).2.1 ^ t := by rw [ey, hw_up_ne (by decide)]; exact k34
            have k32 := q32
            have k35 := q35
            have k34 := q34
            have hR : RM σ y129 sn := by rw [ey]; exact hR.up (by decide)
            obtain ⟨cs, ns, hm, hc⟩ := id hn
            refine lv_aload_n hx hb d_Mo_power_83 rfl (lv_at hl 4 rfl) ?_
            refine lv_bipush (v := nI 35) hx hb d_Mo_power_84 (by decide) ?_
            refine lv_bipush (v := nI 34) hx hb d_Mo_power_86 (by decide) ?_
            refine lv_bipush (v := nI 16) hx hb d_Mo_power_88 (by decide) ?_
            refine lv_iload_n hx hb d_Mo_power_90 rfl (lv_at hl 2 rfl) ?_
            refine lv_iadd hx hb d_Mo_power_91 ?_
            refine hw_ti (nI_add _ _) ?_
            refine hw_cV (As := [.int (nI 35), .int (nI 34), .int (nI (16 + a))]) (rest := []) S hI m_Mo_product w_866 (c_Mo_product l D t0 L _ _ mm mc ml mg mw mr (nI 0) y129 sn wt rr 35 34 (16 + a) 45 45 hn (by decide) (by omega) (by omega) (by omega) (by omega) (by rw [k34]; exact hb2) (by rw [(hR a ha9).2.1]; exact lta.2) (by decide)) hm.1 rfl hl.1 rfl rfl (Nat.le_of_ble_eq_true rfl) d_Mo_power_92 ⟨Nat.le_of_ble_eq_true rfl, Nat.le_of_ble_eq_true rfl⟩ ⟨Nat.le_of_ble_eq_true rfl, Nat.le_of_ble_eq_true rfl⟩ (fun v9 L9 f130 H locs hp hI => ?_)
            refine W.cs (cells' := 0) (slots' := 0) rfl rfl ?_
            obtain ⟨hv9, rfl, hn, hF9⟩ := hp
            cases hv9
            refine hw_stk (st' := []) rfl ?_
            have hF := hF.trans hF9
            obtain ⟨y131, ey⟩ : ∃ z9, z9 = va_up y129 35 (y129 34 * y129 (16 + a)) := ⟨_, rfl⟩
            rw [← ey] at hn
            have q35 : y131 35 = (σ a).2.1 ^ (t + 1) := by rw [ey]; rw [hw_up_eq, k34, (hR a ha9).2.1, Nat.pow_succ]
            have q32 : y131 32 = (σ a).1 ^ (t + 1) := by rw [ey, hw_up_ne (by decide)]; exact k32
            have q34 : y131 34 = (σ a).2.1 ^ t := by rw [ey, hw_up_ne (by decide)]; exact k34
            have k35 := q35
            have k32 := q32
            have k34 := q34
            have hR : RM σ y131 sn := by rw [ey]; exact hR.up (by decide)
            obtain ⟨cs, ns, hm, hc⟩ := id hn
            refine lv_aload_n hx hb d_Mo_power_95 rfl (lv_at hl 4 rfl) ?_
            refine lv_bipush (v := nI 34) hx hb d_Mo_power_96 (by decide) ?_
            refine lv_bipush (v := nI 35) hx hb d_Mo_power_98 (by decide) ?_
            refine hw_cV (As := [.int (nI 34), .int (nI 35)]) (rest := []) S hI m_Mo_copy w_810 (c_Mo_copy l D t0 L _ _ mm mc ml mg mw mr (nI 0) y131 sn wt rr 34 35 hn (by decide) (by decide)) hm.1 rfl hl.1 rfl rfl (Nat.le_of_ble_eq_true rfl) d_Mo_power_100 ⟨Nat.le_of_ble_eq_true rfl, Nat.le_of_ble_eq_true rfl⟩ ⟨Nat.le_of_ble_eq_true rfl, Nat.le_of_ble_eq_true rfl⟩ (fun v9 L9 f132 H locs hp hI => ?_)
            refine W.cs (cells' := 0) (slots' := 0) rfl rfl ?_
            obtain ⟨hv9, rfl, hn, hF9⟩ := hp
            cases hv9
            refine hw_stk (st' := []) rfl ?_
            have hF := hF.trans hF9
            obtain ⟨y133, ey⟩ : ∃ z9, z9 = va_up y131 34 (y131 35) := ⟨_, rfl⟩
            rw [← ey] at hn
            have q34 : y133 34 = (σ a).2.1 ^ (t + 1) := by rw [ey]; rw [hw_up_eq]; exact k35
            have q35 : y133 35 = (σ a).2.1 ^ (t + 1) := by rw [ey, hw_up_ne (by decide)]; exact k35
            have q32 : y133 32 = (σ a).1 ^ (t + 1) := by rw [ey, hw_up_ne (by decide)]; exact k32
            have k34 := q34
            have k35 := q35
            have k32 := q32
            have hR : RM σ y133 sn := by rw [ey]; exact hR.up (by decide)
            obtain ⟨cs, ns, hm, hc⟩ := id hn
            have s1 : ns 32 ≤ 45 ↔ (σ a).1 ^ (t + 1) < 10000 ^ 45 := by rw [← k32]; exact (hc.2 32 (by decide)).2.size_le m1
            have s2 : ns 34 ≤ 45 ↔ (σ a).2.1 ^ (t + 1) < 10000 ^ 45 := by rw [← k34]; exact (hc.2 34 (by decide)).2.size_le m1
            have s3 := (hc.2 32 (by decide)).1
            have s4 := (hc.2 34 (by decide)).1
            refine lv_aload_n hx hb d_Mo_power_103 rfl (lv_at hl 4 rfl) ?_
            refine ob_get S hI hm.1 (C := R_Mo) (T := F_Mo) (N := 6) (ref := "WallFractionsModel") rfl i_Mo 2 (by decide) rfl w_773 rfl d_Mo_power_104 ?_
            refine lv_bipush (v := nI 32) hx hb d_Mo_power_107 (by decide) ?_
            refine ia_ld S hI hm.2.2.1 (by decide) (by omega) d_Mo_power_109 ?_
            refine lv_bipush (v := nI 45) hx hb d_Mo_power_110 (by decide) ?_
            refine hw_icmp_gt (tgt := 127) hx hb d_Mo_power_112 (by decide) (by omega) (by omega) (fun c134 => ?_) (fun c134 => ?_)
            · have hnf : ¬ fitR ((σ a).1 ^ n, (σ a).2.1 ^ n, (σ a).2.2 && decide (n % 2 = 1)) = true := fit_pow oka (t := t + 1) (by omega) (by rw [← m45]; exact fun h => absurd (s1.mpr h.1) (by omega))
              have e9 : opPow σ (nI r) (nI a) (nI n) = (2, σ) := by unfold opPow; rw [if_pos hv, putR_eq, ix_nI (by omega), ix_nI (by omega), nI_clamp (by omega), if_neg hnf]
              refine lv_aload_n hx hb d_Mo_power_127 rfl (lv_at hl 4 rfl) ?_
              refine lv_iconst (v := nI 2) hx hb d_Mo_power_128 (by decide) ?_
              refine ob_put S hI hm.1 (fs' := [.int (nI 2), .ref (mc), .ref (ml), .ref (mg), .ref (mw), .ref (mr)]) (C := R_Mo) (T := F_Mo) (N := 6) (ref := "WallFractionsModel") rfl i_Mo t_Mo t_Mo_ok n_Mo 0 (by decide) rfl w_771 rfl rfl rfl (by simp only [List.length]; decide) rfl d_Mo_power_129 (fun f135 H locs hI hO9 hf135 => ?_)
              have hm := hm.umm hf135 hO9
              have hF := hF.umm hf135
              have hn := (⟨_, _, hm, hc⟩ : Mn D L _ mm mc ml mg mw mr _ _ _ _ _)
              exact hw_vret hx hb hr hlocks hI d_Mo_power_132 ⟨rfl, rfl, by rw [e9]; exact ⟨_, _, _, hn, hR⟩, hF⟩
            · refine lv_aload_n hx hb d_Mo_power_115 rfl (lv_at hl 4 rfl) ?_
              refine ob_get S hI hm.1 (C := R_Mo) (T := F_Mo) (N := 6) (ref := "WallFractionsModel") rfl i_Mo 2 (by decide) rfl w_773 rfl d_Mo_power_116 ?_
              refine lv_bipush (v := nI 34) hx hb d_Mo_power_119 (by decide) ?_
              refine ia_ld S hI hm.2.2.1 (by decide) (by omega) d_Mo_power_121 ?_
              refine lv_bipush (v := nI 45) hx hb d_Mo_power_122 (by decide) ?_
              refine hw_icmp_le (tgt := 133) hx hb d_Mo_power_124 (by decide) (by omega) (by omega) (fun c136 => ?_) (fun c136 => ?_)
              · refine lv_iinc (v := nI (t + 1)) (lv' := [(4, .int (nI (t + 1))), (3, .int (nI n)), (2, .int (nI a)), (1, .int (nI r)), (0, .ref (mm))]) hx hb d_Mo_power_133 hl (k := 0) rfl (nI_1 _) (by decide) rfl (fun ls hl => ?_)
                refine lv_goto (tgt := 60) hx hb d_Mo_power_136 (by decide) ?_
                exact ih (t + 1) _ _ _ _ _ (by omega) k32 k34 (s1.mp (by omega)) (s2.mp (by omega)) hR hn hF hI hl
              · have hnf : ¬ fitR ((σ a).1 ^ n, (σ a).2.1 ^ n, (σ a).2.2 && decide (n % 2 = 1)) = true := fit_pow oka (t := t + 1) (by omega) (by rw [← m45]; exact fun h => absurd (s2.mpr h.2) (by omega))
                have e9 : opPow σ (nI r) (nI a) (nI n) = (2, σ) := by unfold opPow; rw [if_pos hv, putR_eq, ix_nI (by omega), ix_nI (by omega), nI_clamp (by omega), if_neg hnf]
                refine lv_aload_n hx hb d_Mo_power_127 rfl (lv_at hl 4 rfl) ?_
                refine lv_iconst (v := nI 2) hx hb d_Mo_power_128 (by decide) ?_
                refine ob_put S hI hm.1 (fs' := [.int (nI 2), .ref (mc), .ref (ml), .ref (mg), .ref (mw), .ref (mr)]) (C := R_Mo) (T := F_Mo) (N := 6) (ref := "WallFractionsModel") rfl i_Mo t_Mo t_Mo_ok n_Mo 0 (by decide) rfl w_771 rfl rfl rfl (by simp only [List.length]; decide) rfl d_Mo_power_129 (fun f137 H locs hI hO9 hf137 => ?_)
                have hm := hm.umm hf137 hO9
                have hF := hF.umm hf137
                have hn := (⟨_, _, hm, hc⟩ : Mn D L _ mm mc ml mg mw mr _ _ _ _ _)
                exact hw_vret hx hb hr hlocks hI d_Mo_power_132 ⟨rfl, rfl, by rw [e9]; exact ⟨_, _, _, hn, hR⟩, hF⟩
        exact loop n 0 _ _ _ _ _ (by omega) (by rw [k32, Nat.pow_zero]) (by rw [k34, Nat.pow_zero]) (by rw [Nat.pow_zero]; decide) (by rw [Nat.pow_zero]; decide) hR hn hF hI (lv_sub hl [0, 4, 3, 2, 1] rfl)
      · refine hw_cS (As := [.long ((n0).toInt64), .long (lN 0), .long (lN 200)]) (rest := [.ref (mm)]) S hI m_Mo_in w_843 (c_Mo_in l D t0 L _ _ n0 0 200 (by omega) (by omega)) hl.1 rfl rfl (Nat.le_of_ble_eq_true rfl) d_Mo_power_21 ⟨Nat.le_of_ble_eq_true rfl, Nat.le_of_ble_eq_true rfl⟩ ⟨Nat.le_of_ble_eq_true rfl, Nat.le_of_ble_eq_true rfl⟩ (fun v9 L9 f107 H locs hp hI => ?_)
        refine W.cs (cells' := 0) (slots' := 0) rfl rfl ?_
        obtain ⟨hv9, rfl, rfl⟩ := hp
        cases hv9
        refine hw_stk (st' := [.int (if inR n0 0 200 = true then nI 1 else nI 0), .ref (mm)]) rfl ?_
        refine hw_ti (show _ = nI 0 from by rw [if_neg hn0]) ?_
        refine hw_if_eq (tgt := 31) hx hb d_Mo_power_24 (by decide) (by decide) (fun _ => ?_) (fun c9 => absurd c9 (by decide))
        have e9 : opPow σ r0 a0 n0 = (1, σ) := by unfold opPow; rw [if_neg (by simp [hn0])]
        refine lv_iconst (v := nI 1) hx hb d_Mo_power_31 (by decide) ?_
        refine ob_put S hI hm.1 (fs' := [.int (nI 1), .ref (mc), .ref (ml), .ref (mg), .ref (mw), .ref (mr)]) (C := R_Mo) (T := F_Mo) (N := 6) (ref := "WallFractionsModel") rfl i_Mo t_Mo t_Mo_ok n_Mo 0 (by decide) rfl w_771 rfl rfl rfl (by simp only [List.length]; decide) rfl d_Mo_power_32 (fun f109 H locs hI hO9 hf109 => ?_)
        have hm := hm.umm hf109 hO9
        have hF := hF.umm hf109
        have hn := (⟨_, _, hm, hc⟩ : Mn D L _ mm mc ml mg mw mr _ _ _ _ _)
        refine lv_aload_n hx hb d_Mo_power_35 rfl (lv_at hl 0 rfl) ?_
        refine ob_get S hI hm.1 (C := R_Mo) (T := F_Mo) (N := 6) (ref := "WallFractionsModel") rfl i_Mo 0 (by decide) rfl w_771 rfl d_Mo_power_36 ?_
        refine hw_if_le (tgt := 43) hx hb d_Mo_power_39 (by decide) (by decide) (fun c9 => absurd c9 (by decide)) (fun _ => ?_)
        exact hw_vret hx hb hr hlocks hI d_Mo_power_42 ⟨rfl, rfl, by rw [e9]; exact ⟨_, _, _, hn, hR⟩, hF⟩
    · refine hw_cS (As := [.int (a0)]) (rest := [.ref (mm)]) S hI m_Mo_isRegister w_799 (c_Mo_isRegister l D t0 L _ _ a0) hl.1 rfl rfl (Nat.le_of_ble_eq_true rfl) d_Mo_power_9 ⟨Nat.le_of_ble_eq_true rfl, Nat.le_of_ble_eq_true rfl⟩ ⟨Nat.le_of_ble_eq_true rfl, Nat.le_of_ble_eq_true rfl⟩ (fun v9 L9 f104 H locs hp hI => ?_)
      refine W.cs (cells' := 0) (slots' := 0) rfl rfl ?_
      obtain ⟨hv9, rfl, rfl⟩ := hp
      cases hv9
      refine hw_stk (st' := [.int (if vr a0 = true then nI 1 else nI 0), .ref (mm)]) rfl ?_
      refine hw_ti (show _ = nI 0 from by rw [if_neg ha0]) ?_
      refine hw_if_eq (tgt := 31) hx hb d_Mo_power_12 (by decide) (by decide) (fun _ => ?_) (fun c9 => absurd c9 (by decide))
      have e9 : opPow σ r0 a0 n0 = (1, σ) := by unfold opPow; rw [if_neg (by simp [ha0])]
      refine lv_iconst (v := nI 1) hx hb d_Mo_power_31 (by decide) ?_
      refine ob_put S hI hm.1 (fs' := [.int (nI 1), .ref (mc), .ref (ml), .ref (mg), .ref (mw), .ref (mr)]) (C := R_Mo) (T := F_Mo) (N := 6) (ref := "WallFractionsModel") rfl i_Mo t_Mo t_Mo_ok n_Mo 0 (by decide) rfl w_771 rfl rfl rfl (by simp only [List.length]; decide) rfl d_Mo_power_32 (fun f106 H locs hI hO9 hf106 => ?_)
      have hm := hm.umm hf106 hO9
      have hF := hF.umm hf106
      have hn := (⟨_, _, hm, hc⟩ : Mn D L _ mm mc ml mg mw mr _ _ _ _ _)
      refine lv_aload_n hx hb d_Mo_power_35 rfl (lv_at hl 0 rfl) ?_
      refine ob_get S hI hm.1 (C := R_Mo) (T := F_Mo) (N := 6) (ref := "WallFractionsModel") rfl i_Mo 0 (by decide) rfl w_771 rfl d_Mo_power_36 ?_
      refine hw_if_le (tgt := 43) hx hb d_Mo_power_39 (by decide) (by decide) (fun c9 => absurd c9 (by decide)) (fun _ => ?_)
      exact hw_vret hx hb hr hlocks hI d_Mo_power_42 ⟨rfl, rfl, by rw [e9]; exact ⟨_, _, _, hn, hR⟩, hF⟩
  · refine hw_cS (As := [.int (r0)]) (rest := [.ref (mm)]) S hI m_Mo_isRegister w_799 (c_Mo_isRegister l D t0 L _ _ r0) hl.1 rfl rfl (Nat.le_of_ble_eq_true rfl) d_Mo_power_2 ⟨Nat.le_of_ble_eq_true rfl, Nat.le_of_ble_eq_true rfl⟩ ⟨Nat.le_of_ble_eq_true rfl, Nat.le_of_ble_eq_true rfl⟩ (fun v9 L9 f101 H locs hp hI => ?_)
    refine W.cs (cells' := 0) (slots' := 0) rfl rfl ?_
    obtain ⟨hv9, rfl, rfl⟩ := hp
    cases hv9
    refine hw_stk (st' := [.int (if vr r0 = true then nI 1 else nI 0), .ref (mm)]) rfl ?_
    refine hw_ti (show _ = nI 0 from by rw [if_neg hr0]) ?_
    refine hw_if_eq (tgt := 31) hx hb d_Mo_power_5 (by decide) (by decide) (fun _ => ?_) (fun c9 => absurd c9 (by decide))
    have e9 : opPow σ r0 a0 n0 = (1, σ) := by unfold opPow; rw [if_neg (by simp [hr0])]
    refine lv_iconst (v := nI 1) hx hb d_Mo_power_31 (by decide) ?_
    refine ob_put S hI hm.1 (fs' := [.int (nI 1), .ref (mc), .ref (ml), .ref (mg), .ref (mw), .ref (mr)]) (C := R_Mo) (T := F_Mo) (N := 6) (ref := "WallFractionsModel") rfl i_Mo t_Mo t_Mo_ok n_Mo 0 (by decide) rfl w_771 rfl rfl rfl (by simp only [List.length]; decide) rfl d_Mo_power_32 (fun f103 H locs hI hO9 hf103 => ?_)
    have hm := hm.umm hf103 hO9
    have hF := hF.umm hf103
    have hn := (⟨_, _, hm, hc⟩ : Mn D L _ mm mc ml mg mw mr _ _ _ _ _)
    refine lv_aload_n hx hb d_Mo_power_35 rfl (lv_at hl 0 rfl) ?_
    refine ob_get S hI hm.1 (C := R_Mo) (T := F_Mo) (N := 6) (ref := "WallFractionsModel") rfl i_Mo 0 (by decide) rfl w_771 rfl d_Mo_power_36 ?_
    refine hw_if_le (tgt := 43) hx hb d_Mo_power_39 (by decide) (by decide) (fun c9 => absurd c9 (by decide)) (fun _ => ?_)
    exact hw_vret hx hb hr hlocks hI d_Mo_power_42 ⟨rfl, rfl, by rw [e9]; exact ⟨_, _, _, hn, hR⟩, hF⟩
set_option maxHeartbeats 4000000 in
set_option maxRecDepth 100000 in
theorem c_Mo_binomial (l : Launch) (D : va_G) (t0 : Nat) (L : List Nat) (f : Nat → va_E) (sz : Nat) (mm mc ml mg mw mr : Nat) (th : Int32) (σ : Sg) (wt : Nat → Nat) (r0 n0 k0 : Int32) (hM : Mg D L f mm mc ml mg mw mr th σ wt) (hok : Ok σ wt) : Met l y_Mo_binomial (Cond.code y_Mo_binomial b_Mo_binomial 8 none :: TT) ({ frames := 5, cells := 0, slots := 0, locals := 131 } : Room) (hw_Pc t0 [.ref (mm), .int (r0), .int (n0), .int (k0)] D L f sz) (hw_Q D L sz (fun oc L' f' => oc = .returned none ∧ L = L' ∧ Mg D L f' mm mc ml mg mw mr (nI (opBin σ r0 n0 k0).1) (opBin σ r0 n0 k0).2 wt ∧ Fo mm mc ml mg mw mr f f')) 0 0 (hw_A L sz) := by
  refine Met.ofW (cc := b_Mo_binomial) (maxL := 8) (ret := none) (by decide) rfl ?_
  intro p e s m args below meth c s₁ B hml hv
  obtain ⟨rfl, rfl, hI⟩ := hw_start hv
  clear hv
  have hx := B.exec
  have hb := B.bytes
  have hr := B.returns
  have hlocks := B.notSynchronized
  have hown : s.vm.findClass "WallFractionsModel" = some m.cls := findClass_of_methodNamed B.named
  have hT : ∀ w ∈ TT, w.before ([.ref (mm), .int (r0), .int (n0), .int (k0)]).toArray s = true := fun w h => atoms_spec (ws := (Cond.code y_Mo_binomial b_Mo_binomial 8 none :: TT)) B.pre w (List.mem_cons_of_mem _ h)
  have S : CallFix p m c b_Mo_binomial 8 s ([.ref (mm), .int (r0), .int (n0), .int (k0)]).toArray TT "WallFractionsModel" := ⟨hx, hb, hml, hown, hT⟩
  have hl := lv_entry ([.ref (mm), .int (r0), .int (n0), .int (k0)]) (n := 8) (Nat.le_of_ble_eq_true rfl)
  rw [lg_entry_eq]
  generalize (lg_sl ([.ref (mm), .int (r0), .int (n0), .int (k0)]) ++ List.replicate (8 - (lg_sl ([.ref (mm), .int (r0), .int (n0), .int (k0)])).length) Slot.unset).toArray = ls at hl ⊢
  have hl : lv_has ls 8 [(0, .ref (mm)), (1, .int (r0)), (2, .int (n0)), (3, .int (k0))] := hl
  skip
  obtain ⟨y, sn, rr, hn, hR⟩ := hM
  have hF : Fo mm mc ml mg mw mr f f := Fo.refl
  obtain ⟨cs, ns, hm, hc⟩ := id hn
  refine lv_aload_n hx hb d_Mo_binomial_0 rfl (lv_at hl 0 rfl) ?_
  refine lv_iload_n hx hb d_Mo_binomial_1 rfl (lv_at hl 1 rfl) ?_
  by_cases hr0 : vr r0 = true
  · refine hw_cS (As := [.int (r0)]) (rest := [.ref (mm)]) S hI m_Mo_isRegister w_799 (c_Mo_isRegister l D t0 L _ _ r0) hl.1 rfl rfl (Nat.le_of_ble_eq_true rfl) d_Mo_binomial_2 ⟨Nat.le_of_ble_eq_true rfl, Nat.le_of_ble_eq_true rfl⟩ ⟨Nat.le_of_ble_eq_true rfl, Nat.le_of_ble_eq_true rfl⟩ (fun v9 L9 f139 H locs hp hI => ?_)
    refine W.cs (cells' := 0) (slots' := 0) rfl rfl ?_
    obtain ⟨hv9, rfl, rfl⟩ := hp
    cases hv9
    refine hw_stk (st' := [.int (if vr r0 = true then nI 1 else nI 0), .ref (mm)]) rfl ?_
    refine hw_ti (show _ = nI 1 from by rw [if_pos hr0]) ?_
    refine hw_if_eq (tgt := 24) hx hb d_Mo_binomial_5 (by decide) (by decide) (fun c9 => absurd c9 (by decide)) (fun _ => ?_)
    refine lv_iload_n hx hb d_Mo_binomial_8 rfl (lv_at hl 2 rfl) ?_
    refine lv_i2l hx hb d_Mo_binomial_9 rfl ?_
    refine lv_lconst (v := lN 0) hx hb d_Mo_binomial_10 rfl ?_
    refine hw_ldc2 (v := lN 500) hx hb hown (hT _ w_903) d_Mo_binomial_11 ?_
    by_cases hn0 : inR n0 0 500 = true
    · refine hw_cS (As := [.long ((n0).toInt64), .long (lN 0), .long (lN 500)]) (rest := [.ref (mm)]) S hI m_Mo_in w_843 (c_Mo_in l D t0 L _ _ n0 0 500 (by omega) (by omega)) hl.1 rfl rfl (Nat.le_of_ble_eq_true rfl) d_Mo_binomial_14 ⟨Nat.le_of_ble_eq_true rfl, Nat.le_of_ble_eq_true rfl⟩ ⟨Nat.le_of_ble_eq_true rfl, Nat.le_of_ble_eq_true rfl⟩ (fun v9 L9 f142 H locs hp hI => ?_)
      refine W.cs (cells' := 0) (slots' := 0) rfl rfl ?_
      obtain ⟨hv9, rfl, rfl⟩ := hp
      cases hv9
      refine hw_stk (st' := [.int (if inR n0 0 500 = true then nI 1 else nI 0), .ref (mm)]) rfl ?_
      refine hw_ti (show _ = nI 1 from by rw [if_pos hn0]) ?_
      refine hw_if_eq (tgt := 24) hx hb d_Mo_binomial_17 (by decide) (by decide) (fun c9 => absurd c9 (by decide)) (fun _ => ?_)
      have hv : (vr r0 && inR n0 0 500) = true := by simp [hr0, hn0]
      refine lv_iconst (v := nI 0) hx hb d_Mo_binomial_20 (by decide) ?_
      refine lv_goto (tgt := 25) hx hb d_Mo_binomial_21 (by decide) ?_
      refine ob_put S hI hm.1 (fs' := [.int (nI 0), .ref (mc), .ref (ml), .ref (mg), .ref (mw), .ref (mr)]) (C := R_Mo) (T := F_Mo) (N := 6) (ref := "WallFractionsModel") rfl i_Mo t_Mo t_Mo_ok n_Mo 0 (by decide) rfl w_771 rfl rfl rfl (by simp only [List.length]; decide) rfl d_Mo_binomial_25 (fun f144 H locs hI hO9 hf144 => ?_)
      have hm := hm.umm hf144 hO9
      have hF := hF.umm hf144
      have hn := (⟨_, _, hm, hc⟩ : Mn D L _ mm mc ml mg mw mr _ _ _ _ _)
      refine lv_aload_n hx hb d_Mo_binomial_28 rfl (lv_at hl 0 rfl) ?_
      refine ob_get S hI hm.1 (C := R_Mo) (T := F_Mo) (N := 6) (ref := "WallFractionsModel") rfl i_Mo 0 (by decide) rfl w_771 rfl d_Mo_binomial_29 ?_
      refine hw_if_le (tgt := 36) hx hb d_Mo_binomial_32 (by decide) (by decide) (fun _ => ?_) (fun c9 => absurd c9 (by decide))
      obtain ⟨r, hr9, rfl⟩ := vr_nat hr0
      obtain ⟨n, _, hn9, rfl⟩ := inR_nat hn0 (by decide) (by decide)
      have h34 : 0 < 1 := by decide
      by_cases kn : k0 < 0
      · refine lv_aload_n hx hb d_Mo_binomial_36 rfl (lv_at hl 0 rfl) ?_
        refine lv_bipush (v := nI 32) hx hb d_Mo_binomial_37 (by decide) ?_
        refine lv_iload_n hx hb d_Mo_binomial_39 rfl (lv_at hl 3 rfl) ?_
        refine lv_if_lt (tgt := 48) hx hb d_Mo_binomial_40 (by decide) (fun _ => ?_) (fun c9 => absurd kn c9)
        have hch : chF n k0 = 0 := if_pos (Or.inl kn)
        have hck := chk hn9 (k := k0) (Or.inl kn)
        refine lv_lconst (v := lN 0) hx hb d_Mo_binomial_48 rfl ?_
        refine lv_goto (tgt := 53) hx hb d_Mo_binomial_49 (by decide) ?_
        refine hw_cV (As := [.int (nI 32), .long (lN 0)]) (rest := []) S hI m_Mo_setLong w_766 (c_Mo_setLong l D t0 L _ _ mm mc ml mg mw mr (nI 0) y sn wt rr 32 0 hn (by decide) (by decide)) hm.1 rfl hl.1 rfl rfl (Nat.le_of_ble_eq_true rfl) d_Mo_binomial_53 ⟨Nat.le_of_ble_eq_true rfl, Nat.le_of_ble_eq_true rfl⟩ ⟨Nat.le_of_ble_eq_true rfl, Nat.le_of_ble_eq_true rfl⟩ (fun v9 L9 f145 H locs hp hI => ?_)
        refine W.cs (cells' := 0) (slots' := 0) rfl rfl ?_
        obtain ⟨hv9, rfl, hn, hF9⟩ := hp
        cases hv9
        refine hw_stk (st' := []) rfl ?_
        have hF := hF.trans hF9
        obtain ⟨y146, ey⟩ : ∃ z9, z9 = va_up y 32 0 := ⟨_, rfl⟩
        rw [← ey] at hn
        have q32 : y146 32 = 0 := by rw [ey]; rw [hw_up_eq]
        have k32 := q32
        have hR : RM σ y146 sn := by rw [ey]; exact hR.up (by decide)
        obtain ⟨cs, ns, hm, hc⟩ := id hn
        refine lv_iload_n hx hb d_Mo_binomial_56 rfl (lv_at hl 3 rfl) ?_
        refine lv_iload_n hx hb d_Mo_binomial_57 rfl (lv_at hl 2 rfl) ?_
        refine lv_iload_n hx hb d_Mo_binomial_58 rfl (lv_at hl 3 rfl) ?_
        refine lv_isub hx hb d_Mo_binomial_59 ?_
        refine lv_icmp_le (tgt := 69) hx hb d_Mo_binomial_60 (by decide) (fun c147 => ?_) (fun c147 => ?_)
        · refine lv_iload_n hx hb d_Mo_binomial_69 rfl (lv_at hl 3 rfl) ?_
          refine lv_istore (lv' := [(4, .int (k0)), (0, .ref (mm)), (1, .int (nI r)), (2, .int (nI n)), (3, .int (k0))]) hx hb d_Mo_binomial_70 hl (by decide) rfl (fun ls hl => ?_)
          refine lv_iconst (v := nI 0) hx hb d_Mo_binomial_72 (by decide) ?_
          refine lv_istore (lv' := [(5, .int (nI 0)), (4, .int (k0)), (0, .ref (mm)), (1, .int (nI r)), (2, .int (nI n)), (3, .int (k0))]) hx hb d_Mo_binomial_73 hl (by decide) rfl (fun ls hl => ?_)
          refine lv_iload hx hb d_Mo_binomial_75 (lv_at hl 0 rfl) ?_
          refine lv_iload hx hb d_Mo_binomial_77 (lv_at hl 1 rfl) ?_
          have hm9 : k0 < 0 := by rw [if_neg (Int32.not_lt.mpr c147)] at hck; exact hck
          refine lv_icmp_ge (tgt := 118) hx hb d_Mo_binomial_79 (by decide) (fun _ => ?_) (fun c9 => absurd (Int32.le_of_lt hm9) c9)
          refine lv_aload_n hx hb d_Mo_binomial_118 rfl (lv_at hl 2 rfl) ?_
          refine lv_bipush (v := nI 34) hx hb d_Mo_binomial_119 (by decide) ?_
          refine lv_lconst (v := lN 1) hx hb d_Mo_binomial_121 rfl ?_
          refine hw_cV (As := [.int (nI 34), .long (lN 1)]) (rest := []) S hI m_Mo_setLong w_766 (c_Mo_setLong l D t0 L _ _ mm mc ml mg mw mr (nI 0) y146 sn wt rr 34 1 hn (by decide) (by decide)) hm.1 rfl hl.1 rfl rfl (Nat.le_of_ble_eq_true rfl) d_Mo_binomial_122 ⟨Nat.le_of_ble_eq_true rfl, Nat.le_of_ble_eq_true rfl⟩ ⟨Nat.le_of_ble_eq_true rfl, Nat.le_of_ble_eq_true rfl⟩ (fun v9 L9 f148 H locs hp hI => ?_)
          refine W.cs (cells' := 0) (slots' := 0) rfl rfl ?_
          obtain ⟨hv9, rfl, hn, hF9⟩ := hp
          cases hv9
          refine hw_stk (st' := []) rfl ?_
          have hF := hF.trans hF9
          obtain ⟨y149, ey⟩ : ∃ z9, z9 = va_up y146 34 1 := ⟨_, rfl⟩
          rw [← ey] at hn
          have q34 : y149 34 = 1 := by rw [ey]; rw [hw_up_eq]
          have q32 : y149 32 = 0 := by rw [ey, hw_up_ne (by decide)]; exact k32
          have k34 := q34
          have k32 := q32
          have hR : RM σ y149 sn := by rw [ey]; exact hR.up (by decide)
          obtain ⟨cs, ns, hm, hc⟩ := id hn
          refine lv_aload_n hx hb d_Mo_binomial_125 rfl (lv_at hl 2 rfl) ?_
          refine lv_aload_n hx hb d_Mo_binomial_126 rfl (lv_at hl 2 rfl) ?_
          refine lv_iload_n hx hb d_Mo_binomial_127 rfl (lv_at hl 3 rfl) ?_
          refine lv_iconst (v := nI 1) hx hb d_Mo_binomial_128 (by decide) ?_
          refine hw_cV (As := [.int (nI r), .int (nI 1)]) (rest := [.ref (mm)]) S hI m_Mo_finish w_802 (c_Mo_finish l D t0 L _ _ mm mc ml mg mw mr (nI 0) y149 sn wt rr σ r (nI 1) false hn hR hr9 (by rw [k34]; exact h34) (by rw [k32]; exact (fun _ => rfl))) hm.1 rfl hl.1 rfl rfl (Nat.le_of_ble_eq_true rfl) d_Mo_binomial_129 ⟨Nat.le_of_ble_eq_true rfl, Nat.le_of_ble_eq_true rfl⟩ ⟨Nat.le_of_ble_eq_true rfl, Nat.le_of_ble_eq_true rfl⟩ (fun v9 L9 f150 H locs hp hI => ?_)
          refine W.cs (cells' := 0) (slots' := 0) rfl rfl ?_
          obtain ⟨hv9, rfl, ⟨y9, sn9, hn, hR⟩, hF9⟩ := hp
          cases hv9
          refine hw_stk (st' := [.int (if fitR (lows (y149 32) (y149 34) false) = true then nI 1 else nI 0), .ref (mm)]) rfl ?_
          have hF := hF.trans hF9
          rw [k32, k34] at hR
          obtain ⟨cs, ns, hm, hc⟩ := id hn
          by_cases hfit : fitR (lows 0 1 false) = true
          · refine hw_ti (show _ = nI 1 from by rw [k32, k34, if_pos hfit]) ?_
            rw [if_pos hfit] at hR
            refine hw_if_eq (tgt := 139) hx hb d_Mo_binomial_132 (by decide) (by decide) (fun c9 => absurd c9 (by decide)) (fun _ => ?_)
            refine lv_iconst (v := nI 0) hx hb d_Mo_binomial_135 (by decide) ?_
            refine lv_goto (tgt := 140) hx hb d_Mo_binomial_136 (by decide) ?_
            refine ob_put S hI hm.1 (fs' := [.int (nI 0), .ref (mc), .ref (ml), .ref (mg), .ref (mw), .ref (mr)]) (C := R_Mo) (T := F_Mo) (N := 6) (ref := "WallFractionsModel") rfl i_Mo t_Mo t_Mo_ok n_Mo 0 (by decide) rfl w_771 rfl rfl rfl (by simp only [List.length]; decide) rfl d_Mo_binomial_140 (fun f151 H locs hI hO9 hf151 => ?_)
            have hm := hm.umm hf151 hO9
            have hF := hF.umm hf151
            have hn := (⟨_, _, hm, hc⟩ : Mn D L _ mm mc ml mg mw mr _ _ _ _ _)
            exact hw_vret hx hb hr hlocks hI d_Mo_binomial_143 ⟨rfl, rfl, by rw [show opBin σ (nI r) (nI n) k0 = (0, va_up σ r (lows 0 1 false)) from by unfold opBin; rw [if_pos hv, putR_eq, ix_nI (by omega), nI_clamp (by omega), hch, ← lows_one, if_pos hfit]]; exact ⟨_, _, _, hn, hR⟩, hF⟩
          · refine hw_ti (show _ = nI 0 from by rw [k32, k34, if_neg hfit]) ?_
            rw [if_neg hfit] at hR
            refine hw_if_eq (tgt := 139) hx hb d_Mo_binomial_132 (by decide) (by decide) (fun _ => ?_) (fun c9 => absurd c9 (by decide))
            refine lv_iconst (v := nI 2) hx hb d_Mo_binomial_139 (by decide) ?_
            refine ob_put S hI hm.1 (fs' := [.int (nI 2), .ref (mc), .ref (ml), .ref (mg), .ref (mw), .ref (mr)]) (C := R_Mo) (T := F_Mo) (N := 6) (ref := "WallFractionsModel") rfl i_Mo t_Mo t_Mo_ok n_Mo 0 (by decide) rfl w_771 rfl rfl rfl (by simp only [List.length]; decide) rfl d_Mo_binomial_140 (fun f152 H locs hI hO9 hf152 => ?_)
            have hm := hm.umm hf152 hO9
            have hF := hF.umm hf152
            have hn := (⟨_, _, hm, hc⟩ : Mn D L _ mm mc ml mg mw mr _ _ _ _ _)
            exact hw_vret hx hb hr hlocks hI d_Mo_binomial_143 ⟨rfl, rfl, by rw [show opBin σ (nI r) (nI n) k0 = (2, σ) from by unfold opBin; rw [if_pos hv, putR_eq, ix_nI (by omega), nI_clamp (by omega), hch, ← lows_one, if_neg hfit]]; exact ⟨_, _, _, hn, hR⟩, hF⟩
        · refine lv_iload_n hx hb d_Mo_binomial_63 rfl (lv_at hl 2 rfl) ?_
          refine lv_iload_n hx hb d_Mo_binomial_64 rfl (lv_at hl 3 rfl) ?_
          refine lv_isub hx hb d_Mo_binomial_65 ?_
          refine lv_goto (tgt := 70) hx hb d_Mo_binomial_66 (by decide) ?_
          refine lv_istore (lv' := [(4, .int ((nI n) - k0)), (0, .ref (mm)), (1, .int (nI r)), (2, .int (nI n)), (3, .int (k0))]) hx hb d_Mo_binomial_70 hl (by decide) rfl (fun ls hl => ?_)
          refine lv_iconst (v := nI 0) hx hb d_Mo_binomial_72 (by decide) ?_
          refine lv_istore (lv' := [(5, .int (nI 0)), (4, .int ((nI n) - k0)), (0, .ref (mm)), (1, .int (nI r)), (2, .int (nI n)), (3, .int (k0))]) hx hb d_Mo_binomial_73 hl (by decide) rfl (fun ls hl => ?_)
          refine lv_iload hx hb d_Mo_binomial_75 (lv_at hl 0 rfl) ?_
          refine lv_iload hx hb d_Mo_binomial_77 (lv_at hl 1 rfl) ?_
          have hm9 : (nI n) - k0 < 0 := by rw [if_pos (Int32.not_le.mp c147)] at hck; exact hck
          refine lv_icmp_ge (tgt := 118) hx hb d_Mo_binomial_79 (by decide) (fun _ => ?_) (fun c9 => absurd (Int32.le_of_lt hm9) c9)
          refine lv_aload_n hx hb d_Mo_binomial_118 rfl (lv_at hl 2 rfl) ?_
          refine lv_bipush (v := nI 34) hx hb d_Mo_binomial_119 (by decide) ?_
          refine lv_lconst (v := lN 1) hx hb d_Mo_binomial_121 rfl ?_
          refine hw_cV (As := [.int (nI 34), .long (lN 1)]) (rest := []) S hI m_Mo_setLong w_766 (c_Mo_setLong l D t0 L _ _ mm mc ml mg mw mr (nI 0) y146 sn wt rr 34 1 hn (by decide) (by decide)) hm.1 rfl hl.1 rfl rfl (Nat.le_of_ble_eq_true rfl) d_Mo_binomial_122 ⟨Nat.le_of_ble_eq_true rfl, Nat.le_of_ble_eq_true rfl⟩ ⟨Nat.le_of_ble_eq_true rfl, Nat.le_of_ble_eq_true rfl⟩ (fun v9 L9 f153 H locs hp hI => ?_)
          refine W.cs (cells' := 0) (slots' := 0) rfl rfl ?_
          obtain ⟨hv9, rfl, hn, hF9⟩ := hp
          cases hv9
          refine hw_stk (st' := []) rfl ?_
          have hF := hF.trans hF9
          obtain ⟨y154, ey⟩ : ∃ z9, z9 = va_up y146 34 1 := ⟨_, rfl⟩
          rw [← ey] at hn
          have q34 : y154 34 = 1 := by rw [ey]; rw [hw_up_eq]
          have q32 : y154 32 = 0 := by rw [ey, hw_up_ne (by decide)]; exact k32
          have k34 := q34
          have k32 := q32
          have hR : RM σ y154 sn := by rw [ey]; exact hR.up (by decide)
          obtain ⟨cs, ns, hm, hc⟩ := id hn
          refine lv_aload_n hx hb d_Mo_binomial_125 rfl (lv_at hl 2 rfl) ?_
          refine lv_aload_n hx hb d_Mo_binomial_126 rfl (lv_at hl 2 rfl) ?_
          refine lv_iload_n hx hb d_Mo_binomial_127 rfl (lv_at hl 3 rfl) ?_
          refine lv_iconst (v := nI 1) hx hb d_Mo_binomial_128 (by decide) ?_
          refine hw_cV (As := [.int (nI r), .int (nI 1)]) (rest := [.ref (mm)]) S hI m_Mo_finish w_802 (c_Mo_finish l D t0 L _ _ mm mc ml mg mw mr (nI 0) y154 sn wt rr σ r (nI 1) false hn hR hr9 (by rw [k34]; exact h34) (by rw [k32]; exact (fun _ => rfl))) hm.1 rfl hl.1 rfl rfl (Nat.le_of_ble_eq_true rfl) d_Mo_binomial_129 ⟨Nat.le_of_ble_eq_true rfl, Nat.le_of_ble_eq_true rfl⟩ ⟨Nat.le_of_ble_eq_true rfl, Nat.le_of_ble_eq_true rfl⟩ (fun v9 L9 f155 H locs hp hI => ?_)
          refine W.cs (cells' := 0) (slots' := 0) rfl rfl ?_
          obtain ⟨hv9, rfl, ⟨y9, sn9, hn, hR⟩, hF9⟩ := hp
          cases hv9
          refine hw_stk (st' := [.int (if fitR (lows (y154 32) (y154 34) false) = true then nI 1 else nI 0), .ref (mm)]) rfl ?_
          have hF := hF.trans hF9
          rw [k32, k34] at hR
          obtain ⟨cs, ns, hm, hc⟩ := id hn
          by_cases hfit : fitR (lows 0 1 false) = true
          · refine hw_ti (show _ = nI 1 from by rw [k32, k34, if_pos hfit]) ?_
            rw [if_pos hfit] at hR
            refine hw_if_eq (tgt := 139) hx hb d_Mo_binomial_132 (by decide) (by decide) (fun c9 => absurd c9 (by decide)) (fun _ => ?_)
            refine lv_iconst (v := nI 0) hx hb d_Mo_binomial_135 (by decide) ?_
            refine lv_goto (tgt := 140) hx hb d_Mo_binomial_136 (by decide) ?_
            refine ob_put S hI hm.1 (fs' := [.int (nI 0), .ref (mc), .ref (ml), .ref (mg), .ref (mw), .ref (mr)]) (C := R_Mo) (T := F_Mo) (N := 6) (ref := "WallFractionsModel") rfl i_Mo t_Mo t_Mo_ok n_Mo 0 (by decide) rfl w_771 rfl rfl rfl (by simp only [List.length]; decide) rfl d_Mo_binomial_140 (fun f156 H locs hI hO9 hf156 => ?_)
            have hm := hm.umm hf156 hO9
            have hF := hF.umm hf156
            have hn := (⟨_, _, hm, hc⟩ : Mn D L _ mm mc ml mg mw mr _ _ _ _ _)
            exact hw_vret hx hb hr hlocks hI d_Mo_binomial_143 ⟨rfl, rfl, by rw [show opBin σ (nI r) (nI n) k0 = (0, va_up σ r (lows 0 1 false)) from by unfold opBin; rw [if_pos hv, putR_eq, ix_nI (by omega), nI_clamp (by omega), hch, ← lows_one, if_pos hfit]]; exact ⟨_, _, _, hn, hR⟩, hF⟩
          · refine hw_ti (show _ = nI 0 from by rw [k32, k34, if_neg hfit]) ?_
            rw [if_neg hfit] at hR
            refine hw_if_eq (tgt := 139) hx hb d_Mo_binomial_132 (by decide) (by decide) (fun _ => ?_) (fun c9 => absurd c9 (by decide))
            refine lv_iconst (v := nI 2) hx hb d_Mo_binomial_139 (by decide) ?_
            refine ob_put S hI hm.1 (fs' := [.int (nI 2), .ref (mc), .ref (ml), .ref (mg), .ref (mw), .ref (mr)]) (C := R_Mo) (T := F_Mo) (N := 6) (ref := "WallFractionsModel") rfl i_Mo t_Mo t_Mo_ok n_Mo 0 (by decide) rfl w_771 rfl rfl rfl (by simp only [List.length]; decide) rfl d_Mo_binomial_140 (fun f157 H locs hI hO9 hf157 => ?_)
            have hm := hm.umm hf157 hO9
            have hF := hF.umm hf157
            have hn := (⟨_, _, hm, hc⟩ : Mn D L _ mm mc ml mg mw mr _ _ _ _ _)
            exact hw_vret hx hb hr hlocks hI d_Mo_binomial_143 ⟨rfl, rfl, by rw [show opBin σ (nI r) (nI n) k0 = (2, σ) from by unfold opBin; rw [if_pos hv, putR_eq, ix_nI (by omega), nI_clamp (by omega), hch, ← lows_one, if_neg hfit]]; exact ⟨_, _, _, hn, hR⟩, hF⟩
      · refine lv_aload_n hx hb d_Mo_binomial_36 rfl (lv_at hl 0 rfl) ?_
        refine lv_bipush (v := nI 32) hx hb d_Mo_binomial_37 (by decide) ?_
        refine lv_iload_n hx hb d_Mo_binomial_39 rfl (lv_at hl 3 rfl) ?_
        refine lv_if_lt (tgt := 48) hx hb d_Mo_binomial_40 (by decide) (fun c9 => absurd c9 kn) (fun _ => ?_)
        refine lv_iload_n hx hb d_Mo_binomial_43 rfl (lv_at hl 3 rfl) ?_
        refine lv_iload_n hx hb d_Mo_binomial_44 rfl (lv_at hl 2 rfl) ?_
        by_cases kg : nI n < k0
        · refine lv_icmp_le (tgt := 52) hx hb d_Mo_binomial_45 (by decide) (fun c9 => absurd c9 (Int32.not_le.mpr kg)) (fun _ => ?_)
          have hch : chF n k0 = 0 := if_pos (Or.inr kg)
          have hck := chk hn9 (k := k0) (Or.inr (i32_gt hn9 kg))
          refine lv_lconst (v := lN 0) hx hb d_Mo_binomial_48 rfl ?_
          refine lv_goto (tgt := 53) hx hb d_Mo_binomial_49 (by decide) ?_
          refine hw_cV (As := [.int (nI 32), .long (lN 0)]) (rest := []) S hI m_Mo_setLong w_766 (c_Mo_setLong l D t0 L _ _ mm mc ml mg mw mr (nI 0) y sn wt rr 32 0 hn (by decide) (by decide)) hm.1 rfl hl.1 rfl rfl (Nat.le_of_ble_eq_true rfl) d_Mo_binomial_53 ⟨Nat.le_of_ble_eq_true rfl, Nat.le_of_ble_eq_true rfl⟩ ⟨Nat.le_of_ble_eq_true rfl, Nat.le_of_ble_eq_true rfl⟩ (fun v9 L9 f158 H locs hp hI => ?_)
          refine W.cs (cells' := 0) (slots' := 0) rfl rfl ?_
          obtain ⟨hv9, rfl, hn, hF9⟩ := hp
          cases hv9
          refine hw_stk (st' := []) rfl ?_
          have hF := hF.trans hF9
          obtain ⟨y159, ey⟩ : ∃ z9, z9 = va_up y 32 0 := ⟨_, rfl⟩
          rw [← ey] at hn
          have q32 : y159 32 = 0 := by rw [ey]; rw [hw_up_eq]
          have k32 := q32
          have hR : RM σ y159 sn := by rw [ey]; exact hR.up (by decide)
          obtain ⟨cs, ns, hm, hc⟩ := id hn
          refine lv_iload_n hx hb d_Mo_binomial_56 rfl (lv_at hl 3 rfl) ?_
          refine lv_iload_n hx hb d_Mo_binomial_57 rfl (lv_at hl 2 rfl) ?_
          refine lv_iload_n hx hb d_Mo_binomial_58 rfl (lv_at hl 3 rfl) ?_
          refine lv_isub hx hb d_Mo_binomial_59 ?_
          refine lv_icmp_le (tgt := 69) hx hb d_Mo_binomial_60 (by decide) (fun c160 => ?_) (fun c160 => ?_)
          · refine lv_iload_n hx hb d_Mo_binomial_69 rfl (lv_at hl 3 rfl) ?_
            refine lv_istore (lv' := [(4, .int (k0)), (0, .ref (mm)), (1, .int (nI r)), (2, .int (nI n)), (3, .int (k0))]) hx hb d_Mo_binomial_70 hl (by decide) rfl (fun ls hl => ?_)
            refine lv_iconst (v := nI 0) hx hb d_Mo_binomial_72 (by decide) ?_
            refine lv_istore (lv' := [(5, .int (nI 0)), (4, .int (k0)), (0, .ref (mm)), (1, .int (nI r)), (2, .int (nI n)), (3, .int (k0))]) hx hb d_Mo_binomial_73 hl (by decide) rfl (fun ls hl => ?_)
            refine lv_iload hx hb d_Mo_binomial_75 (lv_at hl 0 rfl) ?_
            refine lv_iload hx hb d_Mo_binomial_77 (lv_at hl 1 rfl) ?_
            have hm9 : k0 < 0 := by rw [if_neg (Int32.not_lt.mpr c160)] at hck; exact hck
            refine lv_icmp_ge (tgt := 118) hx hb d_Mo_binomial_79 (by decide) (fun _ => ?_) (fun c9 => absurd (Int32.le_of_lt hm9) c9)
            refine lv_aload_n hx hb d_Mo_binomial_118 rfl (lv_at hl 2 rfl) ?_
            refine lv_bipush (v := nI 34) hx hb d_Mo_binomial_119 (by decide) ?_
            refine lv_lconst (v := lN 1) hx hb d_Mo_binomial_121 rfl ?_
            refine hw_cV (As := [.int (nI 34), .long (lN 1)]) (rest := []) S hI m_Mo_setLong w_766 (c_Mo_setLong l D t0 L _ _ mm mc ml mg mw mr (nI 0) y159 sn wt rr 34 1 hn (by decide) (by decide)) hm.1 rfl hl.1 rfl rfl (Nat.le_of_ble_eq_true rfl) d_Mo_binomial_122 ⟨Nat.le_of_ble_eq_true rfl, Nat.le_of_ble_eq_true rfl⟩ ⟨Nat.le_of_ble_eq_true rfl, Nat.le_of_ble_eq_true rfl⟩ (fun v9 L9 f161 H locs hp hI => ?_)
            refine W.cs (cells' := 0) (slots' := 0) rfl rfl ?_
            obtain ⟨hv9, rfl, hn, hF9⟩ := hp
            cases hv9
            refine hw_stk (st' := []) rfl ?_
            have hF := hF.trans hF9
            obtain ⟨y162, ey⟩ : ∃ z9, z9 = va_up y159 34 1 := ⟨_, rfl⟩
            rw [← ey] at hn
            have q34 : y162 34 = 1 := by rw [ey]; rw [hw_up_eq]
            have q32 : y162 32 = 0 := by rw [ey, hw_up_ne (by decide)]; exact k32
            have k34 := q34
            have k32 := q32
            have hR : RM σ y162 sn := by rw [ey]; exact hR.up (by decide)
            obtain ⟨cs, ns, hm, hc⟩ := id hn
            refine lv_aload_n hx hb d_Mo_binomial_125 rfl (lv_at hl 2 rfl) ?_
            refine lv_aload_n hx hb d_Mo_binomial_126 rfl (lv_at hl 2 rfl) ?_
            refine lv_iload_n hx hb d_Mo_binomial_127 rfl (lv_at hl 3 rfl) ?_
            refine lv_iconst (v := nI 1) hx hb d_Mo_binomial_128 (by decide) ?_
            refine hw_cV (As := [.int (nI r), .int (nI 1)]) (rest := [.ref (mm)]) S hI m_Mo_finish w_802 (c_Mo_finish l D t0 L _ _ mm mc ml mg mw mr (nI 0) y162 sn wt rr σ r (nI 1) false hn hR hr9 (by rw [k34]; exact h34) (by rw [k32]; exact (fun _ => rfl))) hm.1 rfl hl.1 rfl rfl (Nat.le_of_ble_eq_true rfl) d_Mo_binomial_129 ⟨Nat.le_of_ble_eq_true rfl, Nat.le_of_ble_eq_true rfl⟩ ⟨Nat.le_of_ble_eq_true rfl, Nat.le_of_ble_eq_true rfl⟩ (fun v9 L9 f163 H locs hp hI => ?_)
            refine W.cs (cells' := 0) (slots' := 0) rfl rfl ?_
            obtain ⟨hv9, rfl, ⟨y9, sn9, hn, hR⟩, hF9⟩ := hp
            cases hv9
            refine hw_stk (st' := [.int (if fitR (lows (y162 32) (y162 34) false) = true then nI 1 else nI 0), .ref (mm)]) rfl ?_
            have hF := hF.trans hF9
            rw [k32, k34] at hR
            obtain ⟨cs, ns, hm, hc⟩ := id hn
            by_cases hfit : fitR (lows 0 1 false) = true
            · refine hw_ti (show _ = nI 1 from by rw [k32, k34, if_pos hfit]) ?_
              rw [if_pos hfit] at hR
              refine hw_if_eq (tgt := 139) hx hb d_Mo_binomial_132 (by decide) (by decide) (fun c9 => absurd c9 (by decide)) (fun _ => ?_)
              refine lv_iconst (v := nI 0) hx hb d_Mo_binomial_135 (by decide) ?_
              refine lv_goto (tgt := 140) hx hb d_Mo_binomial_136 (by decide) ?_
              refine ob_put S hI hm.1 (fs' := [.int (nI 0), .ref (mc), .ref (ml), .ref (mg), .ref (mw), .ref (mr)]) (C := R_Mo) (T := F_Mo) (N := 6) (ref := "WallFractionsModel") rfl i_Mo t_Mo t_Mo_ok n_Mo 0 (by decide) rfl w_771 rfl rfl rfl (by simp only [List.length]; decide) rfl d_Mo_binomial_140 (fun f164 H locs hI hO9 hf164 => ?_)
              have hm := hm.umm hf164 hO9
              have hF := hF.umm hf164
              have hn := (⟨_, _, hm, hc⟩ : Mn D L _ mm mc ml mg mw mr _ _ _ _ _)
              exact hw_vret hx hb hr hlocks hI d_Mo_binomial_143 ⟨rfl, rfl, by rw [show opBin σ (nI r) (nI n) k0 = (0, va_up σ r (lows 0 1 false)) from by unfold opBin; rw [if_pos hv, putR_eq, ix_nI (by omega), nI_clamp (by omega), hch, ← lows_one, if_pos hfit]]; exact ⟨_, _, _, hn, hR⟩, hF⟩
            · refine hw_ti (show _ = nI 0 from by rw [k32, k34, if_neg hfit]) ?_
              rw [if_neg hfit] at hR
              refine hw_if_eq (tgt := 139) hx hb d_Mo_binomial_132 (by decide) (by decide) (fun _ => ?_) (fun c9 => absurd c9 (by decide))
              refine lv_iconst (v := nI 2) hx hb d_Mo_binomial_139 (by decide) ?_
              refine ob_put S hI hm.1 (fs' := [.int (nI 2), .ref (mc), .ref (ml), .ref (mg), .ref (mw), .ref (mr)]) (C := R_Mo) (T := F_Mo) (N := 6) (ref := "WallFractionsModel") rfl i_Mo t_Mo t_Mo_ok n_Mo 0 (by decide) rfl w_771 rfl rfl rfl (by simp only [List.length]; decide) rfl d_Mo_binomial_140 (fun f165 H locs hI hO9 hf165 => ?_)
              have hm := hm.umm hf165 hO9
              have hF := hF.umm hf165
              have hn := (⟨_, _, hm, hc⟩ : Mn D L _ mm mc ml mg mw mr _ _ _ _ _)
              exact hw_vret hx hb hr hlocks hI d_Mo_binomial_143 ⟨rfl, rfl, by rw [show opBin σ (nI r) (nI n) k0 = (2, σ) from by unfold opBin; rw [if_pos hv, putR_eq, ix_nI (by omega), nI_clamp (by omega), hch, ← lows_one, if_neg hfit]]; exact ⟨_, _, _, hn, hR⟩, hF⟩
          · refine lv_iload_n hx hb d_Mo_binomial_63 rfl (lv_at hl 2 rfl) ?_
            refine lv_iload_n hx hb d_Mo_binomial_64 rfl (lv_at hl 3 rfl) ?_
            refine lv_isub hx hb d_Mo_binomial_65 ?_
            refine lv_goto (tgt := 70) hx hb d_Mo_binomial_66 (by decide) ?_
            refine lv_istore (lv' := [(4, .int ((nI n) - k0)), (0, .ref (mm)), (1, .int (nI r)), (2, .int (nI n)), (3, .int (k0))]) hx hb d_Mo_binomial_70 hl (by decide) rfl (fun ls hl => ?_)
            refine lv_iconst (v := nI 0) hx hb d_Mo_binomial_72 (by decide) ?_
            refine lv_istore (lv' := [(5, .int (nI 0)), (4, .int ((nI n) - k0)), (0, .ref (mm)), (1, .int (nI r)), (2, .int (nI n)), (3, .int (k0))]) hx hb d_Mo_binomial_73 hl (by decide) rfl (fun ls hl => ?_)
            refine lv_iload hx hb d_Mo_binomial_75 (lv_at hl 0 rfl) ?_
            refine lv_iload hx hb d_Mo_binomial_77 (lv_at hl 1 rfl) ?_
            have hm9 : (nI n) - k0 < 0 := by rw [if_pos (Int32.not_le.mp c160)] at hck; exact hck
            refine lv_icmp_ge (tgt := 118) hx hb d_Mo_binomial_79 (by decide) (fun _ => ?_) (fun c9 => absurd (Int32.le_of_lt hm9) c9)
            refine lv_aload_n hx hb d_Mo_binomial_118 rfl (lv_at hl 2 rfl) ?_
            refine lv_bipush (v := nI 34) hx hb d_Mo_binomial_119 (by decide) ?_
            refine lv_lconst (v := lN 1) hx hb d_Mo_binomial_121 rfl ?_
            refine hw_cV (As := [.int (nI 34), .long (lN 1)]) (rest := []) S hI m_Mo_setLong w_766 (c_Mo_setLong l D t0 L _ _ mm mc ml mg mw mr (nI 0) y159 sn wt rr 34 1 hn (by decide) (by decide)) hm.1 rfl hl.1 rfl rfl (Nat.le_of_ble_eq_true rfl) d_Mo_binomial_122 ⟨Nat.le_of_ble_eq_true rfl, Nat.le_of_ble_eq_true rfl⟩ ⟨Nat.le_of_ble_eq_true rfl, Nat.le_of_ble_eq_true rfl⟩ (fun v9 L9 f166 H locs hp hI => ?_)
            refine W.cs (cells' := 0) (slots' := 0) rfl rfl ?_
            obtain ⟨hv9, rfl, hn, hF9⟩ := hp
            cases hv9
            refine hw_stk (st' := []) rfl ?_
            have hF := hF.trans hF9
            obtain ⟨y167, ey⟩ : ∃ z9, z9 = va_up y159 34 1 := ⟨_, rfl⟩
            rw [← ey] at hn
            have q34 : y167 34 = 1 := by rw [ey]; rw [hw_up_eq]
            have q32 : y167 32 = 0 := by rw [ey, hw_up_ne (by decide)]; exact k32
            have k34 := q34
            have k32 := q32
            have hR : RM σ y167 sn := by rw [ey]; exact hR.up (by decide)
            obtain ⟨cs, ns, hm, hc⟩ := id hn
            refine lv_aload_n hx hb d_Mo_binomial_125 rfl (lv_at hl 2 rfl) ?_
            refine lv_aload_n hx hb d_Mo_binomial_126 rfl (lv_at hl 2 rfl) ?_
            refine lv_iload_n hx hb d_Mo_binomial_127 rfl (lv_at hl 3 rfl) ?_
            refine lv_iconst (v := nI 1) hx hb d_Mo_binomial_128 (by decide) ?_
            refine hw_cV (As := [.int (nI r), .int (nI 1)]) (rest := [.ref (mm)]) S hI m_Mo_finish w_802 (c_Mo_finish l D t0 L _ _ mm mc ml mg mw mr (nI 0) y167 sn wt rr σ r (nI 1) false hn hR hr9 (by rw [k34]; exact h34) (by rw [k32]; exact (fun _ => rfl))) hm.1 rfl hl.1 rfl rfl (Nat.le_of_ble_eq_true rfl) d_Mo_binomial_129 ⟨Nat.le_of_ble_eq_true rfl, Nat.le_of_ble_eq_true rfl⟩ ⟨Nat.le_of_ble_eq_true rfl, Nat.le_of_ble_eq_true rfl⟩ (fun v9 L9 f168 H locs hp hI => ?_)
            refine W.cs (cells' := 0) (slots' := 0) rfl rfl ?_
            obtain ⟨hv9, rfl, ⟨y9, sn9, hn, hR⟩, hF9⟩ := hp
            cases hv9
            refine hw_stk (st' := [.int (if fitR (lows (y167 32) (y167 34) false) = true then nI 1 else nI 0), .ref (mm)]) rfl ?_
            have hF := hF.trans hF9
            rw [k32, k34] at hR
            obtain ⟨cs, ns, hm, hc⟩ := id hn
            by_cases hfit : fitR (lows 0 1 false) = true
            · refine hw_ti (show _ = nI 1 from by rw [k32, k34, if_pos hfit]) ?_
              rw [if_pos hfit] at hR
              refine hw_if_eq (tgt := 139) hx hb d_Mo_binomial_132 (by decide) (by decide) (fun c9 => absurd c9 (by decide)) (fun _ => ?_)
              refine lv_iconst (v := nI 0) hx hb d_Mo_binomial_135 (by decide) ?_
              refine lv_goto (tgt := 140) hx hb d_Mo_binomial_136 (by decide) ?_
              refine ob_put S hI hm.1 (fs' := [.int (nI 0), .ref (mc), .ref (ml), .ref (mg), .ref (mw), .ref (mr)]) (C := R_Mo) (T := F_Mo) (N := 6) (ref := "WallFractionsModel") rfl i_Mo t_Mo t_Mo_ok n_Mo 0 (by decide) rfl w_771 rfl rfl rfl (by simp only [List.length]; decide) rfl d_Mo_binomial_140 (fun f169 H locs hI hO9 hf169 => ?_)
              have hm := hm.umm hf169 hO9
              have hF := hF.umm hf169
              have hn := (⟨_, _, hm, hc⟩ : Mn D L _ mm mc ml mg mw mr _ _ _ _ _)
              exact hw_vret hx hb hr hlocks hI d_Mo_binomial_143 ⟨rfl, rfl, by rw [show opBin σ (nI r) (nI n) k0 = (0, va_up σ r (lows 0 1 false)) from by unfold opBin; rw [if_pos hv, putR_eq, ix_nI (by omega), nI_clamp (by omega), hch, ← lows_one, if_pos hfit]]; exact ⟨_, _, _, hn, hR⟩, hF⟩
            · refine hw_ti (show _ = nI 0 from by rw [k32, k34, if_neg hfit]) ?_
              rw [if_neg hfit] at hR
              refine hw_if_eq (tgt := 139) hx hb d_Mo_binomial_132 (by decide) (by decide) (fun _ => ?_) (fun c9 => absurd c9 (by decide))
              refine lv_iconst (v := nI 2) hx hb d_Mo_binomial_139 (by decide) ?_
              refine ob_put S hI hm.1 (fs' := [.int (nI 2), .ref (mc), .ref (ml), .ref (mg), .ref (mw), .ref (mr)]) (C := R_Mo) (T := F_Mo) (N := 6) (ref := "WallFractionsModel") rfl i_Mo t_Mo t_Mo_ok n_Mo 0 (by decide) rfl w_771 rfl rfl rfl (by simp only [List.length]; decide) rfl d_Mo_binomial_140 (fun f170 H locs hI hO9 hf170 => ?_)
              have hm := hm.umm hf170 hO9
              have hF := hF.umm hf170
              have hn := (⟨_, _, hm, hc⟩ : Mn D L _ mm mc ml mg mw mr _ _ _ _ _)
              exact hw_vret hx hb hr hlocks hI d_Mo_binomial_143 ⟨rfl, rfl, by rw [show opBin σ (nI r) (nI n) k0 = (2, σ) from by unfold opBin; rw [if_pos hv, putR_eq, ix_nI (by omega), nI_clamp (by omega), hch, ← lows_one, if_neg hfit]]; exact ⟨_, _, _, hn, hR⟩, hF⟩
        · refine lv_icmp_le (tgt := 52) hx hb d_Mo_binomial_45 (by decide) (fun _ => ?_) (fun c9 => absurd (Int32.not_lt.mp kg) c9)
          obtain ⟨k, hk9, rfl⟩ := i32_nat hn9 kn kg
          have hch : chF n (nI k) = ch n k := by unfold chF; rw [if_neg (fun h => h.elim kn kg), nI_clamp (by omega)]
          refine lv_lconst (v := lN 1) hx hb d_Mo_binomial_52 rfl ?_
          refine hw_cV (As := [.int (nI 32), .long (lN 1)]) (rest := []) S hI m_Mo_setLong w_766 (c_Mo_setLong l D t0 L _ _ mm mc ml mg mw mr (nI 0) y sn wt rr 32 1 hn (by decide) (by decide)) hm.1 rfl hl.1 rfl rfl (Nat.le_of_ble_eq_true rfl) d_Mo_binomial_53 ⟨Nat.le_of_ble_eq_true rfl, Nat.le_of_ble_eq_true rfl⟩ ⟨Nat.le_of_ble_eq_true rfl, Nat.le_of_ble_eq_true rfl⟩ (fun v9 L9 f171 H locs hp hI => ?_)
          refine W.cs (cells' := 0) (slots' := 0) rfl rfl ?_
          obtain ⟨hv9, rfl, hn, hF9⟩ := hp
          cases hv9
          refine hw_stk (st' := []) rfl ?_
          have hF := hF.trans hF9
          obtain ⟨y172, ey⟩ : ∃ z9, z9 = va_up y 32 1 := ⟨_, rfl⟩
          rw [← ey] at hn
          have q32 : y172 32 = 1 := by rw [ey]; rw [hw_up_eq]
          have k32 := q32
          have hR : RM σ y172 sn := by rw [ey]; exact hR.up (by decide)
          obtain ⟨cs, ns, hm, hc⟩ := id hn
          have hmm : ∀ m : Nat, m = m := fun _ => rfl
          have loop : ∀ (m0 g t : Nat) (y1 : Nat → Nat) (f1 : Nat → va_E) (H : Heap) (locs : List Loc) (ls : Array Slot), t + g = m0 → m0 ≤ n → ch n m0 = ch n k → y1 32 = ch n t → RM σ y1 sn → Mn D L f1 mm mc ml mg mw mr (nI 0) y1 sn wt rr → Fo mm mc ml mg mw mr f f1 → hw_I D t0 (hw_A L s.heap.size) s L f1 H locs → lv_has ls 8 [(5, .int (nI t)), (4, .int (nI m0)), (3, .int (nI k)), (2, .int (nI n)), (1, .int (nI r)), (0, .ref (mm))] → W p l e (headSpec (Cond.code y_Mo_binomial b_Mo_binomial 8 none :: TT) ({ frames := 5, cells := 0, slots := 0, locals := 131 } : Room)).room s m ([.ref (mm), .int ((nI r)), .int ((nI n)), .int ((nI k))]).toArray below meth c H locs 0 0 (MQ below (hw_Q D L s.heap.size (fun oc L' f' => oc = .returned none ∧ L = L' ∧ Mg D L f' mm mc ml mg mw mr (nI (opBin σ (nI r) (nI n) (nI k)).1) (opBin σ (nI r) (nI n) (nI k)).2 wt ∧ Fo mm mc ml mg mw mr f f')) ([.ref (mm), .int ((nI r)), .int ((nI n)), .int ((nI k))]).toArray s 0 0 (hw_A L s.heap.size)) (F0 m 75 ls []) := by
            intro m0 g
            induction g with
            | zero =>
              intro t y1 f1 H locs ls htg hmn hcm k32 hR hn hF hI hl
              obtain ⟨cs, ns, hm, hc⟩ := id hn
              refine lv_iload hx hb d_Mo_binomial_75 (lv_at hl 0 rfl) ?_
              refine lv_iload hx hb d_Mo_binomial_77 (lv_at hl 1 rfl) ?_
              refine hw_icmp_ge (tgt := 118) hx hb d_Mo_binomial_79 (by decide) (by omega) (by omega) (fun _ => ?_) (fun c9 => absurd c9 (by omega))
              have ht : t = m0 := by omega
              rw [ht, hcm] at k32
              refine lv_aload_n hx hb d_Mo_binomial_118 rfl (lv_at hl 5 rfl) ?_
              refine lv_bipush (v := nI 34) hx hb d_Mo_binomial_119 (by decide) ?_
              refine lv_lconst (v := lN 1) hx hb d_Mo_binomial_121 rfl ?_
              refine hw_cV (As := [.int (nI 34), .long (lN 1)]) (rest := []) S hI m_Mo_setLong w_766 (c_Mo_setLong l D t0 L _ _ mm mc ml mg mw mr (nI 0) y1 sn wt rr 34 1 hn (by decide) (by decide)) hm.1 rfl hl.1 rfl rfl (Nat.le_of_ble_eq_true rfl) d_Mo_binomial_122 ⟨Nat.le_of_ble_eq_true rfl, Nat.le_of_ble_eq_true rfl⟩ ⟨Nat.le_of_ble_eq_true rfl, Nat.le_of_ble_eq_true rfl⟩ (fun v9 L9 f173 H locs hp hI => ?_)
              refine W.cs (cells' := 0) (slots' := 0) rfl rfl ?_
              obtain ⟨hv9, rfl, hn, hF9⟩ := hp
              cases hv9
              refine hw_stk (st' := []) rfl ?_
              have hF := hF.trans hF9
              obtain ⟨y174, ey⟩ : ∃ z9, z9 = va_up y1 34 1 := ⟨_, rfl⟩
              rw [← ey] at hn
              have q34 : y174 34 = 1 := by rw [ey]; rw [hw_up_eq]
              have q32 : y174 32 = ch n k := by rw [ey, hw_up_ne (by decide)]; exact k32
              have k34 := q34
              have k32 := q32
              have hR : RM σ y174 sn := by rw [ey]; exact hR.up (by decide)
              obtain ⟨cs, ns, hm, hc⟩ := id hn
              refine lv_aload_n hx hb d_Mo_binomial_125 rfl (lv_at hl 5 rfl) ?_
              refine lv_aload_n hx hb d_Mo_binomial_126 rfl (lv_at hl 5 rfl) ?_
              refine lv_iload_n hx hb d_Mo_binomial_127 rfl (lv_at hl 4 rfl) ?_
              refine lv_iconst (v := nI 1) hx hb d_Mo_binomial_128 (by decide) ?_
              refine hw_cV (As := [.int (nI r), .int (nI 1)]) (rest := [.ref (mm)]) S hI m_Mo_finish w_802 (c_Mo_finish l D t0 L _ _ mm mc ml mg mw mr (nI 0) y174 sn wt rr σ r (nI 1) false hn hR hr9 (by rw [k34]; exact h34) (by rw [k32]; exact (fun _ => rfl))) hm.1 rfl hl.1 rfl rfl (Nat.le_of_ble_eq_true rfl) d_Mo_binomial_129 ⟨Nat.le_of_ble_eq_true rfl, Nat.le_of_ble_eq_true rfl⟩ ⟨Nat.le_of_ble_eq_true rfl, Nat.le_of_ble_eq_true rfl⟩ (fun v9 L9 f175 H locs hp hI => ?_)
              refine W.cs (cells' := 0) (slots' := 0) rfl rfl ?_
              obtain ⟨hv9, rfl, ⟨y9, sn9, hn, hR⟩, hF9⟩ := hp
              cases hv9
              refine hw_stk (st' := [.int (if fitR (lows (y174 32) (y174 34) false) = true then nI 1 else nI 0), .ref (mm)]) rfl ?_
              have hF := hF.trans hF9
              rw [k32, k34] at hR
              obtain ⟨cs, ns, hm, hc⟩ := id hn
              by_cases hfit : fitR (lows (ch n k) 1 false) = true
              · refine hw_ti (show _ = nI 1 from by rw [k32, k34, if_pos hfit]) ?_
                rw [if_pos hfit] at hR
                refine hw_if_eq (tgt := 139) hx hb d_Mo_binomial_132 (by decide) (by decide) (fun c9 => absurd c9 (by decide)) (fun _ => ?_)
                refine lv_iconst (v := nI 0) hx hb d_Mo_binomial_135 (by decide) ?_
                refine lv_goto (tgt := 140) hx hb d_Mo_binomial_136 (by decide) ?_
                refine ob_put S hI hm.1 (fs' := [.int (nI 0), .ref (mc), .ref (ml), .ref (mg), .ref (mw), .ref (mr)]) (C := R_Mo) (T := F_Mo) (N := 6) (ref := "WallFractionsModel") rfl i_Mo t_Mo t_Mo_ok n_Mo 0 (by decide) rfl w_771 rfl rfl rfl (by simp only [List.length]; decide) rfl d_Mo_binomial_140 (fun f176 H locs hI hO9 hf176 => ?_)
                have hm := hm.umm hf176 hO9
                have hF := hF.umm hf176
                have hn := (⟨_, _, hm, hc⟩ : Mn D L _ mm mc ml mg mw mr _ _ _ _ _)
                exact hw_vret hx hb hr hlocks hI d_Mo_binomial_143 ⟨rfl, rfl, by rw [show opBin σ (nI r) (nI n) (nI k) = (0, va_up σ r (lows (ch n k) 1 false)) from by unfold opBin; rw [if_pos hv, putR_eq, ix_nI (by omega), nI_clamp (by omega), hch, ← lows_one, if_pos hfit]]; exact ⟨_, _, _, hn, hR⟩, hF⟩
              · refine hw_ti (show _ = nI 0 from by rw [k32, k34, if_neg hfit]) ?_
                rw [if_neg hfit] at hR
                refine hw_if_eq (tgt := 139) hx hb d_Mo_binomial_132 (by decide) (by decide) (fun _ => ?_) (fun c9 => absurd c9 (by decide))
                refine lv_iconst (v := nI 2) hx hb d_Mo_binomial_139 (by decide) ?_
                refine ob_put S hI hm.1 (fs' := [.int (nI 2), .ref (mc), .ref (ml), .ref (mg), .ref (mw), .ref (mr)]) (C := R_Mo) (T := F_Mo) (N := 6) (ref := "WallFractionsModel") rfl i_Mo t_Mo t_Mo_ok n_Mo 0 (by decide) rfl w_771 rfl rfl rfl (by simp only [List.length]; decide) rfl d_Mo_binomial_140 (fun f177 H locs hI hO9 hf177 => ?_)
                have hm := hm.umm hf177 hO9
                have hF := hF.umm hf177
                have hn := (⟨_, _, hm, hc⟩ : Mn D L _ mm mc ml mg mw mr _ _ _ _ _)
                exact hw_vret hx hb hr hlocks hI d_Mo_binomial_143 ⟨rfl, rfl, by rw [show opBin σ (nI r) (nI n) (nI k) = (2, σ) from by unfold opBin; rw [if_pos hv, putR_eq, ix_nI (by omega), nI_clamp (by omega), hch, ← lows_one, if_neg hfit]]; exact ⟨_, _, _, hn, hR⟩, hF⟩
            | succ g ih =>
              intro t y1 f1 H locs ls htg hmn hcm k32 hR hn hF hI hl
              obtain ⟨cs, ns, hm, hc⟩ := id hn
              refine lv_iload hx hb d_Mo_binomial_75 (lv_at hl 0 rfl) ?_
              refine lv_iload hx hb d_Mo_binomial_77 (lv_at hl 1 rfl) ?_
              refine hw_icmp_ge (tgt := 118) hx hb d_Mo_binomial_79 (by decide) (by omega) (by omega) (fun c9 => absurd c9 (by omega)) (fun _ => ?_)
              refine lv_iload_n hx hb d_Mo_binomial_82 rfl (lv_at hl 2 rfl) ?_
              refine lv_iload_n hx hb d_Mo_binomial_83 rfl (lv_at hl 3 rfl) ?_
              refine hw_icmp_gt (tgt := 118) hx hb d_Mo_binomial_84 (by decide) (by omega) (by omega) (fun c9 => absurd c9 (by omega)) (fun _ => ?_)
              refine lv_aload_n hx hb d_Mo_binomial_87 rfl (lv_at hl 5 rfl) ?_
              refine lv_bipush (v := nI 32) hx hb d_Mo_binomial_88 (by decide) ?_
              refine lv_iload_n hx hb d_Mo_binomial_90 rfl (lv_at hl 3 rfl) ?_
              refine lv_iload hx hb d_Mo_binomial_91 (lv_at hl 0 rfl) ?_
              refine lv_isub hx hb d_Mo_binomial_93 ?_
              refine hw_ti (pk_sub (by omega)) ?_
              refine lv_i2l (v := lN (n - t)) hx hb d_Mo_binomial_94 (nI_l (by omega)) ?_
              refine lv_lconst (v := lN 0) hx hb d_Mo_binomial_95 rfl ?_
              refine hw_cV (As := [.int (nI 32), .long (lN (n - t)), .long (lN 0)]) (rest := []) S hI m_Mo_times w_851 (c_Mo_times l D t0 L _ _ mm mc ml mg mw mr (nI 0) y1 sn wt rr 32 (n - t) 0 hn (by decide) (by rw [k32]; exact two125 hn9) (by omega) (by decide)) hm.1 rfl hl.1 rfl rfl (Nat.le_of_ble_eq_true rfl) d_Mo_binomial_96 ⟨Nat.le_of_ble_eq_true rfl, Nat.le_of_ble_eq_true rfl⟩ ⟨Nat.le_of_ble_eq_true rfl, Nat.le_of_ble_eq_true rfl⟩ (fun v9 L9 f178 H locs hp hI => ?_)
              refine W.cs (cells' := 0) (slots' := 0) rfl rfl ?_
              obtain ⟨hv9, rfl, hn, hF9⟩ := hp
              cases hv9
              refine hw_stk (st' := []) rfl ?_
              have hF := hF.trans hF9
              obtain ⟨y179, ey⟩ : ∃ z9, z9 = va_up y1 32 (y1 32 * (n - t) + 0) := ⟨_, rfl⟩
              rw [← ey] at hn
              have q32 : y179 32 = ch n t * (n - t) + 0 := by rw [ey]; rw [hw_up_eq, k32]
              have k32 := q32
              have hR : RM σ y179 sn := by rw [ey]; exact hR.up (by decide)
              obtain ⟨cs, ns, hm, hc⟩ := id hn
              refine lv_aload_n hx hb d_Mo_binomial_99 rfl (lv_at hl 5 rfl) ?_
              refine lv_bipush (v := nI 32) hx hb d_Mo_binomial_100 (by decide) ?_
              refine lv_iload hx hb d_Mo_binomial_102 (lv_at hl 0 rfl) ?_
              refine lv_i2l (v := lN t) hx hb d_Mo_binomial_104 (nI_l (by omega)) ?_
              refine lv_lconst (v := lN 1) hx hb d_Mo_binomial_105 rfl ?_
              refine lv_ladd hx hb d_Mo_binomial_106 ?_
              refine hw_tl (lN_add _ _) ?_
              refine hw_cV (As := [.int (nI 32), .long (lN (t + 1))]) (rest := []) S hI m_Mo_by w_904 (c_Mo_by l D t0 L _ _ mm mc ml mg mw mr (nI 0) y179 sn wt rr 32 (t + 1) hn (by decide) (by omega) (by omega)) hm.1 rfl hl.1 rfl rfl (Nat.le_of_ble_eq_true rfl) d_Mo_binomial_107 ⟨Nat.le_of_ble_eq_true rfl, Nat.le_of_ble_eq_true rfl⟩ ⟨Nat.le_of_ble_eq_true rfl, Nat.le_of_ble_eq_true rfl⟩ (fun v9 L9 f180 H locs hp hI => ?_)
              refine W.cs (cells' := 0) (slots' := 0) rfl rfl ?_
              obtain ⟨hv9, rfl, hn, hF9⟩ := hp
              cases hv9
              refine hw_stk (st' := [.long (lN (y179 32 % (t + 1)))]) rfl ?_
              have hF := hF.trans hF9
              obtain ⟨y181, ey⟩ : ∃ z9, z9 = va_up y179 32 (y179 32 / (t + 1)) := ⟨_, rfl⟩
              rw [← ey] at hn
              have q32 : y181 32 = ch n (t + 1) := by rw [ey]; rw [hw_up_eq, k32, Nat.add_zero, ch_next (by omega)]
              have k32 := q32
              have hR : RM σ y181 sn := by rw [ey]; exact hR.up (by decide)
              obtain ⟨cs, ns, hm, hc⟩ := id hn
              refine lv_lstore (lv' := [(6, .long (lN (y179 32 % (t + 1)))), (5, .int (nI t)), (4, .int (nI m0)), (3, .int (nI k)), (2, .int (nI n)), (1, .int (nI r)), (0, .ref (mm))]) hx hb d_Mo_binomial_110 hl (by decide) rfl (fun ls hl => ?_)
              refine lv_iinc (v := nI (t + 1)) (lv' := [(5, .int (nI (t + 1))), (6, .long (lN (y179 32 % (t + 1)))), (4, .int (nI m0)), (3, .int (nI k)), (2, .int (nI n)), (1, .int (nI r)), (0, .ref (mm))]) hx hb d_Mo_binomial_112 hl (k := 1) rfl (nI_1 _) (by decide) rfl (fun ls hl => ?_)
              refine lv_goto (tgt := 75) hx hb d_Mo_binomial_115 (by decide) ?_
              exact ih (t + 1) _ _ _ _ _ (by omega) hmn hcm k32 hR hn hF hI (lv_sub hl [0, 2, 3, 4, 5, 6] rfl)
          refine lv_iload_n hx hb d_Mo_binomial_56 rfl (lv_at hl 3 rfl) ?_
          refine lv_iload_n hx hb d_Mo_binomial_57 rfl (lv_at hl 2 rfl) ?_
          refine lv_iload_n hx hb d_Mo_binomial_58 rfl (lv_at hl 3 rfl) ?_
          refine lv_isub hx hb d_Mo_binomial_59 ?_
          refine hw_ti (pk_sub (by omega)) ?_
          refine hw_icmp_le (tgt := 69) hx hb d_Mo_binomial_60 (by decide) (by omega) (by omega) (fun c182 => ?_) (fun c182 => ?_)
          · refine lv_iload_n hx hb d_Mo_binomial_69 rfl (lv_at hl 3 rfl) ?_
            refine lv_istore (lv' := [(4, .int (nI k)), (0, .ref (mm)), (1, .int (nI r)), (2, .int (nI n)), (3, .int (nI k))]) hx hb d_Mo_binomial_70 hl (by decide) rfl (fun ls hl => ?_)
            refine lv_iconst (v := nI 0) hx hb d_Mo_binomial_72 (by decide) ?_
            refine lv_istore (lv' := [(5, .int (nI 0)), (4, .int (nI k)), (0, .ref (mm)), (1, .int (nI r)), (2, .int (nI n)), (3, .int (nI k))]) hx hb d_Mo_binomial_73 hl (by decide) rfl (fun ls hl => ?_)
            exact loop k k 0 _ _ _ _ _ (by omega) (by omega) rfl (by rw [k32, ch_0]) hR hn hF hI (lv_sub hl [0, 1, 5, 4, 3, 2] rfl)
          · refine lv_iload_n hx hb d_Mo_binomial_63 rfl (lv_at hl 2 rfl) ?_
            refine lv_iload_n hx hb d_Mo_binomial_64 rfl (lv_at hl 3 rfl) ?_
            refine lv_isub hx hb d_Mo_binomial_65 ?_
            refine hw_ti (pk_sub (by omega)) ?_
            refine lv_goto (tgt := 70) hx hb d_Mo_binomial_66 (by decide) ?_
            refine lv_istore (lv' := [(4, .int (nI (n - k))), (0, .ref (mm)), (1, .int (nI r)), (2, .int (nI n)), (3, .int (nI k))]) hx hb d_Mo_binomial_70 hl (by decide) rfl (fun ls hl => ?_)
            refine lv_iconst (v := nI 0) hx hb d_Mo_binomial_72 (by decide) ?_
            refine lv_istore (lv' := [(5, .int (nI 0)), (4, .int (nI (n - k))), (0, .ref (mm)), (1, .int (nI r)), (2, .int (nI n)), (3, .int (nI k))]) hx hb d_Mo_binomial_73 hl (by decide) rfl (fun ls hl => ?_)
            exact loop (n - k) (n - k) 0 _ _ _ _ _ (by omega) (by omega) (ch_sym n k hk9).symm (by rw [k32, ch_0]) hR hn hF hI (lv_sub hl [0, 1, 5, 4, 3, 2] rfl)
    · refine hw_cS (As := [.long ((n0).toInt64), .long (lN 0), .long (lN 500)]) (rest := [.ref (mm)]) S hI m_Mo_in w_843 (c_Mo_in l D t0 L _ _ n0 0 500 (by omega) (by omega)) hl.1 rfl rfl (Nat.le_of_ble_eq_true rfl) d_Mo_binomial_14 ⟨Nat.le_of_ble_eq_true rfl, Nat.le_of_ble_eq_true rfl⟩ ⟨Nat.le_of_ble_eq_true rfl, Nat.le_of_ble_eq_true rfl⟩ (fun v9 L9 f141 H locs hp hI => ?_)
      refine W.cs (cells' := 0) (slots' := 0) rfl rfl ?_
      obtain ⟨hv9, rfl, rfl⟩ := hp
      cases hv9
      refine hw_stk (st' := [.int (if inR n0 0 500 = true then nI 1 else nI 0), .ref (mm)]) rfl ?_
      refine hw_ti (show _ = nI 0 from by rw [if_neg hn0]) ?_
      refine hw_if_eq (tgt := 24) hx hb d_Mo_binomial_17 (by decide) (by decide) (fun _ => ?_) (fun c9 => absurd c9 (by decide))
      have e9 : opBin σ r0 n0 k0 = (1, σ) := by unfold opBin; rw [if_neg (by simp [hn0])]
      refine lv_iconst (v := nI 1) hx hb d_Mo_binomial_24 (by decide) ?_
      refine ob_put S hI hm.1 (fs' := [.int (nI 1), .ref (mc), .ref (ml), .ref (mg), .ref (mw), .ref (mr)]) (C := R_Mo) (T := F_Mo) (N := 6) (ref := "WallFractionsModel") rfl i_Mo t_Mo t_Mo_ok n_Mo 0 (by decide) rfl w_771 rfl rfl rfl (by simp only [List.length]; decide) rfl d_Mo_binomial_25 (fun f143 H locs hI hO9 hf143 => ?_)
      have hm := hm.umm hf143 hO9
      have hF := hF.umm hf143
      have hn := (⟨_, _, hm, hc⟩ : Mn D L _ mm mc ml mg mw mr _ _ _ _ _)
      refine lv_aload_n hx hb d_Mo_binomial_28 rfl (lv_at hl 0 rfl) ?_
      refine ob_get S hI hm.1 (C := R_Mo) (T := F_Mo) (N := 6) (ref := "WallFractionsModel") rfl i_Mo 0 (by decide) rfl w_771 rfl d_Mo_binomial_29 ?_
      refine hw_if_le (tgt := 36) hx hb d_Mo_binomial_32 (by decide) (by decide) (fun c9 => absurd c9 (by decide)) (fun _ => ?_)
      exact hw_vret hx hb hr hlocks hI d_Mo_binomial_35 ⟨rfl, rfl, by rw [e9]; exact ⟨_, _, _, hn, hR⟩, hF⟩
  · refine hw_cS (As := [.int (r0)]) (rest := [.ref (mm)]) S hI m_Mo_isRegister w_799 (c_Mo_isRegister l D t0 L _ _ r0) hl.1 rfl rfl (Nat.le_of_ble_eq_true rfl) d_Mo_binomial_2 ⟨Nat.le_of_ble_eq_true rfl, Nat.le_of_ble_eq_true rfl⟩ ⟨Nat.le_of_ble_eq_true rfl, Nat.le_of_ble_eq_true rfl⟩ (fun v9 L9 f138 H locs hp hI => ?_)
    refine W.cs (cells' := 0) (slots' := 0) rfl rfl ?_
    obtain ⟨hv9, rfl, rfl⟩ := hp
    cases hv9
    refine hw_stk (st' := [.int (if vr r0 = true then nI 1 else nI 0), .ref (mm)]) rfl ?_
    refine hw_ti (show _ = nI 0 from by rw [if_neg hr0]) ?_
    refine hw_if_eq (tgt := 24) hx hb d_Mo_binomial_5 (by decide) (by decide) (fun _ => ?_) (fun c9 => absurd c9 (by decide))
    have e9 : opBin σ r0 n0 k0 = (1, σ) := by unfold opBin; rw [if_neg (by simp [hr0])]
    refine lv_iconst (v := nI 1) hx hb d_Mo_binomial_24 (by decide) ?_
    refine ob_put S hI hm.1 (fs' := [.int (nI 1), .ref (mc), .ref (ml), .ref (mg), .ref (mw), .ref (mr)]) (C := R_Mo) (T := F_Mo) (N := 6) (ref := "WallFractionsModel") rfl i_Mo t_Mo t_Mo_ok n_Mo 0 (by decide) rfl w_771 rfl rfl rfl (by simp only [List.length]; decide) rfl d_Mo_binomial_25 (fun f140 H locs hI hO9 hf140 => ?_)
    have hm := hm.umm hf140 hO9
    have hF := hF.umm hf140
    have hn := (⟨_, _, hm, hc⟩ : Mn D L _ mm mc ml mg mw mr _ _ _ _ _)
    refine lv_aload_n hx hb d_Mo_binomial_28 rfl (lv_at hl 0 rfl) ?_
    refine ob_get S hI hm.1 (C := R_Mo) (T := F_Mo) (N := 6) (ref := "WallFractionsModel") rfl i_Mo 0 (by decide) rfl w_771 rfl d_Mo_binomial_29 ?_
    refine hw_if_le (tgt := 36) hx hb d_Mo_binomial_32 (by decide) (by decide) (fun c9 => absurd c9 (by decide)) (fun _ => ?_)
    exact hw_vret hx hb hr hlocks hI d_Mo_binomial_35 ⟨rfl, rfl, by rw [e9]; exact ⟨_, _, _, hn, hR⟩, hF⟩

set_option maxHeartbeats 4000000 in
set_option maxRecDepth 100000 in
theorem c_Mo_multiply (l : Launch) (D : va_G) (t0 : Nat) (L : List Nat) (f : Nat → va_E) (sz : Nat) (mm mc ml mg mw mr : Nat) (th : Int32) (σ : Sg) (wt : Nat → Nat) (r0 a0 b0 : Int32) (hM : Mg D L f mm mc ml mg mw mr th σ wt) (hok : Ok σ wt) : Met l y_Mo_multiply (Cond.code y_Mo_multiply b_Mo_multiply 4 none :: TT) ({ frames := 5, cells := 0, slots := 0, locals := 131 } : Room) (hw_Pc t0 [.ref (mm), .int (r0), .int (a0), .int (b0)] D L f sz) (hw_Q D L sz (fun oc L' f' => oc = .returned none ∧ L = L' ∧ Mg D L f' mm mc ml mg mw mr (nI (opMul σ r0 a0 b0).1) (opMul σ r0 a0 b0).2 wt ∧ Fo mm mc ml mg mw mr f f')) 0 0 (hw_A L sz) := by
  refine Met.ofW (cc := b_Mo_multiply) (maxL := 4) (ret := none) (by decide) rfl ?_
  intro p e s m args below meth c s₁ B hml hv
  obtain ⟨rfl, rfl, hI⟩ := hw_start hv
  clear hv
  have hx := B.exec
  have hb := B.bytes
  have hr := B.returns
  have hlocks := B.notSynchronized
  have hown : s.vm.findClass "WallFractionsModel" = some m.cls := findClass_of_methodNamed B.named
  have hT : ∀ w ∈ TT, w.before ([.ref (mm), .int (r0), .int (a0), .int (b0)]).toArray s = true := fun w h => atoms_spec (ws := (Cond.code y_Mo_multiply b_Mo_multiply 4 none :: TT)) B.pre w (List.mem_cons_of_mem _ h)
  have S : CallFix p m c b_Mo_multiply 4 s ([.ref (mm), .int (r0), .int (a0), .int (b0)]).toArray TT "WallFractionsModel" := ⟨hx, hb, hml, hown, hT⟩
  have hl := lv_entry ([.ref (mm), .int (r0), .int (a0), .int (b0)]) (n := 4) (Nat.le_of_ble_eq_true rfl)
  rw [lg_entry_eq]
  generalize (lg_sl ([.ref (mm), .int (r0), .int (a0), .int (b0)]) ++ List.replicate (4 - (lg_sl ([.ref (mm), .int (r0), .int (a0), .int (b0)])).length) Slot.unset).toArray = ls at hl ⊢
  have hl : lv_has ls 4 [(0, .ref (mm)), (1, .int (r0)), (2, .int (a0)), (3, .int (b0))] := hl
  skip
  obtain ⟨y, sn, rr, hn, hR⟩ := hM
  have hF : Fo mm mc ml mg mw mr f f := Fo.refl
  obtain ⟨cs, ns, hm, hc⟩ := id hn
  by_cases hv : (vr r0 && vr a0 && vr b0) = true
  · refine lv_aload_n hx hb d_Mo_multiply_0 rfl (lv_at hl 0 rfl) ?_
    refine lv_iload_n hx hb d_Mo_multiply_1 rfl (lv_at hl 1 rfl) ?_
    refine lv_iload_n hx hb d_Mo_multiply_2 rfl (lv_at hl 2 rfl) ?_
    refine lv_iload_n hx hb d_Mo_multiply_3 rfl (lv_at hl 3 rfl) ?_
    refine hw_cS (As := [.int (r0), .int (a0), .int (b0)]) (rest := [.ref (mm)]) S hI m_Mo_areThere w_859 (c_Mo_areThere l D t0 L _ _ r0 a0 b0) hl.1 rfl rfl (Nat.le_of_ble_eq_true rfl) d_Mo_multiply_4 ⟨Nat.le_of_ble_eq_true rfl, Nat.le_of_ble_eq_true rfl⟩ ⟨Nat.le_of_ble_eq_true rfl, Nat.le_of_ble_eq_true rfl⟩ (fun v9 L9 f103 H locs hp hI => ?_)
    refine W.cs (cells' := 0) (slots' := 0) rfl rfl ?_
    obtain ⟨hv9, rfl, rfl⟩ := hp
    cases hv9
    refine hw_stk (st' := [.int (if (vr r0 && vr a0 && vr b0) = true then nI 1 else nI 0), .ref (mm)]) rfl ?_
    refine hw_ti (show _ = nI 1 from by rw [if_pos hv]) ?_
    refine hw_if_eq (tgt := 14) hx hb d_Mo_multiply_7 (by decide) (by decide) (fun c9 => absurd c9 (by decide)) (fun _ => ?_)
    refine lv_iconst (v := nI 0) hx hb d_Mo_multiply_10 (by decide) ?_
    refine lv_goto (tgt := 15) hx hb d_Mo_multiply_11 (by decide) ?_
    refine ob_put S hI hm.1 (fs' := [.int (nI 0), .ref (mc), .ref (ml), .ref (mg), .ref (mw), .ref (mr)]) (C := R_Mo) (T := F_Mo) (N := 6) (ref := "WallFractionsModel") rfl i_Mo t_Mo t_Mo_ok n_Mo 0 (by decide) rfl w_771 rfl rfl rfl (by simp only [List.length]; decide) rfl d_Mo_multiply_15 (fun f104 H locs hI hO9 hf104 => ?_)
    have hm := hm.umm hf104 hO9
    have hF := hF.umm hf104
    have hn := (⟨_, _, hm, hc⟩ : Mn D L _ mm mc ml mg mw mr _ _ _ _ _)
    refine lv_aload_n hx hb d_Mo_multiply_18 rfl (lv_at hl 0 rfl) ?_
    refine ob_get S hI hm.1 (C := R_Mo) (T := F_Mo) (N := 6) (ref := "WallFractionsModel") rfl i_Mo 0 (by decide) rfl w_771 rfl d_Mo_multiply_19 ?_
    refine hw_if_le (tgt := 26) hx hb d_Mo_multiply_22 (by decide) (by decide) (fun _ => ?_) (fun c9 => absurd c9 (by decide))
    obtain ⟨vr9, va9, vb9⟩ := and3 hv
    obtain ⟨r, hr9, rfl⟩ := vr_nat vr9
    obtain ⟨a, ha9, rfl⟩ := vr_nat va9
    obtain ⟨b, hb9, rfl⟩ := vr_nat vb9
    have oka := hok.1 a ha9
    have lta := oka.lt4
    have okb := hok.1 b hb9
    have ltb := okb.lt4
    have h34 : 0 < (σ a).2.1 * (σ b).2.1 := Nat.mul_pos oka.2.2.1 okb.2.2.1
    refine lv_aload_n hx hb d_Mo_multiply_26 rfl (lv_at hl 0 rfl) ?_
    refine lv_bipush (v := nI 32) hx hb d_Mo_multiply_27 (by decide) ?_
    refine lv_iload_n hx hb d_Mo_multiply_29 rfl (lv_at hl 2 rfl) ?_
    refine lv_iload_n hx hb d_Mo_multiply_30 rfl (lv_at hl 3 rfl) ?_
    refine hw_cV (As := [.int (nI 32), .int (nI a), .int (nI b)]) (rest := []) S hI m_Mo_product w_866 (c_Mo_product l D t0 L _ _ mm mc ml mg mw mr (nI 0) y sn wt rr 32 a b 45 45 hn (by decide) (by omega) (by omega) (by omega) (by omega) (by rw [(hR a ha9).1]; exact lta.1) (by rw [(hR b hb9).1]; exact ltb.1) (by decide)) hm.1 rfl hl.1 rfl rfl (Nat.le_of_ble_eq_true rfl) d_Mo_multiply_31 ⟨Nat.le_of_ble_eq_true rfl, Nat.le_of_ble_eq_true rfl⟩ ⟨Nat.le_of_ble_eq_true rfl, Nat.le_of_ble_eq_true rfl⟩ (fun v9 L9 f105 H locs hp hI => ?_)
    refine W.cs (cells' := 0) (slots' := 0) rfl rfl ?_
    obtain ⟨hv9, rfl, hn, hF9⟩ := hp
    cases hv9
    refine hw_stk (st' := []) rfl ?_
    have hF := hF.trans hF9
    obtain ⟨y106, ey⟩ : ∃ z9, z9 = va_up y 32 (y a * y b) := ⟨_, rfl⟩
    rw [← ey] at hn
    have q32 : y106 32 = (σ a).1 * (σ b).1 := by rw [ey]; rw [hw_up_eq, (hR a ha9).1, (hR b hb9).1]
    have k32 := q32
    have hR : RM σ y106 sn := by rw [ey]; exact hR.up (by decide)
    obtain ⟨cs, ns, hm, hc⟩ := id hn
    refine lv_aload_n hx hb d_Mo_multiply_34 rfl (lv_at hl 0 rfl) ?_
    refine lv_bipush (v := nI 34) hx hb d_Mo_multiply_35 (by decide) ?_
    refine lv_bipush (v := nI 16) hx hb d_Mo_multiply_37 (by decide) ?_
    refine lv_iload_n hx hb d_Mo_multiply_39 rfl (lv_at hl 2 rfl) ?_
    refine lv_iadd hx hb d_Mo_multiply_40 ?_
    refine hw_ti (nI_add _ _) ?_
    refine lv_bipush (v := nI 16) hx hb d_Mo_multiply_41 (by decide) ?_
    refine lv_iload_n hx hb d_Mo_multiply_43 rfl (lv_at hl 3 rfl) ?_
    refine lv_iadd hx hb d_Mo_multiply_44 ?_
    refine hw_ti (nI_add _ _) ?_
    refine hw_cV (As := [.int (nI 34), .int (nI (16 + a)), .int (nI (16 + b))]) (rest := []) S hI m_Mo_product w_866 (c_Mo_product l D t0 L _ _ mm mc ml mg mw mr (nI 0) y106 sn wt rr 34 (16 + a) (16 + b) 45 45 hn (by decide) (by omega) (by omega) (by omega) (by omega) (by rw [(hR a ha9).2.1]; exact lta.2) (by rw [(hR b hb9).2.1]; exact ltb.2) (by decide)) hm.1 rfl hl.1 rfl rfl (Nat.le_of_ble_eq_true rfl) d_Mo_multiply_45 ⟨Nat.le_of_ble_eq_true rfl, Nat.le_of_ble_eq_true rfl⟩ ⟨Nat.le_of_ble_eq_true rfl, Nat.le_of_ble_eq_true rfl⟩ (fun v9 L9 f107 H locs hp hI => ?_)
    refine W.cs (cells' := 0) (slots' := 0) rfl rfl ?_
    obtain ⟨hv9, rfl, hn, hF9⟩ := hp
    cases hv9
    refine hw_stk (st' := []) rfl ?_
    have hF := hF.trans hF9
    obtain ⟨y108, ey⟩ : ∃ z9, z9 = va_up y106 34 (y106 (16 + a) * y106 (16 + b)) := ⟨_, rfl⟩
    rw [← ey] at hn
    have q34 : y108 34 = (σ a).2.1 * (σ b).2.1 := by rw [ey]; rw [hw_up_eq, (hR a ha9).2.1, (hR b hb9).2.1]
    have q32 : y108 32 = (σ a).1 * (σ b).1 := by rw [ey, hw_up_ne (by decide)]; exact k32
    have k34 := q34
    have k32 := q32
    have hR : RM σ y108 sn := by rw [ey]; exact hR.up (by decide)
    obtain ⟨cs, ns, hm, hc⟩ := id hn
    refine lv_aload_n hx hb d_Mo_multiply_48 rfl (lv_at hl 0 rfl) ?_
    refine lv_aload_n hx hb d_Mo_multiply_49 rfl (lv_at hl 0 rfl) ?_
    refine lv_iload_n hx hb d_Mo_multiply_50 rfl (lv_at hl 1 rfl) ?_
    refine lv_aload_n hx hb d_Mo_multiply_51 rfl (lv_at hl 0 rfl) ?_
    refine ob_get S hI hm.1 (C := R_Mo) (T := F_Mo) (N := 6) (ref := "WallFractionsModel") rfl i_Mo 3 (by decide) rfl w_774 rfl d_Mo_multiply_52 ?_
    refine lv_iload_n hx hb d_Mo_multiply_55 rfl (lv_at hl 2 rfl) ?_
    refine ia_ldR S hI hm.2.2.2.1 (by decide) (by omega) d_Mo_multiply_56 ?_
    refine lv_aload_n hx hb d_Mo_multiply_57 rfl (lv_at hl 0 rfl) ?_
    refine ob_get S hI hm.1 (C := R_Mo) (T := F_Mo) (N := 6) (ref := "WallFractionsModel") rfl i_Mo 3 (by decide) rfl w_774 rfl d_Mo_multiply_58 ?_
    refine lv_iload_n hx hb d_Mo_multiply_61 rfl (lv_at hl 3 rfl) ?_
    refine ia_ldR S hI hm.2.2.2.1 (by decide) (by omega) d_Mo_multiply_62 ?_
    refine lv_imul hx hb d_Mo_multiply_63 ?_
    refine hw_cV (As := [.int (nI r), .int ((sn a) * (sn b))]) (rest := [.ref (mm)]) S hI m_Mo_finish w_802 (c_Mo_finish l D t0 L _ _ mm mc ml mg mw mr (nI 0) y108 sn wt rr σ r (sn a * sn b) ((σ a).2.2 != (σ b).2.2) hn hR hr9 (by rw [k34]; exact h34) (by rw [k32]; exact (fun h => by rw [(hR a ha9).2.2, (hR b hb9).2.2]; exact sgI_mul (fun q => h (by rw [q, Nat.zero_mul])) (fun q => h (by rw [q, Nat.mul_zero]))))) hm.1 rfl hl.1 rfl rfl (Nat.le_of_ble_eq_true rfl) d_Mo_multiply_64 ⟨Nat.le_of_ble_eq_true rfl, Nat.le_of_ble_eq_true rfl⟩ ⟨Nat.le_of_ble_eq_true rfl, Nat.le_of_ble_eq_true rfl⟩ (fun v9 L9 f109 H locs hp hI => ?_)
    refine W.cs (cells' := 0) (slots' := 0) rfl rfl ?_
    obtain ⟨hv9, rfl, ⟨y9, sn9, hn, hR⟩, hF9⟩ := hp
    cases hv9
    refine hw_stk (st' := [.int (if fitR (lows (y108 32) (y108 34) ((σ a).2.2 != (σ b).2.2)) = true then nI 1 else nI 0), .ref (mm)]) rfl ?_
    have hF := hF.trans hF9
    rw [k32, k34] at hR
    obtain ⟨cs, ns, hm, hc⟩ := id hn
    by_cases hfit : fitR (lows ((σ a).1 * (σ b).1) ((σ a).2.1 * (σ b).2.1) ((σ a).2.2 != (σ b).2.2)) = true
    · refine hw_ti (show _ = nI 1 from by rw [k32, k34, if_pos hfit]) ?_
      rw [if_pos hfit] at hR
      refine hw_if_eq (tgt := 74) hx hb d_Mo_multiply_67 (by decide) (by decide) (fun c9 => absurd c9 (by decide)) (fun _ => ?_)
      refine lv_iconst (v := nI 0) hx hb d_Mo_multiply_70 (by decide) ?_
      refine lv_goto (tgt := 75) hx hb d_Mo_multiply_71 (by decide) ?_
      refine ob_put S hI hm.1 (fs' := [.int (nI 0), .ref (mc), .ref (ml), .ref (mg), .ref (mw), .ref (mr)]) (C := R_Mo) (T := F_Mo) (N := 6) (ref := "WallFractionsModel") rfl i_Mo t_Mo t_Mo_ok n_Mo 0 (by decide) rfl w_771 rfl rfl rfl (by simp only [List.length]; decide) rfl d_Mo_multiply_75 (fun f110 H locs hI hO9 hf110 => ?_)
      have hm := hm.umm hf110 hO9
      have hF := hF.umm hf110
      have hn := (⟨_, _, hm, hc⟩ : Mn D L _ mm mc ml mg mw mr _ _ _ _ _)
      exact hw_vret hx hb hr hlocks hI d_Mo_multiply_78 ⟨rfl, rfl, by rw [show opMul σ (nI r) (nI a) (nI b) = (0, va_up σ r (lows ((σ a).1 * (σ b).1) ((σ a).2.1 * (σ b).2.1) ((σ a).2.2 != (σ b).2.2))) from by unfold opMul; rw [if_pos hv, putR_eq, ix_nI (by omega), ix_nI (by omega), ix_nI (by omega), if_pos hfit]]; exact ⟨_, _, _, hn, hR⟩, hF⟩
    · refine hw_ti (show _ = nI 0 from by rw [k32, k34, if_neg hfit]) ?_
      rw [if_neg hfit] at hR
      refine hw_if_eq (tgt := 74) hx hb d_Mo_multiply_67 (by decide) (by decide) (fun _ => ?_) (fun c9 => absurd c9 (by decide))
      refine lv_iconst (v := nI 2) hx hb d_Mo_multiply_74 (by decide) ?_
      refine ob_put S hI hm.1 (fs' := [.int (nI 2), .ref (mc), .ref (ml), .ref (mg), .ref (mw), .ref (mr)]) (C := R_Mo) (T := F_Mo) (N := 6) (ref := "WallFractionsModel") rfl i_Mo t_Mo t_Mo_ok n_Mo 0 (by decide) rfl w_771 rfl rfl rfl (by simp only [List.length]; decide) rfl d_Mo_multiply_75 (fun f111 H locs hI hO9 hf111 => ?_)
      have hm := hm.umm hf111 hO9
      have hF := hF.umm hf111
      have hn := (⟨_, _, hm, hc⟩ : Mn D L _ mm mc ml mg mw mr _ _ _ _ _)
      exact hw_vret hx hb hr hlocks hI d_Mo_multiply_78 ⟨rfl, rfl, by rw [show opMul σ (nI r) (nI a) (nI b) = (2, σ) from by unfold opMul; rw [if_pos hv, putR_eq, ix_nI (by omega), ix_nI (by omega), ix_nI (by omega), if_neg hfit]]; exact ⟨_, _, _, hn, hR⟩, hF⟩
  · refine lv_aload_n hx hb d_Mo_multiply_0 rfl (lv_at hl 0 rfl) ?_
    refine lv_iload_n hx hb d_Mo_multiply_1 rfl (lv_at hl 1 rfl) ?_
    refine lv_iload_n hx hb d_Mo_multiply_2 rfl (lv_at hl 2 rfl) ?_
    refine lv_iload_n hx hb d_Mo_multiply_3 rfl (lv_at hl 3 rfl) ?_
    refine hw_cS (As := [.int (r0), .int (a0), .int (b0)]) (rest := [.ref (mm)]) S hI m_Mo_areThere w_859 (c_Mo_areThere l D t0 L _ _ r0 a0 b0) hl.1 rfl rfl (Nat.le_of_ble_eq_true rfl) d_Mo_multiply_4 ⟨Nat.le_of_ble_eq_true rfl, Nat.le_of_ble_eq_true rfl⟩ ⟨Nat.le_of_ble_eq_true rfl, Nat.le_of_ble_eq_true rfl⟩ (fun v9 L9 f101 H locs hp hI => ?_)
    refine W.cs (cells' := 0) (slots' := 0) rfl rfl ?_
    obtain ⟨hv9, rfl, rfl⟩ := hp
    cases hv9
    refine hw_stk (st' := [.int (if (vr r0 && vr a0 && vr b0) = true then nI 1 else nI 0), .ref (mm)]) rfl ?_
    refine hw_ti (show _ = nI 0 from by rw [if_neg hv]) ?_
    refine hw_if_eq (tgt := 14) hx hb d_Mo_multiply_7 (by decide) (by decide) (fun _ => ?_) (fun c9 => absurd c9 (by decide))
    have e9 : opMul σ r0 a0 b0 = (1, σ) := by unfold opMul; rw [if_neg hv]
    refine lv_iconst (v := nI 1) hx hb d_Mo_multiply_14 (by decide) ?_
    refine ob_put S hI hm.1 (fs' := [.int (nI 1), .ref (mc), .ref (ml), .ref (mg), .ref (mw), .ref (mr)]) (C := R_Mo) (T := F_Mo) (N := 6) (ref := "WallFractionsModel") rfl i_Mo t_Mo t_Mo_ok n_Mo 0 (by decide) rfl w_771 rfl rfl rfl (by simp only [List.length]; decide) rfl d_Mo_multiply_15 (fun f102 H locs hI hO9 hf102 => ?_)
    have hm := hm.umm hf102 hO9
    have hF := hF.umm hf102
    have hn := (⟨_, _, hm, hc⟩ : Mn D L _ mm mc ml mg mw mr _ _ _ _ _)
    refine lv_aload_n hx hb d_Mo_multiply_18 rfl (lv_at hl 0 rfl) ?_
    refine ob_get S hI hm.1 (C := R_Mo) (T := F_Mo) (N := 6) (ref := "WallFractionsModel") rfl i_Mo 0 (by decide) rfl w_771 rfl d_Mo_multiply_19 ?_
    refine hw_if_le (tgt := 26) hx hb d_Mo_multiply_22 (by decide) (by decide) (fun c9 => absurd c9 (by decide)) (fun _ => ?_)
    exact hw_vret hx hb hr hlocks hI d_Mo_multiply_25 ⟨rfl, rfl, by rw [e9]; exact ⟨_, _, _, hn, hR⟩, hF⟩
set_option maxHeartbeats 4000000 in
set_option maxRecDepth 100000 in
theorem c_Mo_divide (l : Launch) (D : va_G) (t0 : Nat) (L : List Nat) (f : Nat → va_E) (sz : Nat) (mm mc ml mg mw mr : Nat) (th : Int32) (σ : Sg) (wt : Nat → Nat) (r0 a0 b0 : Int32) (hM : Mg D L f mm mc ml mg mw mr th σ wt) (hok : Ok σ wt) : Met l y_Mo_divide (Cond.code y_Mo_divide b_Mo_divide 4 none :: TT) ({ frames := 5, cells := 0, slots := 0, locals := 131 } : Room) (hw_Pc t0 [.ref (mm), .int (r0), .int (a0), .int (b0)] D L f sz) (hw_Q D L sz (fun oc L' f' => oc = .returned none ∧ L = L' ∧ Mg D L f' mm mc ml mg mw mr (nI (opDiv σ r0 a0 b0).1) (opDiv σ r0 a0 b0).2 wt ∧ Fo mm mc ml mg mw mr f f')) 0 0 (hw_A L sz) := by
  refine Met.ofW (cc := b_Mo_divide) (maxL := 4) (ret := none) (by decide) rfl ?_
  intro p e s m args below meth c s₁ B hml hv
  obtain ⟨rfl, rfl, hI⟩ := hw_start hv
  clear hv
  have hx := B.exec
  have hb := B.bytes
  have hr := B.returns
  have hlocks := B.notSynchronized
  have hown : s.vm.findClass "WallFractionsModel" = some m.cls := findClass_of_methodNamed B.named
  have hT : ∀ w ∈ TT, w.before ([.ref (mm), .int (r0), .int (a0), .int (b0)]).toArray s = true := fun w h => atoms_spec (ws := (Cond.code y_Mo_divide b_Mo_divide 4 none :: TT)) B.pre w (List.mem_cons_of_mem _ h)
  have S : CallFix p m c b_Mo_divide 4 s ([.ref (mm), .int (r0), .int (a0), .int (b0)]).toArray TT "WallFractionsModel" := ⟨hx, hb, hml, hown, hT⟩
  have hl := lv_entry ([.ref (mm), .int (r0), .int (a0), .int (b0)]) (n := 4) (Nat.le_of_ble_eq_true rfl)
  rw [lg_entry_eq]
  generalize (lg_sl ([.ref (mm), .int (r0), .int (a0), .int (b0)]) ++ List.replicate (4 - (lg_sl ([.ref (mm), .int (r0), .int (a0), .int (b0)])).length) Slot.unset).toArray = ls at hl ⊢
  have hl : lv_has ls 4 [(0, .ref (mm)), (1, .int (r0)), (2, .int (a0)), (3, .int (b0))] := hl
  skip
  obtain ⟨y, sn, rr, hn, hR⟩ := hM
  have hF : Fo mm mc ml mg mw mr f f := Fo.refl
  obtain ⟨cs, ns, hm, hc⟩ := id hn
  by_cases hv : (vr r0 && vr a0 && vr b0) = true
  · refine lv_aload_n hx hb d_Mo_divide_0 rfl (lv_at hl 0 rfl) ?_
    refine lv_iload_n hx hb d_Mo_divide_1 rfl (lv_at hl 1 rfl) ?_
    refine lv_iload_n hx hb d_Mo_divide_2 rfl (lv_at hl 2 rfl) ?_
    refine lv_iload_n hx hb d_Mo_divide_3 rfl (lv_at hl 3 rfl) ?_
    refine hw_cS (As := [.int (r0), .int (a0), .int (b0)]) (rest := [.ref (mm)]) S hI m_Mo_areThere w_859 (c_Mo_areThere l D t0 L _ _ r0 a0 b0) hl.1 rfl rfl (Nat.le_of_ble_eq_true rfl) d_Mo_divide_4 ⟨Nat.le_of_ble_eq_true rfl, Nat.le_of_ble_eq_true rfl⟩ ⟨Nat.le_of_ble_eq_true rfl, Nat.le_of_ble_eq_true rfl⟩ (fun v9 L9 f114 H locs hp hI => ?_)
    refine W.cs (cells' := 0) (slots' := 0) rfl rfl ?_
    obtain ⟨hv9, rfl, rfl⟩ := hp
    cases hv9
    refine hw_stk (st' := [.int (if (vr r0 && vr a0 && vr b0) = true then nI 1 else nI 0), .ref (mm)]) rfl ?_
    refine hw_ti (show _ = nI 1 from by rw [if_pos hv]) ?_
    refine hw_if_ne (tgt := 14) hx hb d_Mo_divide_7 (by decide) (by decide) (fun _ => ?_) (fun c9 => absurd c9 (by decide))
    obtain ⟨vr9, va9, vb9⟩ := and3 hv
    obtain ⟨r, hr9, rfl⟩ := vr_nat vr9
    obtain ⟨a, ha9, rfl⟩ := vr_nat va9
    obtain ⟨b, hb9, rfl⟩ := vr_nat vb9
    have oka := hok.1 a ha9
    have lta := oka.lt4
    have okb := hok.1 b hb9
    have ltb := okb.lt4
    refine lv_aload_n hx hb d_Mo_divide_14 rfl (lv_at hl 0 rfl) ?_
    refine ob_get S hI hm.1 (C := R_Mo) (T := F_Mo) (N := 6) (ref := "WallFractionsModel") rfl i_Mo 3 (by decide) rfl w_774 rfl d_Mo_divide_15 ?_
    refine lv_iload_n hx hb d_Mo_divide_18 rfl (lv_at hl 3 rfl) ?_
    refine ia_ldR S hI hm.2.2.2.1 (by decide) (by omega) d_Mo_divide_19 ?_
    refine hw_ti (show _ = sgI (σ b) from (hR b hb9).2.2) ?_
    refine lv_if_ne (tgt := 27) hx hb d_Mo_divide_20 (by decide) (fun c115 => ?_) (fun c115 => ?_)
    · have hnz : (σ b).1 ≠ 0 := fun q => c115 (sgI_eq0.mpr q)
      refine lv_iconst (v := nI 0) hx hb d_Mo_divide_27 (by decide) ?_
      refine ob_put S hI hm.1 (fs' := [.int (nI 0), .ref (mc), .ref (ml), .ref (mg), .ref (mw), .ref (mr)]) (C := R_Mo) (T := F_Mo) (N := 6) (ref := "WallFractionsModel") rfl i_Mo t_Mo t_Mo_ok n_Mo 0 (by decide) rfl w_771 rfl rfl rfl (by simp only [List.length]; decide) rfl d_Mo_divide_28 (fun f117 H locs hI hO9 hf117 => ?_)
      have hm := hm.umm hf117 hO9
      have hF := hF.umm hf117
      have hn := (⟨_, _, hm, hc⟩ : Mn D L _ mm mc ml mg mw mr _ _ _ _ _)
      refine lv_aload_n hx hb d_Mo_divide_31 rfl (lv_at hl 0 rfl) ?_
      refine ob_get S hI hm.1 (C := R_Mo) (T := F_Mo) (N := 6) (ref := "WallFractionsModel") rfl i_Mo 0 (by decide) rfl w_771 rfl d_Mo_divide_32 ?_
      refine hw_if_le (tgt := 39) hx hb d_Mo_divide_35 (by decide) (by decide) (fun _ => ?_) (fun c9 => absurd c9 (by decide))
      have h34 : 0 < (σ a).2.1 * (σ b).1 := Nat.mul_pos oka.2.2.1 (Nat.pos_of_ne_zero hnz)
      refine lv_aload_n hx hb d_Mo_divide_39 rfl (lv_at hl 0 rfl) ?_
      refine lv_bipush (v := nI 32) hx hb d_Mo_divide_40 (by decide) ?_
      refine lv_iload_n hx hb d_Mo_divide_42 rfl (lv_at hl 2 rfl) ?_
      refine lv_bipush (v := nI 16) hx hb d_Mo_divide_43 (by decide) ?_
      refine lv_iload_n hx hb d_Mo_divide_45 rfl (lv_at hl 3 rfl) ?_
      refine lv_iadd hx hb d_Mo_divide_46 ?_
      refine hw_ti (nI_add _ _) ?_
      refine hw_cV (As := [.int (nI 32), .int (nI a), .int (nI (16 + b))]) (rest := []) S hI m_Mo_product w_866 (c_Mo_product l D t0 L _ _ mm mc ml mg mw mr (nI 0) y sn wt rr 32 a (16 + b) 45 45 hn (by decide) (by omega) (by omega) (by omega) (by omega) (by rw [(hR a ha9).1]; exact lta.1) (by rw [(hR b hb9).2.1]; exact ltb.2) (by decide)) hm.1 rfl hl.1 rfl rfl (Nat.le_of_ble_eq_true rfl) d_Mo_divide_47 ⟨Nat.le_of_ble_eq_true rfl, Nat.le_of_ble_eq_true rfl⟩ ⟨Nat.le_of_ble_eq_true rfl, Nat.le_of_ble_eq_true rfl⟩ (fun v9 L9 f118 H locs hp hI => ?_)
      refine W.cs (cells' := 0) (slots' := 0) rfl rfl ?_
      obtain ⟨hv9, rfl, hn, hF9⟩ := hp
      cases hv9
      refine hw_stk (st' := []) rfl ?_
      have hF := hF.trans hF9
      obtain ⟨y119, ey⟩ : ∃ z9, z9 = va_up y 32 (y a * y (16 + b)) := ⟨_, rfl⟩
      rw [← ey] at hn
      have q32 : y119 32 = (σ a).1 * (σ b).2.1 := by rw [ey]; rw [hw_up_eq, (hR a ha9).1, (hR b hb9).2.1]
      have k32 := q32
      have hR : RM σ y119 sn := by rw [ey]; exact hR.up (by decide)
      obtain ⟨cs, ns, hm, hc⟩ := id hn
      refine lv_aload_n hx hb d_Mo_divide_50 rfl (lv_at hl 0 rfl) ?_
      refine lv_bipush (v := nI 34) hx hb d_Mo_divide_51 (by decide) ?_
      refine lv_bipush (v := nI 16) hx hb d_Mo_divide_53 (by decide) ?_
      refine lv_iload_n hx hb d_Mo_divide_55 rfl (lv_at hl 2 rfl) ?_
      refine lv_iadd hx hb d_Mo_divide_56 ?_
      refine hw_ti (nI_add _ _) ?_
      refine lv_iload_n hx hb d_Mo_divide_57 rfl (lv_at hl 3 rfl) ?_
      refine hw_cV (As := [.int (nI 34), .int (nI (16 + a)), .int (nI b)]) (rest := []) S hI m_Mo_product w_866 (c_Mo_product l D t0 L _ _ mm mc ml mg mw mr (nI 0) y119 sn wt rr 34 (16 + a) b 45 45 hn (by decide) (by omega) (by omega) (by omega) (by omega) (by rw [(hR a ha9).2.1]; exact lta.2) (by rw [(hR b hb9).1]; exact ltb.1) (by decide)) hm.1 rfl hl.1 rfl rfl (Nat.le_of_ble_eq_true rfl) d_Mo_divide_58 ⟨Nat.le_of_ble_eq_true rfl, Nat.le_of_ble_eq_true rfl⟩ ⟨Nat.le_of_ble_eq_true rfl, Nat.le_of_ble_eq_true rfl⟩ (fun v9 L9 f120 H locs hp hI => ?_)
      refine W.cs (cells' := 0) (slots' := 0) rfl rfl ?_
      obtain ⟨hv9, rfl, hn, hF9⟩ := hp
      cases hv9
      refine hw_stk (st' := []) rfl ?_
      have hF := hF.trans hF9
      obtain ⟨y121, ey⟩ : ∃ z9, z9 = va_up y119 34 (y119 (16 + a) * y119 b) := ⟨_, rfl⟩
      rw [← ey] at hn
      have q34 : y121 34 = (σ a).2.1 * (σ b).1 := by rw [ey]; rw [hw_up_eq, (hR a ha9).2.1, (hR b hb9).1]
      have q32 : y121 32 = (σ a).1 * (σ b).2.1 := by rw [ey, hw_up_ne (by decide)]; exact k32
      have k34 := q34
      have k32 := q32
      have hR : RM σ y121 sn := by rw [ey]; exact hR.up (by decide)
      obtain ⟨cs, ns, hm, hc⟩ := id hn
      refine lv_aload_n hx hb d_Mo_divide_61 rfl (lv_at hl 0 rfl) ?_
      refine lv_aload_n hx hb d_Mo_divide_62 rfl (lv_at hl 0 rfl) ?_
      refine lv_iload_n hx hb d_Mo_divide_63 rfl (lv_at hl 1 rfl) ?_
      refine lv_aload_n hx hb d_Mo_divide_64 rfl (lv_at hl 0 rfl) ?_
      refine ob_get S hI hm.1 (C := R_Mo) (T := F_Mo) (N := 6) (ref := "WallFractionsModel") rfl i_Mo 3 (by decide) rfl w_774 rfl d_Mo_divide_65 ?_
      refine lv_iload_n hx hb d_Mo_divide_68 rfl (lv_at hl 2 rfl) ?_
      refine ia_ldR S hI hm.2.2.2.1 (by decide) (by omega) d_Mo_divide_69 ?_
      refine lv_aload_n hx hb d_Mo_divide_70 rfl (lv_at hl 0 rfl) ?_
      refine ob_get S hI hm.1 (C := R_Mo) (T := F_Mo) (N := 6) (ref := "WallFractionsModel") rfl i_Mo 3 (by decide) rfl w_774 rfl d_Mo_divide_71 ?_
      refine lv_iload_n hx hb d_Mo_divide_74 rfl (lv_at hl 3 rfl) ?_
      refine ia_ldR S hI hm.2.2.2.1 (by decide) (by omega) d_Mo_divide_75 ?_
      refine lv_imul hx hb d_Mo_divide_76 ?_
      refine hw_cV (As := [.int (nI r), .int ((sn a) * (sn b))]) (rest := [.ref (mm)]) S hI m_Mo_finish w_802 (c_Mo_finish l D t0 L _ _ mm mc ml mg mw mr (nI 0) y121 sn wt rr σ r (sn a * sn b) ((σ a).2.2 != (σ b).2.2) hn hR hr9 (by rw [k34]; exact h34) (by rw [k32]; exact (fun h => by rw [(hR a ha9).2.2, (hR b hb9).2.2]; exact sgI_mul (fun q => h (by rw [q, Nat.zero_mul])) hnz))) hm.1 rfl hl.1 rfl rfl (Nat.le_of_ble_eq_true rfl) d_Mo_divide_77 ⟨Nat.le_of_ble_eq_true rfl, Nat.le_of_ble_eq_true rfl⟩ ⟨Nat.le_of_ble_eq_true rfl, Nat.le_of_ble_eq_true rfl⟩ (fun v9 L9 f122 H locs hp hI => ?_)
      refine W.cs (cells' := 0) (slots' := 0) rfl rfl ?_
      obtain ⟨hv9, rfl, ⟨y9, sn9, hn, hR⟩, hF9⟩ := hp
      cases hv9
      refine hw_stk (st' := [.int (if fitR (lows (y121 32) (y121 34) ((σ a).2.2 != (σ b).2.2)) = true then nI 1 else nI 0), .ref (mm)]) rfl ?_
      have hF := hF.trans hF9
      rw [k32, k34] at hR
      obtain ⟨cs, ns, hm, hc⟩ := id hn
      by_cases hfit : fitR (lows ((σ a).1 * (σ b).2.1) ((σ a).2.1 * (σ b).1) ((σ a).2.2 != (σ b).2.2)) = true
      · refine hw_ti (show _ = nI 1 from by rw [k32, k34, if_pos hfit]) ?_
        rw [if_pos hfit] at hR
        refine hw_if_eq (tgt := 87) hx hb d_Mo_divide_80 (by decide) (by decide) (fun c9 => absurd c9 (by decide)) (fun _ => ?_)
        refine lv_iconst (v := nI 0) hx hb d_Mo_divide_83 (by decide) ?_
        refine lv_goto (tgt := 88) hx hb d_Mo_divide_84 (by decide) ?_
        refine ob_put S hI hm.1 (fs' := [.int (nI 0), .ref (mc), .ref (ml), .ref (mg), .ref (mw), .ref (mr)]) (C := R_Mo) (T := F_Mo) (N := 6) (ref := "WallFractionsModel") rfl i_Mo t_Mo t_Mo_ok n_Mo 0 (by decide) rfl w_771 rfl rfl rfl (by simp only [List.length]; decide) rfl d_Mo_divide_88 (fun f123 H locs hI hO9 hf123 => ?_)
        have hm := hm.umm hf123 hO9
        have hF := hF.umm hf123
        have hn := (⟨_, _, hm, hc⟩ : Mn D L _ mm mc ml mg mw mr _ _ _ _ _)
        exact hw_vret hx hb hr hlocks hI d_Mo_divide_91 ⟨rfl, rfl, by rw [show opDiv σ (nI r) (nI a) (nI b) = (0, va_up σ r (lows ((σ a).1 * (σ b).2.1) ((σ a).2.1 * (σ b).1) ((σ a).2.2 != (σ b).2.2))) from by unfold opDiv; rw [if_pos hv, if_neg (by rw [ix_nI (by omega)]; exact hnz), putR_eq, ix_nI (by omega), ix_nI (by omega), ix_nI (by omega), if_pos hfit]]; exact ⟨_, _, _, hn, hR⟩, hF⟩
      · refine hw_ti (show _ = nI 0 from by rw [k32, k34, if_neg hfit]) ?_
        rw [if_neg hfit] at hR
        refine hw_if_eq (tgt := 87) hx hb d_Mo_divide_80 (by decide) (by decide) (fun _ => ?_) (fun c9 => absurd c9 (by decide))
        refine lv_iconst (v := nI 3) hx hb d_Mo_divide_87 (by decide) ?_
        refine ob_put S hI hm.1 (fs' := [.int (nI 3), .ref (mc), .ref (ml), .ref (mg), .ref (mw), .ref (mr)]) (C := R_Mo) (T := F_Mo) (N := 6) (ref := "WallFractionsModel") rfl i_Mo t_Mo t_Mo_ok n_Mo 0 (by decide) rfl w_771 rfl rfl rfl (by simp only [List.length]; decide) rfl d_Mo_divide_88 (fun f124 H locs hI hO9 hf124 => ?_)
        have hm := hm.umm hf124 hO9
        have hF := hF.umm hf124
        have hn := (⟨_, _, hm, hc⟩ : Mn D L _ mm mc ml mg mw mr _ _ _ _ _)
        exact hw_vret hx hb hr hlocks hI d_Mo_divide_91 ⟨rfl, rfl, by rw [show opDiv σ (nI r) (nI a) (nI b) = (3, σ) from by unfold opDiv; rw [if_pos hv, if_neg (by rw [ix_nI (by omega)]; exact hnz), putR_eq, ix_nI (by omega), ix_nI (by omega), ix_nI (by omega), if_neg hfit]]; exact ⟨_, _, _, hn, hR⟩, hF⟩
    · have hz := sgI_eq0.mp c115
      have e9 : opDiv σ (nI r) (nI a) (nI b) = (2, σ) := by unfold opDiv; rw [if_pos hv, if_pos (by rw [ix_nI (by omega)]; exact hz)]
      refine lv_iconst (v := nI 2) hx hb d_Mo_divide_23 (by decide) ?_
      refine lv_goto (tgt := 28) hx hb d_Mo_divide_24 (by decide) ?_
      refine ob_put S hI hm.1 (fs' := [.int (nI 2), .ref (mc), .ref (ml), .ref (mg), .ref (mw), .ref (mr)]) (C := R_Mo) (T := F_Mo) (N := 6) (ref := "WallFractionsModel") rfl i_Mo t_Mo t_Mo_ok n_Mo 0 (by decide) rfl w_771 rfl rfl rfl (by simp only [List.length]; decide) rfl d_Mo_divide_28 (fun f116 H locs hI hO9 hf116 => ?_)
      have hm := hm.umm hf116 hO9
      have hF := hF.umm hf116
      have hn := (⟨_, _, hm, hc⟩ : Mn D L _ mm mc ml mg mw mr _ _ _ _ _)
      refine lv_aload_n hx hb d_Mo_divide_31 rfl (lv_at hl 0 rfl) ?_
      refine ob_get S hI hm.1 (C := R_Mo) (T := F_Mo) (N := 6) (ref := "WallFractionsModel") rfl i_Mo 0 (by decide) rfl w_771 rfl d_Mo_divide_32 ?_
      refine hw_if_le (tgt := 39) hx hb d_Mo_divide_35 (by decide) (by decide) (fun c9 => absurd c9 (by decide)) (fun _ => ?_)
      exact hw_vret hx hb hr hlocks hI d_Mo_divide_38 ⟨rfl, rfl, by rw [e9]; exact ⟨_, _, _, hn, hR⟩, hF⟩
  · refine lv_aload_n hx hb d_Mo_divide_0 rfl (lv_at hl 0 rfl) ?_
    refine lv_iload_n hx hb d_Mo_divide_1 rfl (lv_at hl 1 rfl) ?_
    refine lv_iload_n hx hb d_Mo_divide_2 rfl (lv_at hl 2 rfl) ?_
    refine lv_iload_n hx hb d_Mo_divide_3 rfl (lv_at hl 3 rfl) ?_
    refine hw_cS (As := [.int (r0), .int (a0), .int (b0)]) (rest := [.ref (mm)]) S hI m_Mo_areThere w_859 (c_Mo_areThere l D t0 L _ _ r0 a0 b0) hl.1 rfl rfl (Nat.le_of_ble_eq_true rfl) d_Mo_divide_4 ⟨Nat.le_of_ble_eq_true rfl, Nat.le_of_ble_eq_true rfl⟩ ⟨Nat.le_of_ble_eq_true rfl, Nat.le_of_ble_eq_true rfl⟩ (fun v9 L9 f112 H locs hp hI => ?_)
    refine W.cs (cells' := 0) (slots' := 0) rfl rfl ?_
    obtain ⟨hv9, rfl, rfl⟩ := hp
    cases hv9
    refine hw_stk (st' := [.int (if (vr r0 && vr a0 && vr b0) = true then nI 1 else nI 0), .ref (mm)]) rfl ?_
    refine hw_ti (show _ = nI 0 from by rw [if_neg hv]) ?_
    refine hw_if_ne (tgt := 14) hx hb d_Mo_divide_7 (by decide) (by decide) (fun c9 => absurd c9 (by decide)) (fun _ => ?_)
    have e9 : opDiv σ r0 a0 b0 = (1, σ) := by unfold opDiv; rw [if_neg hv]
    refine lv_iconst (v := nI 1) hx hb d_Mo_divide_10 (by decide) ?_
    refine lv_goto (tgt := 28) hx hb d_Mo_divide_11 (by decide) ?_
    refine ob_put S hI hm.1 (fs' := [.int (nI 1), .ref (mc), .ref (ml), .ref (mg), .ref (mw), .ref (mr)]) (C := R_Mo) (T := F_Mo) (N := 6) (ref := "WallFractionsModel") rfl i_Mo t_Mo t_Mo_ok n_Mo 0 (by decide) rfl w_771 rfl rfl rfl (by simp only [List.length]; decide) rfl d_Mo_divide_28 (fun f113 H locs hI hO9 hf113 => ?_)
    have hm := hm.umm hf113 hO9
    have hF := hF.umm hf113
    have hn := (⟨_, _, hm, hc⟩ : Mn D L _ mm mc ml mg mw mr _ _ _ _ _)
    refine lv_aload_n hx hb d_Mo_divide_31 rfl (lv_at hl 0 rfl) ?_
    refine ob_get S hI hm.1 (C := R_Mo) (T := F_Mo) (N := 6) (ref := "WallFractionsModel") rfl i_Mo 0 (by decide) rfl w_771 rfl d_Mo_divide_32 ?_
    refine hw_if_le (tgt := 39) hx hb d_Mo_divide_35 (by decide) (by decide) (fun c9 => absurd c9 (by decide)) (fun _ => ?_)
    exact hw_vret hx hb hr hlocks hI d_Mo_divide_38 ⟨rfl, rfl, by rw [e9]; exact ⟨_, _, _, hn, hR⟩, hF⟩
set_option maxHeartbeats 4000000 in
set_option maxRecDepth 100000 in
theorem c_Mo_sum (l : Launch) (D : va_G) (t0 : Nat) (L : List Nat) (f : Nat → va_E) (sz : Nat) (mm mc ml mg mw mr : Nat) (th : Int32) (σ : Sg) (wt : Nat → Nat) (r a b : Nat) (sb : Int32) (nb : Bool) (hM : Mg D L f mm mc ml mg mw mr th σ wt) (hok : Ok σ wt) (hr9 : r < 16) (ha9 : a < 16) (hb9 : b < 16) (hsb : sb = sgI ((σ b).1, (σ b).2.1, nb)) : Met l y_Mo_sum (Cond.code y_Mo_sum b_Mo_sum 6 none :: TT) ({ frames := 5, cells := 0, slots := 0, locals := 131 } : Room) (hw_Pc t0 [.ref (mm), .int (nI r), .int (nI a), .int (nI b), .int (sb)] D L f sz) (hw_Q D L sz (fun oc L' f' => oc = .returned none ∧ L = L' ∧ Mg D L f' mm mc ml mg mw mr (nI (if fitR (addV (σ a) (σ b) nb) = true then 0 else 2)) (if fitR (addV (σ a) (σ b) nb) = true then va_up σ r (addV (σ a) (σ b) nb) else σ) wt ∧ Fo mm mc ml mg mw mr f f')) 0 0 (hw_A L sz) := by
  refine Met.ofW (cc := b_Mo_sum) (maxL := 6) (ret := none) (by decide) rfl ?_
  intro p e s m args below meth c s₁ B hml hv
  obtain ⟨rfl, rfl, hI⟩ := hw_start hv
  clear hv
  have hx := B.exec
  have hb := B.bytes
  have hr := B.returns
  have hlocks := B.notSynchronized
  have hown : s.vm.findClass "WallFractionsModel" = some m.cls := findClass_of_methodNamed B.named
  have hT : ∀ w ∈ TT, w.before ([.ref (mm), .int (nI r), .int (nI a), .int (nI b), .int (sb)]).toArray s = true := fun w h => atoms_spec (ws := (Cond.code y_Mo_sum b_Mo_sum 6 none :: TT)) B.pre w (List.mem_cons_of_mem _ h)
  have S : CallFix p m c b_Mo_sum 6 s ([.ref (mm), .int (nI r), .int (nI a), .int (nI b), .int (sb)]).toArray TT "WallFractionsModel" := ⟨hx, hb, hml, hown, hT⟩
  have hl := lv_entry ([.ref (mm), .int (nI r), .int (nI a), .int (nI b), .int (sb)]) (n := 6) (Nat.le_of_ble_eq_true rfl)
  rw [lg_entry_eq]
  generalize (lg_sl ([.ref (mm), .int (nI r), .int (nI a), .int (nI b), .int (sb)]) ++ List.replicate (6 - (lg_sl ([.ref (mm), .int (nI r), .int (nI a), .int (nI b), .int (sb)])).length) Slot.unset).toArray = ls at hl ⊢
  have hl : lv_has ls 6 [(0, .ref (mm)), (1, .int (nI r)), (2, .int (nI a)), (3, .int (nI b)), (4, .int (sb))] := hl
  skip
  obtain ⟨y, sn, rr, hn, hR⟩ := hM
  have hF : Fo mm mc ml mg mw mr f f := Fo.refl
  obtain ⟨cs, ns, hm, hc⟩ := id hn
  have oka := hok.1 a ha9
  have lta := oka.lt4
  have okb := hok.1 b hb9
  have ltb := okb.lt4
  obtain ⟨l0, hl0⟩ : ∃ z9, z9 = (σ a).1 * (σ b).2.1 := ⟨_, rfl⟩
  obtain ⟨r1, hr1⟩ : ∃ z9, z9 = (σ b).1 * (σ a).2.1 := ⟨_, rfl⟩
  obtain ⟨d1, hd1⟩ : ∃ z9, z9 = (σ a).2.1 * (σ b).2.1 := ⟨_, rfl⟩
  have hl4 : l0 < 10000 ^ 90 := by rw [hl0]; exact p90 lta.1 ltb.2
  have hr4 : r1 < 10000 ^ 90 := by rw [hr1]; exact p90 ltb.1 lta.2
  have zu : (σ a).1 = 0 ↔ l0 = 0 := by rw [hl0]; exact mul0 okb.2.2.1
  have zv : (σ b).1 = 0 ↔ r1 = 0 := by rw [hr1]; exact mul0 oka.2.2.1
  have hadd : addV (σ a) (σ b) nb = lows (tot l0 r1 (σ a).2.2 nb) d1 (tots l0 r1 (σ a).2.2 nb) := by rw [hl0, hr1, hd1]; rfl
  have h34 : 0 < d1 := by rw [hd1]; exact Nat.mul_pos oka.2.2.1 okb.2.2.1
  refine lv_aload_n hx hb d_Mo_sum_0 rfl (lv_at hl 0 rfl) ?_
  refine lv_bipush (v := nI 32) hx hb d_Mo_sum_1 (by decide) ?_
  refine lv_iload_n hx hb d_Mo_sum_3 rfl (lv_at hl 2 rfl) ?_
  refine lv_bipush (v := nI 16) hx hb d_Mo_sum_4 (by decide) ?_
  refine lv_iload_n hx hb d_Mo_sum_6 rfl (lv_at hl 3 rfl) ?_
  refine lv_iadd hx hb d_Mo_sum_7 ?_
  refine hw_ti (nI_add _ _) ?_
  refine hw_cV (As := [.int (nI 32), .int (nI a), .int (nI (16 + b))]) (rest := []) S hI m_Mo_product w_866 (c_Mo_product l D t0 L _ _ mm mc ml mg mw mr th y sn wt rr 32 a (16 + b) 45 45 hn (by decide) (by omega) (by omega) (by omega) (by omega) (by rw [(hR a ha9).1]; exact lta.1) (by rw [(hR b hb9).2.1]; exact ltb.2) (by decide)) hm.1 rfl hl.1 rfl rfl (Nat.le_of_ble_eq_true rfl) d_Mo_sum_8 ⟨Nat.le_of_ble_eq_true rfl, Nat.le_of_ble_eq_true rfl⟩ ⟨Nat.le_of_ble_eq_true rfl, Nat.le_of_ble_eq_true rfl⟩ (fun v9 L9 f125 H locs hp hI => ?_)
  refine W.cs (cells' := 0) (slots' := 0) rfl rfl ?_
  obtain ⟨hv9, rfl, hn, hF9⟩ := hp
  cases hv9
  refine hw_stk (st' := []) rfl ?_
  have hF := hF.trans hF9
  obtain ⟨y126, ey⟩ : ∃ z9, z9 = va_up y 32 (y a * y (16 + b)) := ⟨_, rfl⟩
  rw [← ey] at hn
  have q32 : y126 32 = l0 := by rw [ey]; rw [hw_up_eq, (hR a ha9).1, (hR b hb9).2.1, hl0]
  have k32 := q32
  have hR : RM σ y126 sn := by rw [ey]; exact hR.up (by decide)
  obtain ⟨cs, ns, hm, hc⟩ := id hn
  refine lv_aload_n hx hb d_Mo_sum_11 rfl (lv_at hl 0 rfl) ?_
  refine lv_bipush (v := nI 33) hx hb d_Mo_sum_12 (by decide) ?_
  refine lv_iload_n hx hb d_Mo_sum_14 rfl (lv_at hl 3 rfl) ?_
  refine lv_bipush (v := nI 16) hx hb d_Mo_sum_15 (by decide) ?_
  refine lv_iload_n hx hb d_Mo_sum_17 rfl (lv_at hl 2 rfl) ?_
  refine lv_iadd hx hb d_Mo_sum_18 ?_
  refine hw_ti (nI_add _ _) ?_
  refine hw_cV (As := [.int (nI 33), .int (nI b), .int (nI (16 + a))]) (rest := []) S hI m_Mo_product w_866 (c_Mo_product l D t0 L _ _ mm mc ml mg mw mr th y126 sn wt rr 33 b (16 + a) 45 45 hn (by decide) (by omega) (by omega) (by omega) (by omega) (by rw [(hR b hb9).1]; exact ltb.1) (by rw [(hR a ha9).2.1]; exact lta.2) (by decide)) hm.1 rfl hl.1 rfl rfl (Nat.le_of_ble_eq_true rfl) d_Mo_sum_19 ⟨Nat.le_of_ble_eq_true rfl, Nat.le_of_ble_eq_true rfl⟩ ⟨Nat.le_of_ble_eq_true rfl, Nat.le_of_ble_eq_true rfl⟩ (fun v9 L9 f127 H locs hp hI => ?_)
  refine W.cs (cells' := 0) (slots' := 0) rfl rfl ?_
  obtain ⟨hv9, rfl, hn, hF9⟩ := hp
  cases hv9
  refine hw_stk (st' := []) rfl ?_
  have hF := hF.trans hF9
  obtain ⟨y128, ey⟩ : ∃ z9, z9 = va_up y126 33 (y126 b * y126 (16 + a)) := ⟨_, rfl⟩
  rw [← ey] at hn
  have q33 : y128 33 = r1 := by rw [ey]; rw [hw_up_eq, (hR b hb9).1, (hR a ha9).2.1, hr1]
  have q32 : y128 32 = l0 := by rw [ey, hw_up_ne (by decide)]; exact k32
  have k33 := q33
  have k32 := q32
  have hR : RM σ y128 sn := by rw [ey]; exact hR.up (by decide)
  obtain ⟨cs, ns, hm, hc⟩ := id hn
  refine lv_aload_n hx hb d_Mo_sum_22 rfl (lv_at hl 0 rfl) ?_
  refine lv_bipush (v := nI 34) hx hb d_Mo_sum_23 (by decide) ?_
  refine lv_bipush (v := nI 16) hx hb d_Mo_sum_25 (by decide) ?_
  refine lv_iload_n hx hb d_Mo_sum_27 rfl (lv_at hl 2 rfl) ?_
  refine lv_iadd hx hb d_Mo_sum_28 ?_
  refine hw_ti (nI_add _ _) ?_
  refine lv_bipush (v := nI 16) hx hb d_Mo_sum_29 (by decide) ?_
  refine lv_iload_n hx hb d_Mo_sum_31 rfl (lv_at hl 3 rfl) ?_
  refine lv_iadd hx hb d_Mo_sum_32 ?_
  refine hw_ti (nI_add _ _) ?_
  refine hw_cV (As := [.int (nI 34), .int (nI (16 + a)), .int (nI (16 + b))]) (rest := []) S hI m_Mo_product w_866 (c_Mo_product l D t0 L _ _ mm mc ml mg mw mr th y128 sn wt rr 34 (16 + a) (16 + b) 45 45 hn (by decide) (by omega) (by omega) (by omega) (by omega) (by rw [(hR a ha9).2.1]; exact lta.2) (by rw [(hR b hb9).2.1]; exact ltb.2) (by decide)) hm.1 rfl hl.1 rfl rfl (Nat.le_of_ble_eq_true rfl) d_Mo_sum_33 ⟨Nat.le_of_ble_eq_true rfl, Nat.le_of_ble_eq_true rfl⟩ ⟨Nat.le_of_ble_eq_true rfl, Nat.le_of_ble_eq_true rfl⟩ (fun v9 L9 f129 H locs hp hI => ?_)
  refine W.cs (cells' := 0) (slots' := 0) rfl rfl ?_
  obtain ⟨hv9, rfl, hn, hF9⟩ := hp
  cases hv9
  refine hw_stk (st' := []) rfl ?_
  have hF := hF.trans hF9
  obtain ⟨y130, ey⟩ : ∃ z9, z9 = va_up y128 34 (y128 (16 + a) * y128 (16 + b)) := ⟨_, rfl⟩
  rw [← ey] at hn
  have q34 : y130 34 = d1 := by rw [ey]; rw [hw_up_eq, (hR a ha9).2.1, (hR b hb9).2.1, hd1]
  have q33 : y130 33 = r1 := by rw [ey, hw_up_ne (by decide)]; exact k33
  have q32 : y130 32 = l0 := by rw [ey, hw_up_ne (by decide)]; exact k32
  have k34 := q34
  have k33 := q33
  have k32 := q32
  have hR : RM σ y130 sn := by rw [ey]; exact hR.up (by decide)
  obtain ⟨cs, ns, hm, hc⟩ := id hn
  have hl0c := hsb
  refine lv_aload_n hx hb d_Mo_sum_36 rfl (lv_at hl 0 rfl) ?_
  refine ob_get S hI hm.1 (C := R_Mo) (T := F_Mo) (N := 6) (ref := "WallFractionsModel") rfl i_Mo 3 (by decide) rfl w_774 rfl d_Mo_sum_37 ?_
  refine lv_iload_n hx hb d_Mo_sum_40 rfl (lv_at hl 2 rfl) ?_
  refine ia_ldR S hI hm.2.2.2.1 (by decide) (by omega) d_Mo_sum_41 ?_
  refine hw_ti (show _ = sgI (σ a) from (hR a ha9).2.2) ?_
  refine lv_istore (lv' := [(5, .int (sgI (σ a))), (0, .ref (mm)), (1, .int (nI r)), (2, .int (nI a)), (3, .int (nI b)), (4, .int (sb))]) hx hb d_Mo_sum_42 hl (by decide) rfl (fun ls hl => ?_)
  refine lv_aload_n hx hb d_Mo_sum_44 rfl (lv_at hl 1 rfl) ?_
  refine ob_get S hI hm.1 (C := R_Mo) (T := F_Mo) (N := 6) (ref := "WallFractionsModel") rfl i_Mo 3 (by decide) rfl w_774 rfl d_Mo_sum_45 ?_
  refine lv_iload_n hx hb d_Mo_sum_48 rfl (lv_at hl 3 rfl) ?_
  refine ia_ldR S hI hm.2.2.2.1 (by decide) (by omega) d_Mo_sum_49 ?_
  refine hw_ti (show _ = sgI (σ a) from (hR a ha9).2.2) ?_
  refine lv_iload hx hb d_Mo_sum_50 (lv_at hl 5 rfl) ?_
  refine lv_icmp_eq (tgt := 60) hx hb d_Mo_sum_52 (by decide) (fun c131 => ?_) (fun c131 => ?_)
  · refine lv_aload_n hx hb d_Mo_sum_60 rfl (lv_at hl 1 rfl) ?_
    refine lv_bipush (v := nI 32) hx hb d_Mo_sum_61 (by decide) ?_
    refine lv_bipush (v := nI 32) hx hb d_Mo_sum_63 (by decide) ?_
    refine lv_bipush (v := nI 33) hx hb d_Mo_sum_65 (by decide) ?_
    refine hw_cV (As := [.int (nI 32), .int (nI 32), .int (nI 33)]) (rest := []) S hI m_Mo_plus w_870 (c_Mo_plus l D t0 L _ _ mm mc ml mg mw mr th y130 sn wt rr 32 32 33 hn (by decide) (by decide) (by decide) (by rw [k32]; exact p4 127 hl4 (by decide)) (by rw [k33]; exact p4 127 hr4 (by decide))) hm.1 rfl hl.1 rfl rfl (Nat.le_of_ble_eq_true rfl) d_Mo_sum_67 ⟨Nat.le_of_ble_eq_true rfl, Nat.le_of_ble_eq_true rfl⟩ ⟨Nat.le_of_ble_eq_true rfl, Nat.le_of_ble_eq_true rfl⟩ (fun v9 L9 f132 H locs hp hI => ?_)
    refine W.cs (cells' := 0) (slots' := 0) rfl rfl ?_
    obtain ⟨hv9, rfl, hn, hF9⟩ := hp
    cases hv9
    refine hw_stk (st' := []) rfl ?_
    have hF := hF.trans hF9
    obtain ⟨y133, ey⟩ : ∃ z9, z9 = va_up y130 32 (y130 32 + y130 33) := ⟨_, rfl⟩
    rw [← ey] at hn
    have q32 : y133 32 = l0 + r1 := by rw [ey]; rw [hw_up_eq, k32, k33]
    have q34 : y133 34 = d1 := by rw [ey, hw_up_ne (by decide)]; exact k34
    have q33 : y133 33 = r1 := by rw [ey, hw_up_ne (by decide)]; exact k33
    have k32 := q32
    have k34 := q34
    have k33 := q33
    have hR : RM σ y133 sn := by rw [ey]; exact hR.up (by decide)
    obtain ⟨cs, ns, hm, hc⟩ := id hn
    obtain ⟨hq9, hs9⟩ := sum_plus (u := σ a) (v := σ b) (nb := nb) zu.mp zu.mpr zv (by rw [← hsb]; exact Or.inl c131) oka.2.2.2.2
    rw [hq9] at k32
    refine lv_goto (tgt := 119) hx hb d_Mo_sum_70 (by decide) ?_
    refine lv_aload_n hx hb d_Mo_sum_119 rfl (lv_at hl 1 rfl) ?_
    refine lv_aload_n hx hb d_Mo_sum_120 rfl (lv_at hl 1 rfl) ?_
    refine lv_iload_n hx hb d_Mo_sum_121 rfl (lv_at hl 2 rfl) ?_
    refine lv_iload hx hb d_Mo_sum_122 (lv_at hl 0 rfl) ?_
    refine hw_cV (As := [.int (nI r), .int (sgI (σ a))]) (rest := [.ref (mm)]) S hI m_Mo_finish w_802 (c_Mo_finish l D t0 L _ _ mm mc ml mg mw mr th y133 sn wt rr σ r (sgI (σ a)) (tots l0 r1 (σ a).2.2 nb) hn hR hr9 (by rw [k34]; exact h34) (by rw [k32]; exact hs9)) hm.1 rfl hl.1 rfl rfl (Nat.le_of_ble_eq_true rfl) d_Mo_sum_124 ⟨Nat.le_of_ble_eq_true rfl, Nat.le_of_ble_eq_true rfl⟩ ⟨Nat.le_of_ble_eq_true rfl, Nat.le_of_ble_eq_true rfl⟩ (fun v9 L9 f134 H locs hp hI => ?_)
    refine W.cs (cells' := 0) (slots' := 0) rfl rfl ?_
    obtain ⟨hv9, rfl, ⟨y9, sn9, hn, hR⟩, hF9⟩ := hp
    cases hv9
    refine hw_stk (st' := [.int (if fitR (lows (y133 32) (y133 34) (tots l0 r1 (σ a).2.2 nb)) = true then nI 1 else nI 0), .ref (mm)]) rfl ?_
    have hF := hF.trans hF9
    rw [k32, k34, ← hadd] at hR
    obtain ⟨cs, ns, hm, hc⟩ := id hn
    by_cases hfit : fitR (addV (σ a) (σ b) nb) = true
    · refine hw_ti (show _ = nI 1 from by rw [k32, k34, ← hadd, if_pos hfit]) ?_
      rw [if_pos hfit] at hR
      refine hw_if_eq (tgt := 134) hx hb d_Mo_sum_127 (by decide) (by decide) (fun c9 => absurd c9 (by decide)) (fun _ => ?_)
      refine lv_iconst (v := nI 0) hx hb d_Mo_sum_130 (by decide) ?_
      refine lv_goto (tgt := 135) hx hb d_Mo_sum_131 (by decide) ?_
      refine ob_put S hI hm.1 (fs' := [.int (nI 0), .ref (mc), .ref (ml), .ref (mg), .ref (mw), .ref (mr)]) (C := R_Mo) (T := F_Mo) (N := 6) (ref := "WallFractionsModel") rfl i_Mo t_Mo t_Mo_ok n_Mo 0 (by decide) rfl w_771 rfl rfl rfl (by simp only [List.length]; decide) rfl d_Mo_sum_135 (fun f135 H locs hI hO9 hf135 => ?_)
      have hm := hm.umm hf135 hO9
      have hF := hF.umm hf135
      have hn := (⟨_, _, hm, hc⟩ : Mn D L _ mm mc ml mg mw mr _ _ _ _ _)
      exact hw_vret hx hb hr hlocks hI d_Mo_sum_138 ⟨rfl, rfl, by rw [if_pos hfit, if_pos hfit]; exact ⟨_, _, _, hn, hR⟩, hF⟩
    · refine hw_ti (show _ = nI 0 from by rw [k32, k34, ← hadd, if_neg hfit]) ?_
      rw [if_neg hfit] at hR
      refine hw_if_eq (tgt := 134) hx hb d_Mo_sum_127 (by decide) (by decide) (fun _ => ?_) (fun c9 => absurd c9 (by decide))
      refine lv_iconst (v := nI 2) hx hb d_Mo_sum_134 (by decide) ?_
      refine ob_put S hI hm.1 (fs' := [.int (nI 2), .ref (mc), .ref (ml), .ref (mg), .ref (mw), .ref (mr)]) (C := R_Mo) (T := F_Mo) (N := 6) (ref := "WallFractionsModel") rfl i_Mo t_Mo t_Mo_ok n_Mo 0 (by decide) rfl w_771 rfl rfl rfl (by simp only [List.length]; decide) rfl d_Mo_sum_135 (fun f136 H locs hI hO9 hf136 => ?_)
      have hm := hm.umm hf136 hO9
      have hF := hF.umm hf136
      have hn := (⟨_, _, hm, hc⟩ : Mn D L _ mm mc ml mg mw mr _ _ _ _ _)
      exact hw_vret hx hb hr hlocks hI d_Mo_sum_138 ⟨rfl, rfl, by rw [if_neg hfit, if_neg hfit]; exact ⟨_, _, _, hn, hR⟩, hF⟩
  · refine lv_iload hx hb d_Mo_sum_55 (lv_at hl 5 rfl) ?_
    refine lv_if_ne (tgt := 73) hx hb d_Mo_sum_57 (by decide) (fun c137 => ?_) (fun c137 => ?_)
    · have h1 : ¬ sgI (σ a) = sgI ((σ b).1, (σ b).2.1, nb) := by rw [← hsb]; exact c131
      have h2 : ¬ sgI ((σ b).1, (σ b).2.1, nb) = 0 := by rw [← hsb]; exact c137
      refine lv_aload_n hx hb d_Mo_sum_73 rfl (lv_at hl 1 rfl) ?_
      refine lv_bipush (v := nI 32) hx hb d_Mo_sum_74 (by decide) ?_
      refine lv_bipush (v := nI 33) hx hb d_Mo_sum_76 (by decide) ?_
      refine hw_cV (As := [.int (nI 32), .int (nI 33)]) (rest := []) S hI m_Mo_order w_874 (c_Mo_order l D t0 L _ _ mm mc ml mg mw mr th y130 sn wt rr 32 33 hn (by decide) (by decide)) hm.1 rfl hl.1 rfl rfl (Nat.le_of_ble_eq_true rfl) d_Mo_sum_78 ⟨Nat.le_of_ble_eq_true rfl, Nat.le_of_ble_eq_true rfl⟩ ⟨Nat.le_of_ble_eq_true rfl, Nat.le_of_ble_eq_true rfl⟩ (fun v9 L9 f143 H locs hp hI => ?_)
      refine W.cs (cells' := 0) (slots' := 0) rfl rfl ?_
      obtain ⟨hv9, rfl, rfl⟩ := hp
      cases hv9
      refine hw_stk (st' := [.int (cmpN (y130 32) (y130 33))]) rfl ?_
      refine hw_ti (show _ = cmpN l0 r1 from by rw [k32, k33]) ?_
      refine lv_if_lt (tgt := 97) hx hb d_Mo_sum_81 (by decide) (fun c144 => ?_) (fun c144 => ?_)
      · have hlt : l0 < r1 := cmpN_neg.mp c144
        refine lv_aload_n hx hb d_Mo_sum_97 rfl (lv_at hl 1 rfl) ?_
        refine lv_bipush (v := nI 35) hx hb d_Mo_sum_98 (by decide) ?_
        refine lv_bipush (v := nI 33) hx hb d_Mo_sum_100 (by decide) ?_
        refine lv_bipush (v := nI 32) hx hb d_Mo_sum_102 (by decide) ?_
        refine hw_cV (As := [.int (nI 35), .int (nI 33), .int (nI 32)]) (rest := []) S hI m_Mo_less w_878 (c_Mo_less l D t0 L _ _ mm mc ml mg mw mr th y130 sn wt rr 35 33 32 hn (by decide) (by decide) (by decide) (by rw [k32, k33]; omega)) hm.1 rfl hl.1 rfl rfl (Nat.le_of_ble_eq_true rfl) d_Mo_sum_104 ⟨Nat.le_of_ble_eq_true rfl, Nat.le_of_ble_eq_true rfl⟩ ⟨Nat.le_of_ble_eq_true rfl, Nat.le_of_ble_eq_true rfl⟩ (fun v9 L9 f150 H locs hp hI => ?_)
        refine W.cs (cells' := 0) (slots' := 0) rfl rfl ?_
        obtain ⟨hv9, rfl, hn, hF9⟩ := hp
        cases hv9
        refine hw_stk (st' := []) rfl ?_
        have hF := hF.trans hF9
        obtain ⟨y151, ey⟩ : ∃ z9, z9 = va_up y130 35 (y130 33 - y130 32) := ⟨_, rfl⟩
        rw [← ey] at hn
        have q35 : y151 35 = r1 - l0 := by rw [ey]; rw [hw_up_eq, k32, k33]
        have q34 : y151 34 = d1 := by rw [ey, hw_up_ne (by decide)]; exact k34
        have q33 : y151 33 = r1 := by rw [ey, hw_up_ne (by decide)]; exact k33
        have q32 : y151 32 = l0 := by rw [ey, hw_up_ne (by decide)]; exact k32
        have k35 := q35
        have k34 := q34
        have k33 := q33
        have k32 := q32
        have hR : RM σ y151 sn := by rw [ey]; exact hR.up (by decide)
        obtain ⟨cs, ns, hm, hc⟩ := id hn
        refine lv_aload_n hx hb d_Mo_sum_107 rfl (lv_at hl 1 rfl) ?_
        refine lv_bipush (v := nI 32) hx hb d_Mo_sum_108 (by decide) ?_
        refine lv_bipush (v := nI 35) hx hb d_Mo_sum_110 (by decide) ?_
        refine hw_cV (As := [.int (nI 32), .int (nI 35)]) (rest := []) S hI m_Mo_copy w_810 (c_Mo_copy l D t0 L _ _ mm mc ml mg mw mr th y151 sn wt rr 32 35 hn (by decide) (by decide)) hm.1 rfl hl.1 rfl rfl (Nat.le_of_ble_eq_true rfl) d_Mo_sum_112 ⟨Nat.le_of_ble_eq_true rfl, Nat.le_of_ble_eq_true rfl⟩ ⟨Nat.le_of_ble_eq_true rfl, Nat.le_of_ble_eq_true rfl⟩ (fun v9 L9 f152 H locs hp hI => ?_)
        refine W.cs (cells' := 0) (slots' := 0) rfl rfl ?_
        obtain ⟨hv9, rfl, hn, hF9⟩ := hp
        cases hv9
        refine hw_stk (st' := []) rfl ?_
        have hF := hF.trans hF9
        obtain ⟨y153, ey⟩ : ∃ z9, z9 = va_up y151 32 (y151 35) := ⟨_, rfl⟩
        rw [← ey] at hn
        have q32 : y153 32 = r1 - l0 := by rw [ey]; rw [hw_up_eq]; exact k35
        have q35 : y153 35 = r1 - l0 := by rw [ey, hw_up_ne (by decide)]; exact k35
        have q34 : y153 34 = d1 := by rw [ey, hw_up_ne (by decide)]; exact k34
        have q33 : y153 33 = r1 := by rw [ey, hw_up_ne (by decide)]; exact k33
        have k32 := q32
        have k35 := q35
        have k34 := q34
        have k33 := q33
        have hR : RM σ y153 sn := by rw [ey]; exact hR.up (by decide)
        obtain ⟨cs, ns, hm, hc⟩ := id hn
        obtain ⟨hq9, hs9⟩ := (by rw [hsb]; exact sum_more (u := σ a) (v := σ b) (nb := nb) zu zv h1 h2 hlt oka.2.2.2.2 : r1 - l0 = tot l0 r1 (σ a).2.2 nb ∧ (tot l0 r1 (σ a).2.2 nb ≠ 0 → sb = if tots l0 r1 (σ a).2.2 nb then -1 else nI 1))
        rw [hq9] at k32
        refine lv_iload hx hb d_Mo_sum_115 (lv_at hl 5 rfl) ?_
        refine lv_istore (lv' := [(5, .int (sb)), (0, .ref (mm)), (1, .int (nI r)), (2, .int (nI a)), (3, .int (nI b)), (4, .int (sb))]) hx hb d_Mo_sum_117 hl (by decide) rfl (fun ls hl => ?_)
        refine lv_aload_n hx hb d_Mo_sum_119 rfl (lv_at hl 1 rfl) ?_
        refine lv_aload_n hx hb d_Mo_sum_120 rfl (lv_at hl 1 rfl) ?_
        refine lv_iload_n hx hb d_Mo_sum_121 rfl (lv_at hl 2 rfl) ?_
        refine lv_iload hx hb d_Mo_sum_122 (lv_at hl 0 rfl) ?_
        refine hw_cV (As := [.int (nI r), .int (sb)]) (rest := [.ref (mm)]) S hI m_Mo_finish w_802 (c_Mo_finish l D t0 L _ _ mm mc ml mg mw mr th y153 sn wt rr σ r sb (tots l0 r1 (σ a).2.2 nb) hn hR hr9 (by rw [k34]; exact h34) (by rw [k32]; exact hs9)) hm.1 rfl hl.1 rfl rfl (Nat.le_of_ble_eq_true rfl) d_Mo_sum_124 ⟨Nat.le_of_ble_eq_true rfl, Nat.le_of_ble_eq_true rfl⟩ ⟨Nat.le_of_ble_eq_true rfl, Nat.le_of_ble_eq_true rfl⟩ (fun v9 L9 f154 H locs hp hI => ?_)
        refine W.cs (cells' := 0) (slots' := 0) rfl rfl ?_
        obtain ⟨hv9, rfl, ⟨y9, sn9, hn, hR⟩, hF9⟩ := hp
        cases hv9
        refine hw_stk (st' := [.int (if fitR (lows (y153 32) (y153 34) (tots l0 r1 (σ a).2.2 nb)) = true then nI 1 else nI 0), .ref (mm)]) rfl ?_
        have hF := hF.trans hF9
        rw [k32, k34, ← hadd] at hR
        obtain ⟨cs, ns, hm, hc⟩ := id hn
        by_cases hfit : fitR (addV (σ a) (σ b) nb) = true
        · refine hw_ti (show _ = nI 1 from by rw [k32, k34, ← hadd, if_pos hfit]) ?_
          rw [if_pos hfit] at hR
          refine hw_if_eq (tgt := 134) hx hb d_Mo_sum_127 (by decide) (by decide) (fun c9 => absurd c9 (by decide)) (fun _ => ?_)
          refine lv_iconst (v := nI 0) hx hb d_Mo_sum_130 (by decide) ?_
          refine lv_goto (tgt := 135) hx hb d_Mo_sum_131 (by decide) ?_
          refine ob_put S hI hm.1 (fs' := [.int (nI 0), .ref (mc), .ref (ml), .ref (mg), .ref (mw), .ref (mr)]) (C := R_Mo) (T := F_Mo) (N := 6) (ref := "WallFractionsModel") rfl i_Mo t_Mo t_Mo_ok n_Mo 0 (by decide) rfl w_771 rfl rfl rfl (by simp only [List.length]; decide) rfl d_Mo_sum_135 (fun f155 H locs hI hO9 hf155 => ?_)
          have hm := hm.umm hf155 hO9
          have hF := hF.umm hf155
          have hn := (⟨_, _, hm, hc⟩ : Mn D L _ mm mc ml mg mw mr _ _ _ _ _)
          exact hw_vret hx hb hr hlocks hI d_Mo_sum_138 ⟨rfl, rfl, by rw [if_pos hfit, if_pos hfit]; exact ⟨_, _, _, hn, hR⟩, hF⟩
        · refine hw_ti (show _ = nI 0 from by rw [k32, k34, ← hadd, if_neg hfit]) ?_
          rw [if_neg hfit] at hR
          refine hw_if_eq (tgt := 134) hx hb d_Mo_sum_127 (by decide) (by decide) (fun _ => ?_) (fun c9 => absurd c9 (by decide))
          refine lv_iconst (v := nI 2) hx hb d_Mo_sum_134 (by decide) ?_
          refine ob_put S hI hm.1 (fs' := [.int (nI 2), .ref (mc), .ref (ml), .ref (mg), .ref (mw), .ref (mr)]) (C := R_Mo) (T := F_Mo) (N := 6) (ref := "WallFractionsModel") rfl i_Mo t_Mo t_Mo_ok n_Mo 0 (by decide) rfl w_771 rfl rfl rfl (by simp only [List.length]; decide) rfl d_Mo_sum_135 (fun f156 H locs hI hO9 hf156 => ?_)
          have hm := hm.umm hf156 hO9
          have hF := hF.umm hf156
          have hn := (⟨_, _, hm, hc⟩ : Mn D L _ mm mc ml mg mw mr _ _ _ _ _)
          exact hw_vret hx hb hr hlocks hI d_Mo_sum_138 ⟨rfl, rfl, by rw [if_neg hfit, if_neg hfit]; exact ⟨_, _, _, hn, hR⟩, hF⟩
      · have hle : r1 ≤ l0 := Nat.not_lt.mp (fun h => c144 (cmpN_neg.mpr h))
        refine lv_aload_n hx hb d_Mo_sum_84 rfl (lv_at hl 1 rfl) ?_
        refine lv_bipush (v := nI 32) hx hb d_Mo_sum_85 (by decide) ?_
        refine lv_bipush (v := nI 32) hx hb d_Mo_sum_87 (by decide) ?_
        refine lv_bipush (v := nI 33) hx hb d_Mo_sum_89 (by decide) ?_
        refine hw_cV (As := [.int (nI 32), .int (nI 32), .int (nI 33)]) (rest := []) S hI m_Mo_less w_878 (c_Mo_less l D t0 L _ _ mm mc ml mg mw mr th y130 sn wt rr 32 32 33 hn (by decide) (by decide) (by decide) (by rw [k32, k33]; exact hle)) hm.1 rfl hl.1 rfl rfl (Nat.le_of_ble_eq_true rfl) d_Mo_sum_91 ⟨Nat.le_of_ble_eq_true rfl, Nat.le_of_ble_eq_true rfl⟩ ⟨Nat.le_of_ble_eq_true rfl, Nat.le_of_ble_eq_true rfl⟩ (fun v9 L9 f145 H locs hp hI => ?_)
        refine W.cs (cells' := 0) (slots' := 0) rfl rfl ?_
        obtain ⟨hv9, rfl, hn, hF9⟩ := hp
        cases hv9
        refine hw_stk (st' := []) rfl ?_
        have hF := hF.trans hF9
        obtain ⟨y146, ey⟩ : ∃ z9, z9 = va_up y130 32 (y130 32 - y130 33) := ⟨_, rfl⟩
        rw [← ey] at hn
        have q32 : y146 32 = l0 - r1 := by rw [ey]; rw [hw_up_eq, k32, k33]
        have q34 : y146 34 = d1 := by rw [ey, hw_up_ne (by decide)]; exact k34
        have q33 : y146 33 = r1 := by rw [ey, hw_up_ne (by decide)]; exact k33
        have k32 := q32
        have k34 := q34
        have k33 := q33
        have hR : RM σ y146 sn := by rw [ey]; exact hR.up (by decide)
        obtain ⟨cs, ns, hm, hc⟩ := id hn
        obtain ⟨hq9, hs9⟩ := sum_less (u := σ a) (v := σ b) (nb := nb) zu zv h1 h2 hle
        rw [hq9] at k32
        refine lv_goto (tgt := 119) hx hb d_Mo_sum_94 (by decide) ?_
        refine lv_aload_n hx hb d_Mo_sum_119 rfl (lv_at hl 1 rfl) ?_
        refine lv_aload_n hx hb d_Mo_sum_120 rfl (lv_at hl 1 rfl) ?_
        refine lv_iload_n hx hb d_Mo_sum_121 rfl (lv_at hl 2 rfl) ?_
        refine lv_iload hx hb d_Mo_sum_122 (lv_at hl 0 rfl) ?_
        refine hw_cV (As := [.int (nI r), .int (sgI (σ a))]) (rest := [.ref (mm)]) S hI m_Mo_finish w_802 (c_Mo_finish l D t0 L _ _ mm mc ml mg mw mr th y146 sn wt rr σ r (sgI (σ a)) (tots l0 r1 (σ a).2.2 nb) hn hR hr9 (by rw [k34]; exact h34) (by rw [k32]; exact hs9)) hm.1 rfl hl.1 rfl rfl (Nat.le_of_ble_eq_true rfl) d_Mo_sum_124 ⟨Nat.le_of_ble_eq_true rfl, Nat.le_of_ble_eq_true rfl⟩ ⟨Nat.le_of_ble_eq_true rfl, Nat.le_of_ble_eq_true rfl⟩ (fun v9 L9 f147 H locs hp hI => ?_)
        refine W.cs (cells' := 0) (slots' := 0) rfl rfl ?_
        obtain ⟨hv9, rfl, ⟨y9, sn9, hn, hR⟩, hF9⟩ := hp
        cases hv9
        refine hw_stk (st' := [.int (if fitR (lows (y146 32) (y146 34) (tots l0 r1 (σ a).2.2 nb)) = true then nI 1 else nI 0), .ref (mm)]) rfl ?_
        have hF := hF.trans hF9
        rw [k32, k34, ← hadd] at hR
        obtain ⟨cs, ns, hm, hc⟩ := id hn
        by_cases hfit : fitR (addV (σ a) (σ b) nb) = true
        · refine hw_ti (show _ = nI 1 from by rw [k32, k34, ← hadd, if_pos hfit]) ?_
          rw [if_pos hfit] at hR
          refine hw_if_eq (tgt := 134) hx hb d_Mo_sum_127 (by decide) (by decide) (fun c9 => absurd c9 (by decide)) (fun _ => ?_)
          refine lv_iconst (v := nI 0) hx hb d_Mo_sum_130 (by decide) ?_
          refine lv_goto (tgt := 135) hx hb d_Mo_sum_131 (by decide) ?_
          refine ob_put S hI hm.1 (fs' := [.int (nI 0), .ref (mc), .ref (ml), .ref (mg), .ref (mw), .ref (mr)]) (C := R_Mo) (T := F_Mo) (N := 6) (ref := "WallFractionsModel") rfl i_Mo t_Mo t_Mo_ok n_Mo 0 (by decide) rfl w_771 rfl rfl rfl (by simp only [List.length]; decide) rfl d_Mo_sum_135 (fun f148 H locs hI hO9 hf148 => ?_)
          have hm := hm.umm hf148 hO9
          have hF := hF.umm hf148
          have hn := (⟨_, _, hm, hc⟩ : Mn D L _ mm mc ml mg mw mr _ _ _ _ _)
          exact hw_vret hx hb hr hlocks hI d_Mo_sum_138 ⟨rfl, rfl, by rw [if_pos hfit, if_pos hfit]; exact ⟨_, _, _, hn, hR⟩, hF⟩
        · refine hw_ti (show _ = nI 0 from by rw [k32, k34, ← hadd, if_neg hfit]) ?_
          rw [if_neg hfit] at hR
          refine hw_if_eq (tgt := 134) hx hb d_Mo_sum_127 (by decide) (by decide) (fun _ => ?_) (fun c9 => absurd c9 (by decide))
          refine lv_iconst (v := nI 2) hx hb d_Mo_sum_134 (by decide) ?_
          refine ob_put S hI hm.1 (fs' := [.int (nI 2), .ref (mc), .ref (ml), .ref (mg), .ref (mw), .ref (mr)]) (C := R_Mo) (T := F_Mo) (N := 6) (ref := "WallFractionsModel") rfl i_Mo t_Mo t_Mo_ok n_Mo 0 (by decide) rfl w_771 rfl rfl rfl (by simp only [List.length]; decide) rfl d_Mo_sum_135 (fun f149 H locs hI hO9 hf149 => ?_)
          have hm := hm.umm hf149 hO9
          have hF := hF.umm hf149
          have hn := (⟨_, _, hm, hc⟩ : Mn D L _ mm mc ml mg mw mr _ _ _ _ _)
          exact hw_vret hx hb hr hlocks hI d_Mo_sum_138 ⟨rfl, rfl, by rw [if_neg hfit, if_neg hfit]; exact ⟨_, _, _, hn, hR⟩, hF⟩
    · refine lv_aload_n hx hb d_Mo_sum_60 rfl (lv_at hl 1 rfl) ?_
      refine lv_bipush (v := nI 32) hx hb d_Mo_sum_61 (by decide) ?_
      refine lv_bipush (v := nI 32) hx hb d_Mo_sum_63 (by decide) ?_
      refine lv_bipush (v := nI 33) hx hb d_Mo_sum_65 (by decide) ?_
      refine hw_cV (As := [.int (nI 32), .int (nI 32), .int (nI 33)]) (rest := []) S hI m_Mo_plus w_870 (c_Mo_plus l D t0 L _ _ mm mc ml mg mw mr th y130 sn wt rr 32 32 33 hn (by decide) (by decide) (by decide) (by rw [k32]; exact p4 127 hl4 (by decide)) (by rw [k33]; exact p4 127 hr4 (by decide))) hm.1 rfl hl.1 rfl rfl (Nat.le_of_ble_eq_true rfl) d_Mo_sum_67 ⟨Nat.le_of_ble_eq_true rfl, Nat.le_of_ble_eq_true rfl⟩ ⟨Nat.le_of_ble_eq_true rfl, Nat.le_of_ble_eq_true rfl⟩ (fun v9 L9 f138 H locs hp hI => ?_)
      refine W.cs (cells' := 0) (slots' := 0) rfl rfl ?_
      obtain ⟨hv9, rfl, hn, hF9⟩ := hp
      cases hv9
      refine hw_stk (st' := []) rfl ?_
      have hF := hF.trans hF9
      obtain ⟨y139, ey⟩ : ∃ z9, z9 = va_up y130 32 (y130 32 + y130 33) := ⟨_, rfl⟩
      rw [← ey] at hn
      have q32 : y139 32 = l0 + r1 := by rw [ey]; rw [hw_up_eq, k32, k33]
      have q34 : y139 34 = d1 := by rw [ey, hw_up_ne (by decide)]; exact k34
      have q33 : y139 33 = r1 := by rw [ey, hw_up_ne (by decide)]; exact k33
      have k32 := q32
      have k34 := q34
      have k33 := q33
      have hR : RM σ y139 sn := by rw [ey]; exact hR.up (by decide)
      obtain ⟨cs, ns, hm, hc⟩ := id hn
      obtain ⟨hq9, hs9⟩ := sum_plus (u := σ a) (v := σ b) (nb := nb) zu.mp zu.mpr zv (by rw [← hsb]; exact Or.inr c137) oka.2.2.2.2
      rw [hq9] at k32
      refine lv_goto (tgt := 119) hx hb d_Mo_sum_70 (by decide) ?_
      refine lv_aload_n hx hb d_Mo_sum_119 rfl (lv_at hl 1 rfl) ?_
      refine lv_aload_n hx hb d_Mo_sum_120 rfl (lv_at hl 1 rfl) ?_
      refine lv_iload_n hx hb d_Mo_sum_121 rfl (lv_at hl 2 rfl) ?_
      refine lv_iload hx hb d_Mo_sum_122 (lv_at hl 0 rfl) ?_
      refine hw_cV (As := [.int (nI r), .int (sgI (σ a))]) (rest := [.ref (mm)]) S hI m_Mo_finish w_802 (c_Mo_finish l D t0 L _ _ mm mc ml mg mw mr th y139 sn wt rr σ r (sgI (σ a)) (tots l0 r1 (σ a).2.2 nb) hn hR hr9 (by rw [k34]; exact h34) (by rw [k32]; exact hs9)) hm.1 rfl hl.1 rfl rfl (Nat.le_of_ble_eq_true rfl) d_Mo_sum_124 ⟨Nat.le_of_ble_eq_true rfl, Nat.le_of_ble_eq_true rfl⟩ ⟨Nat.le_of_ble_eq_true rfl, Nat.le_of_ble_eq_true rfl⟩ (fun v9 L9 f140 H locs hp hI => ?_)
      refine W.cs (cells' := 0) (slots' := 0) rfl rfl ?_
      obtain ⟨hv9, rfl, ⟨y9, sn9, hn, hR⟩, hF9⟩ := hp
      cases hv9
      refine hw_stk (st' := [.int (if fitR (lows (y139 32) (y139 34) (tots l0 r1 (σ a).2.2 nb)) = true then nI 1 else nI 0), .ref (mm)]) rfl ?_
      have hF := hF.trans hF9
      rw [k32, k34, ← hadd] at hR
      obtain ⟨cs, ns, hm, hc⟩ := id hn
      by_cases hfit : fitR (addV (σ a) (σ b) nb) = true
      · refine hw_ti (show _ = nI 1 from by rw [k32, k34, ← hadd, if_pos hfit]) ?_
        rw [if_pos hfit] at hR
        refine hw_if_eq (tgt := 134) hx hb d_Mo_sum_127 (by decide) (by decide) (fun c9 => absurd c9 (by decide)) (fun _ => ?_)
        refine lv_iconst (v := nI 0) hx hb d_Mo_sum_130 (by decide) ?_
        refine lv_goto (tgt := 135) hx hb d_Mo_sum_131 (by decide) ?_
        refine ob_put S hI hm.1 (fs' := [.int (nI 0), .ref (mc), .ref (ml), .ref (mg), .ref (mw), .ref (mr)]) (C := R_Mo) (T := F_Mo) (N := 6) (ref := "WallFractionsModel") rfl i_Mo t_Mo t_Mo_ok n_Mo 0 (by decide) rfl w_771 rfl rfl rfl (by simp only [List.length]; decide) rfl d_Mo_sum_135 (fun f141 H locs hI hO9 hf141 => ?_)
        have hm := hm.umm hf141 hO9
        have hF := hF.umm hf141
        have hn := (⟨_, _, hm, hc⟩ : Mn D L _ mm mc ml mg mw mr _ _ _ _ _)
        exact hw_vret hx hb hr hlocks hI d_Mo_sum_138 ⟨rfl, rfl, by rw [if_pos hfit, if_pos hfit]; exact ⟨_, _, _, hn, hR⟩, hF⟩
      · refine hw_ti (show _ = nI 0 from by rw [k32, k34, ← hadd, if_neg hfit]) ?_
        rw [if_neg hfit] at hR
        refine hw_if_eq (tgt := 134) hx hb d_Mo_sum_127 (by decide) (by decide) (fun _ => ?_) (fun c9 => absurd c9 (by decide))
        refine lv_iconst (v := nI 2) hx hb d_Mo_sum_134 (by decide) ?_
        refine ob_put S hI hm.1 (fs' := [.int (nI 2), .ref (mc), .ref (ml), .ref (mg), .ref (mw), .ref (mr)]) (C := R_Mo) (T := F_Mo) (N := 6) (ref := "WallFractionsModel") rfl i_Mo t_Mo t_Mo_ok n_Mo 0 (by decide) rfl w_771 rfl rfl rfl (by simp only [List.length]; decide) rfl d_Mo_sum_135 (fun f142 H locs hI hO9 hf142 => ?_)
        have hm := hm.umm hf142 hO9
        have hF := hF.umm hf142
        have hn := (⟨_, _, hm, hc⟩ : Mn D L _ mm mc ml mg mw mr _ _ _ _ _)
        exact hw_vret hx hb hr hlocks hI d_Mo_sum_138 ⟨rfl, rfl, by rw [if_neg hfit, if_neg hfit]; exact ⟨_, _, _, hn, hR⟩, hF⟩
set_option maxHeartbeats 4000000 in
set_option maxRecDepth 100000 in
theorem c_Mo_add (l : Launch) (D : va_G) (t0 : Nat) (L : List Nat) (f : Nat → va_E) (sz : Nat) (mm mc ml mg mw mr : Nat) (th : Int32) (σ : Sg) (wt : Nat → Nat) (r0 a0 b0 : Int32) (hM : Mg D L f mm mc ml mg mw mr th σ wt) (hok : Ok σ wt) : Met l y_Mo_add (Cond.code y_Mo_add b_Mo_add 4 none :: TT) ({ frames := 6, cells := 0, slots := 0, locals := 156 } : Room) (hw_Pc t0 [.ref (mm), .int (r0), .int (a0), .int (b0)] D L f sz) (hw_Q D L sz (fun oc L' f' => oc = .returned none ∧ L = L' ∧ Mg D L f' mm mc ml mg mw mr (nI (opAdd σ r0 a0 b0).1) (opAdd σ r0 a0 b0).2 wt ∧ Fo mm mc ml mg mw mr f f')) 0 0 (hw_A L sz) := by
  refine Met.ofW (cc := b_Mo_add) (maxL := 4) (ret := none) (by decide) rfl ?_
  intro p e s m args below meth c s₁ B hml hv
  obtain ⟨rfl, rfl, hI⟩ := hw_start hv
  clear hv
  have hx := B.exec
  have hb := B.bytes
  have hr := B.returns
  have hlocks := B.notSynchronized
  have hown : s.vm.findClass "WallFractionsModel" = some m.cls := findClass_of_methodNamed B.named
  have hT : ∀ w ∈ TT, w.before ([.ref (mm), .int (r0), .int (a0), .int (b0)]).toArray s = true := fun w h => atoms_spec (ws := (Cond.code y_Mo_add b_Mo_add 4 none :: TT)) B.pre w (List.mem_cons_of_mem _ h)
  have S : CallFix p m c b_Mo_add 4 s ([.ref (mm), .int (r0), .int (a0), .int (b0)]).toArray TT "WallFractionsModel" := ⟨hx, hb, hml, hown, hT⟩
  have hl := lv_entry ([.ref (mm), .int (r0), .int (a0), .int (b0)]) (n := 4) (Nat.le_of_ble_eq_true rfl)
  rw [lg_entry_eq]
  generalize (lg_sl ([.ref (mm), .int (r0), .int (a0), .int (b0)]) ++ List.replicate (4 - (lg_sl ([.ref (mm), .int (r0), .int (a0), .int (b0)])).length) Slot.unset).toArray = ls at hl ⊢
  have hl : lv_has ls 4 [(0, .ref (mm)), (1, .int (r0)), (2, .int (a0)), (3, .int (b0))] := hl
  skip
  obtain ⟨y, sn, rr, hn, hR⟩ := hM
  have hF : Fo mm mc ml mg mw mr f f := Fo.refl
  obtain ⟨cs, ns, hm, hc⟩ := id hn
  by_cases hv : (vr r0 && vr a0 && vr b0) = true
  · refine lv_aload_n hx hb d_Mo_add_0 rfl (lv_at hl 0 rfl) ?_
    refine lv_iload_n hx hb d_Mo_add_1 rfl (lv_at hl 1 rfl) ?_
    refine lv_iload_n hx hb d_Mo_add_2 rfl (lv_at hl 2 rfl) ?_
    refine lv_iload_n hx hb d_Mo_add_3 rfl (lv_at hl 3 rfl) ?_
    refine hw_cS (As := [.int (r0), .int (a0), .int (b0)]) (rest := [.ref (mm)]) S hI m_Mo_areThere w_859 (c_Mo_areThere l D t0 L _ _ r0 a0 b0) hl.1 rfl rfl (Nat.le_of_ble_eq_true rfl) d_Mo_add_4 ⟨Nat.le_of_ble_eq_true rfl, Nat.le_of_ble_eq_true rfl⟩ ⟨Nat.le_of_ble_eq_true rfl, Nat.le_of_ble_eq_true rfl⟩ (fun v9 L9 f159 H locs hp hI => ?_)
    refine W.cs (cells' := 0) (slots' := 0) rfl rfl ?_
    obtain ⟨hv9, rfl, rfl⟩ := hp
    cases hv9
    refine hw_stk (st' := [.int (if (vr r0 && vr a0 && vr b0) = true then nI 1 else nI 0), .ref (mm)]) rfl ?_
    refine hw_ti (show _ = nI 1 from by rw [if_pos hv]) ?_
    refine hw_if_eq (tgt := 14) hx hb d_Mo_add_7 (by decide) (by decide) (fun c9 => absurd c9 (by decide)) (fun _ => ?_)
    refine lv_iconst (v := nI 0) hx hb d_Mo_add_10 (by decide) ?_
    refine lv_goto (tgt := 15) hx hb d_Mo_add_11 (by decide) ?_
    refine ob_put S hI hm.1 (fs' := [.int (nI 0), .ref (mc), .ref (ml), .ref (mg), .ref (mw), .ref (mr)]) (C := R_Mo) (T := F_Mo) (N := 6) (ref := "WallFractionsModel") rfl i_Mo t_Mo t_Mo_ok n_Mo 0 (by decide) rfl w_771 rfl rfl rfl (by simp only [List.length]; decide) rfl d_Mo_add_15 (fun f160 H locs hI hO9 hf160 => ?_)
    have hm := hm.umm hf160 hO9
    have hF := hF.umm hf160
    have hn := (⟨_, _, hm, hc⟩ : Mn D L _ mm mc ml mg mw mr _ _ _ _ _)
    refine lv_aload_n hx hb d_Mo_add_18 rfl (lv_at hl 0 rfl) ?_
    refine ob_get S hI hm.1 (C := R_Mo) (T := F_Mo) (N := 6) (ref := "WallFractionsModel") rfl i_Mo 0 (by decide) rfl w_771 rfl d_Mo_add_19 ?_
    refine hw_if_ne (tgt := 38) hx hb d_Mo_add_22 (by decide) (by decide) (fun c9 => absurd c9 (by decide)) (fun _ => ?_)
    obtain ⟨vr9, va9, vb9⟩ := and3 hv
    obtain ⟨r, hr9, rfl⟩ := vr_nat vr9
    obtain ⟨a, ha9, rfl⟩ := vr_nat va9
    obtain ⟨b, hb9, rfl⟩ := vr_nat vb9
    refine lv_aload_n hx hb d_Mo_add_25 rfl (lv_at hl 0 rfl) ?_
    refine lv_iload_n hx hb d_Mo_add_26 rfl (lv_at hl 1 rfl) ?_
    refine lv_iload_n hx hb d_Mo_add_27 rfl (lv_at hl 2 rfl) ?_
    refine lv_iload_n hx hb d_Mo_add_28 rfl (lv_at hl 3 rfl) ?_
    refine lv_aload_n hx hb d_Mo_add_29 rfl (lv_at hl 0 rfl) ?_
    refine ob_get S hI hm.1 (C := R_Mo) (T := F_Mo) (N := 6) (ref := "WallFractionsModel") rfl i_Mo 3 (by decide) rfl w_774 rfl d_Mo_add_30 ?_
    refine lv_iload_n hx hb d_Mo_add_33 rfl (lv_at hl 3 rfl) ?_
    refine ia_ldR S hI hm.2.2.2.1 (by decide) (by omega) d_Mo_add_34 ?_
    refine hw_ti (show _ = sgI (σ b) from (hR b hb9).2.2) ?_
    refine hw_cV (As := [.int (nI r), .int (nI a), .int (nI b), .int (sgI (σ b))]) (rest := []) S hI m_Mo_sum w_862 (c_Mo_sum l D t0 L _ _ mm mc ml mg mw mr (nI 0) σ wt r a b (sgI (σ b)) (σ b).2.2 ⟨_, _, _, hn, hR⟩ hok hr9 ha9 hb9 (rfl)) hm.1 rfl hl.1 rfl rfl (Nat.le_of_ble_eq_true rfl) d_Mo_add_35 ⟨Nat.le_of_ble_eq_true rfl, Nat.le_of_ble_eq_true rfl⟩ ⟨Nat.le_of_ble_eq_true rfl, Nat.le_of_ble_eq_true rfl⟩ (fun v9 L9 f161 H locs hp hI => ?_)
    refine W.cs (cells' := 0) (slots' := 0) rfl rfl ?_
    obtain ⟨hv9, rfl, hM, hF9⟩ := hp
    cases hv9
    refine hw_stk (st' := []) rfl ?_
    have e9 : opAdd σ (nI r) (nI a) (nI b) = (if fitR (addV (σ a) (σ b) (σ b).2.2) = true then 0 else 2, if fitR (addV (σ a) (σ b) (σ b).2.2) = true then va_up σ r (addV (σ a) (σ b) (σ b).2.2) else σ) := by unfold opAdd; rw [if_pos hv, putR_eq, ix_nI (by omega), ix_nI (by omega), ix_nI (by omega)]; split <;> rfl
    exact hw_vret hx hb hr hlocks hI d_Mo_add_38 ⟨rfl, rfl, by rw [e9]; exact hM, hF.trans hF9⟩
  · refine lv_aload_n hx hb d_Mo_add_0 rfl (lv_at hl 0 rfl) ?_
    refine lv_iload_n hx hb d_Mo_add_1 rfl (lv_at hl 1 rfl) ?_
    refine lv_iload_n hx hb d_Mo_add_2 rfl (lv_at hl 2 rfl) ?_
    refine lv_iload_n hx hb d_Mo_add_3 rfl (lv_at hl 3 rfl) ?_
    refine hw_cS (As := [.int (r0), .int (a0), .int (b0)]) (rest := [.ref (mm)]) S hI m_Mo_areThere w_859 (c_Mo_areThere l D t0 L _ _ r0 a0 b0) hl.1 rfl rfl (Nat.le_of_ble_eq_true rfl) d_Mo_add_4 ⟨Nat.le_of_ble_eq_true rfl, Nat.le_of_ble_eq_true rfl⟩ ⟨Nat.le_of_ble_eq_true rfl, Nat.le_of_ble_eq_true rfl⟩ (fun v9 L9 f157 H locs hp hI => ?_)
    refine W.cs (cells' := 0) (slots' := 0) rfl rfl ?_
    obtain ⟨hv9, rfl, rfl⟩ := hp
    cases hv9
    refine hw_stk (st' := [.int (if (vr r0 && vr a0 && vr b0) = true then nI 1 else nI 0), .ref (mm)]) rfl ?_
    refine hw_ti (show _ = nI 0 from by rw [if_neg hv]) ?_
    refine hw_if_eq (tgt := 14) hx hb d_Mo_add_7 (by decide) (by decide) (fun _ => ?_) (fun c9 => absurd c9 (by decide))
    have e9 : opAdd σ r0 a0 b0 = (1, σ) := by unfold opAdd; rw [if_neg hv]
    refine lv_iconst (v := nI 1) hx hb d_Mo_add_14 (by decide) ?_
    refine ob_put S hI hm.1 (fs' := [.int (nI 1), .ref (mc), .ref (ml), .ref (mg), .ref (mw), .ref (mr)]) (C := R_Mo) (T := F_Mo) (N := 6) (ref := "WallFractionsModel") rfl i_Mo t_Mo t_Mo_ok n_Mo 0 (by decide) rfl w_771 rfl rfl rfl (by simp only [List.length]; decide) rfl d_Mo_add_15 (fun f158 H locs hI hO9 hf158 => ?_)
    have hm := hm.umm hf158 hO9
    have hF := hF.umm hf158
    have hn := (⟨_, _, hm, hc⟩ : Mn D L _ mm mc ml mg mw mr _ _ _ _ _)
    refine lv_aload_n hx hb d_Mo_add_18 rfl (lv_at hl 0 rfl) ?_
    refine ob_get S hI hm.1 (C := R_Mo) (T := F_Mo) (N := 6) (ref := "WallFractionsModel") rfl i_Mo 0 (by decide) rfl w_771 rfl d_Mo_add_19 ?_
    refine hw_if_ne (tgt := 38) hx hb d_Mo_add_22 (by decide) (by decide) (fun _ => ?_) (fun c9 => absurd c9 (by decide))
    exact hw_vret hx hb hr hlocks hI d_Mo_add_38 ⟨rfl, rfl, by rw [e9]; exact ⟨_, _, _, hn, hR⟩, hF⟩
set_option maxHeartbeats 4000000 in
set_option maxRecDepth 100000 in
theorem c_Mo_subtract (l : Launch) (D : va_G) (t0 : Nat) (L : List Nat) (f : Nat → va_E) (sz : Nat) (mm mc ml mg mw mr : Nat) (th : Int32) (σ : Sg) (wt : Nat → Nat) (r0 a0 b0 : Int32) (hM : Mg D L f mm mc ml mg mw mr th σ wt) (hok : Ok σ wt) : Met l y_Mo_subtract (Cond.code y_Mo_subtract b_Mo_subtract 4 none :: TT) ({ frames := 6, cells := 0, slots := 0, locals := 156 } : Room) (hw_Pc t0 [.ref (mm), .int (r0), .int (a0), .int (b0)] D L f sz) (hw_Q D L sz (fun oc L' f' => oc = .returned none ∧ L = L' ∧ Mg D L f' mm mc ml mg mw mr (nI (opSub σ r0 a0 b0).1) (opSub σ r0 a0 b0).2 wt ∧ Fo mm mc ml mg mw mr f f')) 0 0 (hw_A L sz) := by
  refine Met.ofW (cc := b_Mo_subtract) (maxL := 4) (ret := none) (by decide) rfl ?_
  intro p e s m args below meth c s₁ B hml hv
  obtain ⟨rfl, rfl, hI⟩ := hw_start hv
  clear hv
  have hx := B.exec
  have hb := B.bytes
  have hr := B.returns
  have hlocks := B.notSynchronized
  have hown : s.vm.findClass "WallFractionsModel" = some m.cls := findClass_of_methodNamed B.named
  have hT : ∀ w ∈ TT, w.before ([.ref (mm), .int (r0), .int (a0), .int (b0)]).toArray s = true := fun w h => atoms_spec (ws := (Cond.code y_Mo_subtract b_Mo_subtract 4 none :: TT)) B.pre w (List.mem_cons_of_mem _ h)
  have S : CallFix p m c b_Mo_subtract 4 s ([.ref (mm), .int (r0), .int (a0), .int (b0)]).toArray TT "WallFractionsModel" := ⟨hx, hb, hml, hown, hT⟩
  have hl := lv_entry ([.ref (mm), .int (r0), .int (a0), .int (b0)]) (n := 4) (Nat.le_of_ble_eq_true rfl)
  rw [lg_entry_eq]
  generalize (lg_sl ([.ref (mm), .int (r0), .int (a0), .int (b0)]) ++ List.replicate (4 - (lg_sl ([.ref (mm), .int (r0), .int (a0), .int (b0)])).length) Slot.unset).toArray = ls at hl ⊢
  have hl : lv_has ls 4 [(0, .ref (mm)), (1, .int (r0)), (2, .int (a0)), (3, .int (b0))] := hl
  skip
  obtain ⟨y, sn, rr, hn, hR⟩ := hM
  have hF : Fo mm mc ml mg mw mr f f := Fo.refl
  obtain ⟨cs, ns, hm, hc⟩ := id hn
  by_cases hv : (vr r0 && vr a0 && vr b0) = true
  · refine lv_aload_n hx hb d_Mo_subtract_0 rfl (lv_at hl 0 rfl) ?_
    refine lv_iload_n hx hb d_Mo_subtract_1 rfl (lv_at hl 1 rfl) ?_
    refine lv_iload_n hx hb d_Mo_subtract_2 rfl (lv_at hl 2 rfl) ?_
    refine lv_iload_n hx hb d_Mo_subtract_3 rfl (lv_at hl 3 rfl) ?_
    refine hw_cS (As := [.int (r0), .int (a0), .int (b0)]) (rest := [.ref (mm)]) S hI m_Mo_areThere w_859 (c_Mo_areThere l D t0 L _ _ r0 a0 b0) hl.1 rfl rfl (Nat.le_of_ble_eq_true rfl) d_Mo_subtract_4 ⟨Nat.le_of_ble_eq_true rfl, Nat.le_of_ble_eq_true rfl⟩ ⟨Nat.le_of_ble_eq_true rfl, Nat.le_of_ble_eq_true rfl⟩ (fun v9 L9 f164 H locs hp hI => ?_)
    refine W.cs (cells' := 0) (slots' := 0) rfl rfl ?_
    obtain ⟨hv9, rfl, rfl⟩ := hp
    cases hv9
    refine hw_stk (st' := [.int (if (vr r0 && vr a0 && vr b0) = true then nI 1 else nI 0), .ref (mm)]) rfl ?_
    refine hw_ti (show _ = nI 1 from by rw [if_pos hv]) ?_
    refine hw_if_eq (tgt := 14) hx hb d_Mo_subtract_7 (by decide) (by decide) (fun c9 => absurd c9 (by decide)) (fun _ => ?_)
    refine lv_iconst (v := nI 0) hx hb d_Mo_subtract_10 (by decide) ?_
    refine lv_goto (tgt := 15) hx hb d_Mo_subtract_11 (by decide) ?_
    refine ob_put S hI hm.1 (fs' := [.int (nI 0), .ref (mc), .ref (ml), .ref (mg), .ref (mw), .ref (mr)]) (C := R_Mo) (T := F_Mo) (N := 6) (ref := "WallFractionsModel") rfl i_Mo t_Mo t_Mo_ok n_Mo 0 (by decide) rfl w_771 rfl rfl rfl (by simp only [List.length]; decide) rfl d_Mo_subtract_15 (fun f165 H locs hI hO9 hf165 => ?_)
    have hm := hm.umm hf165 hO9
    have hF := hF.umm hf165
    have hn := (⟨_, _, hm, hc⟩ : Mn D L _ mm mc ml mg mw mr _ _ _ _ _)
    refine lv_aload_n hx hb d_Mo_subtract_18 rfl (lv_at hl 0 rfl) ?_
    refine ob_get S hI hm.1 (C := R_Mo) (T := F_Mo) (N := 6) (ref := "WallFractionsModel") rfl i_Mo 0 (by decide) rfl w_771 rfl d_Mo_subtract_19 ?_
    refine hw_if_ne (tgt := 39) hx hb d_Mo_subtract_22 (by decide) (by decide) (fun c9 => absurd c9 (by decide)) (fun _ => ?_)
    obtain ⟨vr9, va9, vb9⟩ := and3 hv
    obtain ⟨r, hr9, rfl⟩ := vr_nat vr9
    obtain ⟨a, ha9, rfl⟩ := vr_nat va9
    obtain ⟨b, hb9, rfl⟩ := vr_nat vb9
    refine lv_aload_n hx hb d_Mo_subtract_25 rfl (lv_at hl 0 rfl) ?_
    refine lv_iload_n hx hb d_Mo_subtract_26 rfl (lv_at hl 1 rfl) ?_
    refine lv_iload_n hx hb d_Mo_subtract_27 rfl (lv_at hl 2 rfl) ?_
    refine lv_iload_n hx hb d_Mo_subtract_28 rfl (lv_at hl 3 rfl) ?_
    refine lv_aload_n hx hb d_Mo_subtract_29 rfl (lv_at hl 0 rfl) ?_
    refine ob_get S hI hm.1 (C := R_Mo) (T := F_Mo) (N := 6) (ref := "WallFractionsModel") rfl i_Mo 3 (by decide) rfl w_774 rfl d_Mo_subtract_30 ?_
    refine lv_iload_n hx hb d_Mo_subtract_33 rfl (lv_at hl 3 rfl) ?_
    refine ia_ldR S hI hm.2.2.2.1 (by decide) (by omega) d_Mo_subtract_34 ?_
    refine hw_ti (show _ = sgI (σ b) from (hR b hb9).2.2) ?_
    refine lv_ineg hx hb d_Mo_subtract_35 ?_
    refine hw_cV (As := [.int (nI r), .int (nI a), .int (nI b), .int (-(sgI (σ b)))]) (rest := []) S hI m_Mo_sum w_862 (c_Mo_sum l D t0 L _ _ mm mc ml mg mw mr (nI 0) σ wt r a b (-(sgI (σ b))) (!(σ b).2.2) ⟨_, _, _, hn, hR⟩ hok hr9 ha9 hb9 (sgI_opp rfl)) hm.1 rfl hl.1 rfl rfl (Nat.le_of_ble_eq_true rfl) d_Mo_subtract_36 ⟨Nat.le_of_ble_eq_true rfl, Nat.le_of_ble_eq_true rfl⟩ ⟨Nat.le_of_ble_eq_true rfl, Nat.le_of_ble_eq_true rfl⟩ (fun v9 L9 f166 H locs hp hI => ?_)
    refine W.cs (cells' := 0) (slots' := 0) rfl rfl ?_
    obtain ⟨hv9, rfl, hM, hF9⟩ := hp
    cases hv9
    refine hw_stk (st' := []) rfl ?_
    have e9 : opSub σ (nI r) (nI a) (nI b) = (if fitR (addV (σ a) (σ b) (!(σ b).2.2)) = true then 0 else 2, if fitR (addV (σ a) (σ b) (!(σ b).2.2)) = true then va_up σ r (addV (σ a) (σ b) (!(σ b).2.2)) else σ) := by unfold opSub; rw [if_pos hv, putR_eq, ix_nI (by omega), ix_nI (by omega), ix_nI (by omega)]; split <;> rfl
    exact hw_vret hx hb hr hlocks hI d_Mo_subtract_39 ⟨rfl, rfl, by rw [e9]; exact hM, hF.trans hF9⟩
  · refine lv_aload_n hx hb d_Mo_subtract_0 rfl (lv_at hl 0 rfl) ?_
    refine lv_iload_n hx hb d_Mo_subtract_1 rfl (lv_at hl 1 rfl) ?_
    refine lv_iload_n hx hb d_Mo_subtract_2 rfl (lv_at hl 2 rfl) ?_
    refine lv_iload_n hx hb d_Mo_subtract_3 rfl (lv_at hl 3 rfl) ?_
    refine hw_cS (As := [.int (r0), .int (a0), .int (b0)]) (rest := [.ref (mm)]) S hI m_Mo_areThere w_859 (c_Mo_areThere l D t0 L _ _ r0 a0 b0) hl.1 rfl rfl (Nat.le_of_ble_eq_true rfl) d_Mo_subtract_4 ⟨Nat.le_of_ble_eq_true rfl, Nat.le_of_ble_eq_true rfl⟩ ⟨Nat.le_of_ble_eq_true rfl, Nat.le_of_ble_eq_true rfl⟩ (fun v9 L9 f162 H locs hp hI => ?_)
    refine W.cs (cells' := 0) (slots' := 0) rfl rfl ?_
    obtain ⟨hv9, rfl, rfl⟩ := hp
    cases hv9
    refine hw_stk (st' := [.int (if (vr r0 && vr a0 && vr b0) = true then nI 1 else nI 0), .ref (mm)]) rfl ?_
    refine hw_ti (show _ = nI 0 from by rw [if_neg hv]) ?_
    refine hw_if_eq (tgt := 14) hx hb d_Mo_subtract_7 (by decide) (by decide) (fun _ => ?_) (fun c9 => absurd c9 (by decide))
    have e9 : opSub σ r0 a0 b0 = (1, σ) := by unfold opSub; rw [if_neg hv]
    refine lv_iconst (v := nI 1) hx hb d_Mo_subtract_14 (by decide) ?_
    refine ob_put S hI hm.1 (fs' := [.int (nI 1), .ref (mc), .ref (ml), .ref (mg), .ref (mw), .ref (mr)]) (C := R_Mo) (T := F_Mo) (N := 6) (ref := "WallFractionsModel") rfl i_Mo t_Mo t_Mo_ok n_Mo 0 (by decide) rfl w_771 rfl rfl rfl (by simp only [List.length]; decide) rfl d_Mo_subtract_15 (fun f163 H locs hI hO9 hf163 => ?_)
    have hm := hm.umm hf163 hO9
    have hF := hF.umm hf163
    have hn := (⟨_, _, hm, hc⟩ : Mn D L _ mm mc ml mg mw mr _ _ _ _ _)
    refine lv_aload_n hx hb d_Mo_subtract_18 rfl (lv_at hl 0 rfl) ?_
    refine ob_get S hI hm.1 (C := R_Mo) (T := F_Mo) (N := 6) (ref := "WallFractionsModel") rfl i_Mo 0 (by decide) rfl w_771 rfl d_Mo_subtract_19 ?_
    refine hw_if_ne (tgt := 39) hx hb d_Mo_subtract_22 (by decide) (by decide) (fun _ => ?_) (fun c9 => absurd c9 (by decide))
    exact hw_vret hx hb hr hlocks hI d_Mo_subtract_39 ⟨rfl, rfl, by rw [e9]; exact ⟨_, _, _, hn, hR⟩, hF⟩

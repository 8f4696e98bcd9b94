theorem RM.pr9 {σ : Sg} {y : Nat → Nat} {sn : Nat → Int32} (h : RM σ y sn) {a p : Nat} (ha : a < 16) (hp : p ≤ 1) : y (16 * p + a) = prt (σ a) (nI p) := by
  unfold prt
  rcases (show p = 0 ∨ p = 1 by omega) with rfl | rfl
  · rw [if_pos (by decide), Nat.mul_zero, Nat.zero_add]
    exact (h a ha).1
  · rw [if_neg (by decide), Nat.mul_one]
    exact (h a ha).2.1
theorem prt_lt {u : Rg} (h : Okr u) {p : Int32} : prt u p < 10000 ^ 45 := by
  unfold prt
  split
  · exact h.lt4.1
  · exact h.lt4.2
theorem dg4 {Y k : Nat} : Y / 10000 ^ (k / 4) % 10000 / 10 ^ (k % 4) % 10 = Y / 10 ^ k % 10 := by
  have h1 : 10 ^ k = 10000 ^ (k / 4) * 10 ^ (k % 4) := by
    rw [show (10000 : Nat) = 10 ^ 4 from rfl, ← Nat.pow_mul, ← Nat.pow_add, Nat.div_add_mod]
  rw [h1, ← Nat.div_div_eq_div_mul]
  generalize Y / 10000 ^ (k / 4) = X
  have h2 : k % 4 < 4 := Nat.mod_lt _ (by decide)
  rcases (show k % 4 = 0 ∨ k % 4 = 1 ∨ k % 4 = 2 ∨ k % 4 = 3 by omega) with e | e | e | e <;> rw [e]
  · rw [Nat.pow_zero]; omega
  · rw [Nat.pow_one]; omega
  · rw [show (10 : Nat) ^ 2 = 100 from rfl]; omega
  · rw [show (10 : Nat) ^ 3 = 1000 from rfl]; omega
theorem beh_step {N B t : Nat} (hB : 0 < B) : (N * 10 ^ t % B * 10 + 0) % B = N * 10 ^ (t + 1) % B ∧ (N * 10 ^ t % B * 10 + 0) / B = N * 10 ^ (t + 1) / B % 10 := by
  have e : N * 10 ^ (t + 1) = N * 10 ^ t * 10 := by rw [Nat.pow_succ, Nat.mul_assoc]
  rw [Nat.add_zero, e]
  refine ⟨db_step rfl, ?_⟩
  have h1 := db_end (A := N * 10 ^ t) (B := B) (R := N * 10 ^ t % B) (h := 1) hB rfl (Nat.le_refl _)
  rw [Nat.pow_one] at h1
  rw [← h1]
  refine (Nat.mod_eq_of_lt ?_).symm
  rw [Nat.div_lt_iff_lt_mul hB]
  have := Nat.mod_lt (N * 10 ^ t) hB
  omega
set_option maxHeartbeats 4000000 in
set_option maxRecDepth 100000 in
theorem c_Mo_compare (l : Launch) (D : va_G) (t0 : Nat) (L : List Nat) (f : Nat → va_E) (sz : Nat) (mm mc ml mg mw mr : Nat) (th : Int32) (σ : Sg) (wt : Nat → Nat) (a0 b0 : Int32) (hM : Mg D L f mm mc ml mg mw mr th σ wt) (hok : Ok σ wt) : Met l y_Mo_compare (Cond.code y_Mo_compare b_Mo_compare 3 (some .int) :: TT) ({ frames := 2, cells := 0, slots := 0, locals := 51 } : Room) (hw_Pc t0 [.ref (mm), .int (a0), .int (b0)] D L f sz) (hw_Q D L sz (fun oc L' f' => oc = .returned (some (.int ((aCmp σ a0 b0).getD 0))) ∧ L = L' ∧ Mg D L f' mm mc ml mg mw mr (nI (if (aCmp σ a0 b0).isSome then 0 else 1)) σ wt ∧ Fo mm mc ml mg mw mr f f')) 0 0 (hw_A L sz) := by
  refine Met.ofW (cc := b_Mo_compare) (maxL := 3) (ret := (some .int)) (by decide) rfl ?_
  intro p e s m args below meth c s₁ B hml hv
  obtain ⟨rfl, rfl, hI⟩ := hw_start hv
  clear hv
  have hx := B.exec
  have hb := B.bytes
  have hr := B.returns
  have hlocks := B.notSynchronized
  have hown : s.vm.findClass "WallFractionsModel" = some m.cls := findClass_of_methodNamed B.named
  have hT : ∀ w ∈ TT, w.before ([.ref (mm), .int (a0), .int (b0)]).toArray s = true := fun w h => atoms_spec (ws := (Cond.code y_Mo_compare b_Mo_compare 3 (some .int) :: TT)) B.pre w (List.mem_cons_of_mem _ h)
  have S : CallFix p m c b_Mo_compare 3 s ([.ref (mm), .int (a0), .int (b0)]).toArray TT "WallFractionsModel" := ⟨hx, hb, hml, hown, hT⟩
  have hl := lv_entry ([.ref (mm), .int (a0), .int (b0)]) (n := 3) (Nat.le_of_ble_eq_true rfl)
  rw [lg_entry_eq]
  generalize (lg_sl ([.ref (mm), .int (a0), .int (b0)]) ++ List.replicate (3 - (lg_sl ([.ref (mm), .int (a0), .int (b0)])).length) Slot.unset).toArray = ls at hl ⊢
  have hl : lv_has ls 3 [(0, .ref (mm)), (1, .int (a0)), (2, .int (b0))] := hl
  skip
  obtain ⟨y, sn, rr, hn, hR⟩ := hM
  have hF : Fo mm mc ml mg mw mr f f := Fo.refl
  obtain ⟨cs, ns, hm, hc⟩ := id hn
  refine lv_aload_n hx hb d_Mo_compare_0 rfl (lv_at hl 0 rfl) ?_
  refine lv_iload_n hx hb d_Mo_compare_1 rfl (lv_at hl 1 rfl) ?_
  by_cases ha0 : vr a0 = true
  · refine hw_cS (As := [.int (a0)]) (rest := [.ref (mm)]) S hI m_Mo_isRegister w_799 (c_Mo_isRegister l D t0 L _ _ a0) hl.1 rfl rfl (Nat.le_of_ble_eq_true rfl) d_Mo_compare_2 ⟨Nat.le_of_ble_eq_true rfl, Nat.le_of_ble_eq_true rfl⟩ ⟨Nat.le_of_ble_eq_true rfl, Nat.le_of_ble_eq_true rfl⟩ (fun v9 L9 f102 H locs hp hI => ?_)
    refine W.cs (cells' := 0) (slots' := 0) rfl rfl ?_
    obtain ⟨hv9, rfl, rfl⟩ := hp
    cases hv9
    refine hw_stk (st' := [.int (if vr a0 = true then nI 1 else nI 0), .ref (mm)]) rfl ?_
    refine hw_ti (show _ = nI 1 from by rw [if_pos ha0]) ?_
    refine hw_if_eq (tgt := 19) hx hb d_Mo_compare_5 (by decide) (by decide) (fun c9 => absurd c9 (by decide)) (fun _ => ?_)
    refine lv_iload_n hx hb d_Mo_compare_8 rfl (lv_at hl 2 rfl) ?_
    by_cases hb0 : vr b0 = true
    · refine hw_cS (As := [.int (b0)]) (rest := [.ref (mm)]) S hI m_Mo_isRegister w_799 (c_Mo_isRegister l D t0 L _ _ b0) hl.1 rfl rfl (Nat.le_of_ble_eq_true rfl) d_Mo_compare_9 ⟨Nat.le_of_ble_eq_true rfl, Nat.le_of_ble_eq_true rfl⟩ ⟨Nat.le_of_ble_eq_true rfl, Nat.le_of_ble_eq_true rfl⟩ (fun v9 L9 f105 H locs hp hI => ?_)
      refine W.cs (cells' := 0) (slots' := 0) rfl rfl ?_
      obtain ⟨hv9, rfl, rfl⟩ := hp
      cases hv9
      refine hw_stk (st' := [.int (if vr b0 = true then nI 1 else nI 0), .ref (mm)]) rfl ?_
      refine hw_ti (show _ = nI 1 from by rw [if_pos hb0]) ?_
      refine hw_if_eq (tgt := 19) hx hb d_Mo_compare_12 (by decide) (by decide) (fun c9 => absurd c9 (by decide)) (fun _ => ?_)
      have hv : (vr a0 && vr b0) = true := by simp [ha0, hb0]
      refine lv_iconst (v := nI 0) hx hb d_Mo_compare_15 (by decide) ?_
      refine lv_goto (tgt := 20) hx hb d_Mo_compare_16 (by decide) ?_
      refine ob_put S hI hm.1 (fs' := [.int (nI 0), .ref (mc), .ref (ml), .ref (mg), .ref (mw), .ref (mr)]) (C := R_Mo) (T := F_Mo) (N := 6) (ref := "WallFractionsModel") rfl i_Mo t_Mo t_Mo_ok n_Mo 0 (by decide) rfl w_771 rfl rfl rfl (by simp only [List.length]; decide) rfl d_Mo_compare_20 (fun f107 H locs hI hO9 hf107 => ?_)
      have hm := hm.umm hf107 hO9
      have hF := hF.umm hf107
      have hn := (⟨_, _, hm, hc⟩ : Mn D L _ mm mc ml mg mw mr _ _ _ _ _)
      refine lv_aload_n hx hb d_Mo_compare_23 rfl (lv_at hl 0 rfl) ?_
      refine ob_get S hI hm.1 (C := R_Mo) (T := F_Mo) (N := 6) (ref := "WallFractionsModel") rfl i_Mo 0 (by decide) rfl w_771 rfl d_Mo_compare_24 ?_
      refine hw_if_le (tgt := 32) hx hb d_Mo_compare_27 (by decide) (by decide) (fun _ => ?_) (fun c9 => absurd c9 (by decide))
      obtain ⟨a, ha9, rfl⟩ := vr_nat ha0
      obtain ⟨b, hb9, rfl⟩ := vr_nat hb0
      have oka := hok.1 a ha9
      have lta := oka.lt4
      have okb := hok.1 b hb9
      have ltb := okb.lt4
      have e9 : aCmp σ (nI a) (nI b) = some (ordF (σ a).1 (σ a).2.1 (σ b).1 (σ b).2.1 (σ a).2.2 (σ b).2.2) := by unfold aCmp; rw [if_pos hv, ix_nI (by omega), ix_nI (by omega)]
      refine lv_aload_n hx hb d_Mo_compare_32 rfl (lv_at hl 0 rfl) ?_
      refine ob_get S hI hm.1 (C := R_Mo) (T := F_Mo) (N := 6) (ref := "WallFractionsModel") rfl i_Mo 3 (by decide) rfl w_774 rfl d_Mo_compare_33 ?_
      refine lv_iload_n hx hb d_Mo_compare_36 rfl (lv_at hl 1 rfl) ?_
      refine ia_ldR S hI hm.2.2.2.1 (by decide) (by omega) d_Mo_compare_37 ?_
      refine hw_ti (show _ = sgI (σ a) from (hR a ha9).2.2) ?_
      refine lv_aload_n hx hb d_Mo_compare_38 rfl (lv_at hl 0 rfl) ?_
      refine ob_get S hI hm.1 (C := R_Mo) (T := F_Mo) (N := 6) (ref := "WallFractionsModel") rfl i_Mo 3 (by decide) rfl w_774 rfl d_Mo_compare_39 ?_
      refine lv_iload_n hx hb d_Mo_compare_42 rfl (lv_at hl 2 rfl) ?_
      refine ia_ldR S hI hm.2.2.2.1 (by decide) (by omega) d_Mo_compare_43 ?_
      refine hw_ti (show _ = sgI (σ b) from (hR b hb9).2.2) ?_
      refine lv_icmp_eq (tgt := 68) hx hb d_Mo_compare_44 (by decide) (fun c108 => ?_) (fun c108 => ?_)
      · have hcs := cmp_same oka okb c108
        refine lv_aload_n hx hb d_Mo_compare_68 rfl (lv_at hl 0 rfl) ?_
        refine lv_bipush (v := nI 32) hx hb d_Mo_compare_69 (by decide) ?_
        refine lv_iload_n hx hb d_Mo_compare_71 rfl (lv_at hl 1 rfl) ?_
        refine lv_bipush (v := nI 16) hx hb d_Mo_compare_72 (by decide) ?_
        refine lv_iload_n hx hb d_Mo_compare_74 rfl (lv_at hl 2 rfl) ?_
        refine lv_iadd hx hb d_Mo_compare_75 ?_
        refine hw_ti (nI_add _ _) ?_
        refine hw_cV (As := [.int (nI 32), .int (nI a), .int (nI (16 + b))]) (rest := []) S hI m_Mo_product w_866 (c_Mo_product l D t0 L _ _ mm mc ml mg mw mr (nI 0) y sn wt rr 32 a (16 + b) 45 45 hn (by decide) (by omega) (by omega) (by omega) (by omega) (by rw [(hR a ha9).1]; exact lta.1) (by rw [(hR b hb9).2.1]; exact ltb.2) (by decide)) hm.1 rfl hl.1 rfl rfl (Nat.le_of_ble_eq_true rfl) d_Mo_compare_76 ⟨Nat.le_of_ble_eq_true rfl, Nat.le_of_ble_eq_true rfl⟩ ⟨Nat.le_of_ble_eq_true rfl, Nat.le_of_ble_eq_true rfl⟩ (fun v9 L9 f110 H locs hp hI => ?_)
        refine W.cs (cells' := 0) (slots' := 0) rfl rfl ?_
        obtain ⟨hv9, rfl, hn, hF9⟩ := hp
        cases hv9
        refine hw_stk (st' := []) rfl ?_
        have hF := hF.trans hF9
        obtain ⟨y111, ey⟩ : ∃ z9, z9 = va_up y 32 (y a * y (16 + b)) := ⟨_, rfl⟩
        rw [← ey] at hn
        have q32 : y111 32 = (σ a).1 * (σ b).2.1 := by rw [ey]; rw [hw_up_eq, (hR a ha9).1, (hR b hb9).2.1]
        have k32 := q32
        have hR : RM σ y111 sn := by rw [ey]; exact hR.up (by decide)
        obtain ⟨cs, ns, hm, hc⟩ := id hn
        refine lv_aload_n hx hb d_Mo_compare_79 rfl (lv_at hl 0 rfl) ?_
        refine lv_bipush (v := nI 33) hx hb d_Mo_compare_80 (by decide) ?_
        refine lv_iload_n hx hb d_Mo_compare_82 rfl (lv_at hl 2 rfl) ?_
        refine lv_bipush (v := nI 16) hx hb d_Mo_compare_83 (by decide) ?_
        refine lv_iload_n hx hb d_Mo_compare_85 rfl (lv_at hl 1 rfl) ?_
        refine lv_iadd hx hb d_Mo_compare_86 ?_
        refine hw_ti (nI_add _ _) ?_
        refine hw_cV (As := [.int (nI 33), .int (nI b), .int (nI (16 + a))]) (rest := []) S hI m_Mo_product w_866 (c_Mo_product l D t0 L _ _ mm mc ml mg mw mr (nI 0) y111 sn wt rr 33 b (16 + a) 45 45 hn (by decide) (by omega) (by omega) (by omega) (by omega) (by rw [(hR b hb9).1]; exact ltb.1) (by rw [(hR a ha9).2.1]; exact lta.2) (by decide)) hm.1 rfl hl.1 rfl rfl (Nat.le_of_ble_eq_true rfl) d_Mo_compare_87 ⟨Nat.le_of_ble_eq_true rfl, Nat.le_of_ble_eq_true rfl⟩ ⟨Nat.le_of_ble_eq_true rfl, Nat.le_of_ble_eq_true rfl⟩ (fun v9 L9 f112 H locs hp hI => ?_)
        refine W.cs (cells' := 0) (slots' := 0) rfl rfl ?_
        obtain ⟨hv9, rfl, hn, hF9⟩ := hp
        cases hv9
        refine hw_stk (st' := []) rfl ?_
        have hF := hF.trans hF9
        obtain ⟨y113, ey⟩ : ∃ z9, z9 = va_up y111 33 (y111 b * y111 (16 + a)) := ⟨_, rfl⟩
        rw [← ey] at hn
        have q33 : y113 33 = (σ b).1 * (σ a).2.1 := by rw [ey]; rw [hw_up_eq, (hR b hb9).1, (hR a ha9).2.1]
        have q32 : y113 32 = (σ a).1 * (σ b).2.1 := by rw [ey, hw_up_ne (by decide)]; exact k32
        have k33 := q33
        have k32 := q32
        have hR : RM σ y113 sn := by rw [ey]; exact hR.up (by decide)
        obtain ⟨cs, ns, hm, hc⟩ := id hn
        refine lv_aload_n hx hb d_Mo_compare_90 rfl (lv_at hl 0 rfl) ?_
        refine ob_get S hI hm.1 (C := R_Mo) (T := F_Mo) (N := 6) (ref := "WallFractionsModel") rfl i_Mo 3 (by decide) rfl w_774 rfl d_Mo_compare_91 ?_
        refine lv_iload_n hx hb d_Mo_compare_94 rfl (lv_at hl 1 rfl) ?_
        refine ia_ldR S hI hm.2.2.2.1 (by decide) (by omega) d_Mo_compare_95 ?_
        refine hw_ti (show _ = sgI (σ a) from (hR a ha9).2.2) ?_
        refine lv_aload_n hx hb d_Mo_compare_96 rfl (lv_at hl 0 rfl) ?_
        refine lv_bipush (v := nI 32) hx hb d_Mo_compare_97 (by decide) ?_
        refine lv_bipush (v := nI 33) hx hb d_Mo_compare_99 (by decide) ?_
        refine hw_cV (As := [.int (nI 32), .int (nI 33)]) (rest := [.int (sgI (σ a))]) S hI m_Mo_order w_874 (c_Mo_order l D t0 L _ _ mm mc ml mg mw mr (nI 0) y113 sn wt rr 32 33 hn (by decide) (by decide)) hm.1 rfl hl.1 rfl rfl (Nat.le_of_ble_eq_true rfl) d_Mo_compare_101 ⟨Nat.le_of_ble_eq_true rfl, Nat.le_of_ble_eq_true rfl⟩ ⟨Nat.le_of_ble_eq_true rfl, Nat.le_of_ble_eq_true rfl⟩ (fun v9 L9 f114 H locs hp hI => ?_)
        refine W.cs (cells' := 0) (slots' := 0) rfl rfl ?_
        obtain ⟨hv9, rfl, rfl⟩ := hp
        cases hv9
        refine hw_stk (st' := [.int (cmpN (y113 32) (y113 33)), .int (sgI (σ a))]) rfl ?_
        refine hw_ti (show _ = cmpN ((σ a).1 * (σ b).2.1) ((σ b).1 * (σ a).2.1) from by rw [k32, k33]) ?_
        refine lv_imul hx hb d_Mo_compare_104 ?_
        exact hw_iret hx hb hr hlocks hI d_Mo_compare_105 ⟨by rw [e9]; rw [Option.getD_some, ← hcs], rfl, by rw [e9]; exact ⟨_, _, _, hn, hR⟩, hF⟩
      · have hcd := cmp_diff oka okb c108
        refine lv_aload_n hx hb d_Mo_compare_47 rfl (lv_at hl 0 rfl) ?_
        refine ob_get S hI hm.1 (C := R_Mo) (T := F_Mo) (N := 6) (ref := "WallFractionsModel") rfl i_Mo 3 (by decide) rfl w_774 rfl d_Mo_compare_48 ?_
        refine lv_iload_n hx hb d_Mo_compare_51 rfl (lv_at hl 1 rfl) ?_
        refine ia_ldR S hI hm.2.2.2.1 (by decide) (by omega) d_Mo_compare_52 ?_
        refine hw_ti (show _ = sgI (σ a) from (hR a ha9).2.2) ?_
        refine lv_aload_n hx hb d_Mo_compare_53 rfl (lv_at hl 0 rfl) ?_
        refine ob_get S hI hm.1 (C := R_Mo) (T := F_Mo) (N := 6) (ref := "WallFractionsModel") rfl i_Mo 3 (by decide) rfl w_774 rfl d_Mo_compare_54 ?_
        refine lv_iload_n hx hb d_Mo_compare_57 rfl (lv_at hl 2 rfl) ?_
        refine ia_ldR S hI hm.2.2.2.1 (by decide) (by omega) d_Mo_compare_58 ?_
        refine hw_ti (show _ = sgI (σ b) from (hR b hb9).2.2) ?_
        refine lv_icmp_ge (tgt := 66) hx hb d_Mo_compare_59 (by decide) (fun c109 => ?_) (fun c109 => ?_)
        · rw [if_neg (Int32.not_lt.mpr c109)] at hcd
          refine lv_iconst (v := nI 1) hx hb d_Mo_compare_66 (by decide) ?_
          exact hw_iret hx hb hr hlocks hI d_Mo_compare_67 ⟨by rw [e9]; rw [Option.getD_some, ← hcd], rfl, by rw [e9]; exact ⟨_, _, _, hn, hR⟩, hF⟩
        · rw [if_pos (Int32.not_le.mp c109)] at hcd
          refine lv_iconst (v := -1) hx hb d_Mo_compare_62 (by decide) ?_
          refine lv_goto (tgt := 67) hx hb d_Mo_compare_63 (by decide) ?_
          exact hw_iret hx hb hr hlocks hI d_Mo_compare_67 ⟨by rw [e9]; rw [Option.getD_some, ← hcd], rfl, by rw [e9]; exact ⟨_, _, _, hn, hR⟩, hF⟩
    · refine hw_cS (As := [.int (b0)]) (rest := [.ref (mm)]) S hI m_Mo_isRegister w_799 (c_Mo_isRegister l D t0 L _ _ b0) hl.1 rfl rfl (Nat.le_of_ble_eq_true rfl) d_Mo_compare_9 ⟨Nat.le_of_ble_eq_true rfl, Nat.le_of_ble_eq_true rfl⟩ ⟨Nat.le_of_ble_eq_true rfl, Nat.le_of_ble_eq_true rfl⟩ (fun v9 L9 f104 H locs hp hI => ?_)
      refine W.cs (cells' := 0) (slots' := 0) rfl rfl ?_
      obtain ⟨hv9, rfl, rfl⟩ := hp
      cases hv9
      refine hw_stk (st' := [.int (if vr b0 = true then nI 1 else nI 0), .ref (mm)]) rfl ?_
      refine hw_ti (show _ = nI 0 from by rw [if_neg hb0]) ?_
      refine hw_if_eq (tgt := 19) hx hb d_Mo_compare_12 (by decide) (by decide) (fun _ => ?_) (fun c9 => absurd c9 (by decide))
      have e9 : aCmp σ a0 b0 = none := by unfold aCmp; rw [if_neg (by simp [hb0])]
      refine lv_iconst (v := nI 1) hx hb d_Mo_compare_19 (by decide) ?_
      refine ob_put S hI hm.1 (fs' := [.int (nI 1), .ref (mc), .ref (ml), .ref (mg), .ref (mw), .ref (mr)]) (C := R_Mo) (T := F_Mo) (N := 6) (ref := "WallFractionsModel") rfl i_Mo t_Mo t_Mo_ok n_Mo 0 (by decide) rfl w_771 rfl rfl rfl (by simp only [List.length]; decide) rfl d_Mo_compare_20 (fun f106 H locs hI hO9 hf106 => ?_)
      have hm := hm.umm hf106 hO9
      have hF := hF.umm hf106
      have hn := (⟨_, _, hm, hc⟩ : Mn D L _ mm mc ml mg mw mr _ _ _ _ _)
      refine lv_aload_n hx hb d_Mo_compare_23 rfl (lv_at hl 0 rfl) ?_
      refine ob_get S hI hm.1 (C := R_Mo) (T := F_Mo) (N := 6) (ref := "WallFractionsModel") rfl i_Mo 0 (by decide) rfl w_771 rfl d_Mo_compare_24 ?_
      refine hw_if_le (tgt := 32) hx hb d_Mo_compare_27 (by decide) (by decide) (fun c9 => absurd c9 (by decide)) (fun _ => ?_)
      refine lv_iconst (v := nI 0) hx hb d_Mo_compare_30 (by decide) ?_
      exact hw_iret hx hb hr hlocks hI d_Mo_compare_31 ⟨by rw [e9]; rfl, rfl, by rw [e9]; exact ⟨_, _, _, hn, hR⟩, hF⟩
  · refine hw_cS (As := [.int (a0)]) (rest := [.ref (mm)]) S hI m_Mo_isRegister w_799 (c_Mo_isRegister l D t0 L _ _ a0) hl.1 rfl rfl (Nat.le_of_ble_eq_true rfl) d_Mo_compare_2 ⟨Nat.le_of_ble_eq_true rfl, Nat.le_of_ble_eq_true rfl⟩ ⟨Nat.le_of_ble_eq_true rfl, Nat.le_of_ble_eq_true rfl⟩ (fun v9 L9 f101 H locs hp hI => ?_)
    refine W.cs (cells' := 0) (slots' := 0) rfl rfl ?_
    obtain ⟨hv9, rfl, rfl⟩ := hp
    cases hv9
    refine hw_stk (st' := [.int (if vr a0 = true then nI 1 else nI 0), .ref (mm)]) rfl ?_
    refine hw_ti (show _ = nI 0 from by rw [if_neg ha0]) ?_
    refine hw_if_eq (tgt := 19) hx hb d_Mo_compare_5 (by decide) (by decide) (fun _ => ?_) (fun c9 => absurd c9 (by decide))
    have e9 : aCmp σ a0 b0 = none := by unfold aCmp; rw [if_neg (by simp [ha0])]
    refine lv_iconst (v := nI 1) hx hb d_Mo_compare_19 (by decide) ?_
    refine ob_put S hI hm.1 (fs' := [.int (nI 1), .ref (mc), .ref (ml), .ref (mg), .ref (mw), .ref (mr)]) (C := R_Mo) (T := F_Mo) (N := 6) (ref := "WallFractionsModel") rfl i_Mo t_Mo t_Mo_ok n_Mo 0 (by decide) rfl w_771 rfl rfl rfl (by simp only [List.length]; decide) rfl d_Mo_compare_20 (fun f103 H locs hI hO9 hf103 => ?_)
    have hm := hm.umm hf103 hO9
    have hF := hF.umm hf103
    have hn := (⟨_, _, hm, hc⟩ : Mn D L _ mm mc ml mg mw mr _ _ _ _ _)
    refine lv_aload_n hx hb d_Mo_compare_23 rfl (lv_at hl 0 rfl) ?_
    refine ob_get S hI hm.1 (C := R_Mo) (T := F_Mo) (N := 6) (ref := "WallFractionsModel") rfl i_Mo 0 (by decide) rfl w_771 rfl d_Mo_compare_24 ?_
    refine hw_if_le (tgt := 32) hx hb d_Mo_compare_27 (by decide) (by decide) (fun c9 => absurd c9 (by decide)) (fun _ => ?_)
    refine lv_iconst (v := nI 0) hx hb d_Mo_compare_30 (by decide) ?_
    exact hw_iret hx hb hr hlocks hI d_Mo_compare_31 ⟨by rw [e9]; rfl, rfl, by rw [e9]; exact ⟨_, _, _, hn, hR⟩, hF⟩
set_option maxHeartbeats 4000000 in
set_option maxRecDepth 100000 in
theorem c_Mo_sign (l : Launch) (D : va_G) (t0 : Nat) (L : List Nat) (f : Nat → va_E) (sz : Nat) (mm mc ml mg mw mr : Nat) (th : Int32) (σ : Sg) (wt : Nat → Nat) (a0 : Int32) (hM : Mg D L f mm mc ml mg mw mr th σ wt) (hok : Ok σ wt) : Met l y_Mo_sign (Cond.code y_Mo_sign b_Mo_sign 2 (some .int) :: TT) ({ frames := 1, cells := 0, slots := 0, locals := 20 } : Room) (hw_Pc t0 [.ref (mm), .int (a0)] D L f sz) (hw_Q D L sz (fun oc L' f' => oc = .returned (some (.int ((aSgn σ a0).getD 0))) ∧ L = L' ∧ Mg D L f' mm mc ml mg mw mr (nI (if (aSgn σ a0).isSome then 0 else 1)) σ wt ∧ Fo mm mc ml mg mw mr f f')) 0 0 (hw_A L sz) := by
  refine Met.ofW (cc := b_Mo_sign) (maxL := 2) (ret := (some .int)) (by decide) rfl ?_
  intro p e s m args below meth c s₁ B hml hv
  obtain ⟨rfl, rfl, hI⟩ := hw_start hv
  clear hv
  have hx := B.exec
  have hb := B.bytes
  have hr := B.returns
  have hlocks := B.notSynchronized
  have hown : s.vm.findClass "WallFractionsModel" = some m.cls := findClass_of_methodNamed B.named
  have hT : ∀ w ∈ TT, w.before ([.ref (mm), .int (a0)]).toArray s = true := fun w h => atoms_spec (ws := (Cond.code y_Mo_sign b_Mo_sign 2 (some .int) :: TT)) B.pre w (List.mem_cons_of_mem _ h)
  have S : CallFix p m c b_Mo_sign 2 s ([.ref (mm), .int (a0)]).toArray TT "WallFractionsModel" := ⟨hx, hb, hml, hown, hT⟩
  have hl := lv_entry ([.ref (mm), .int (a0)]) (n := 2) (Nat.le_of_ble_eq_true rfl)
  rw [lg_entry_eq]
  generalize (lg_sl ([.ref (mm), .int (a0)]) ++ List.replicate (2 - (lg_sl ([.ref (mm), .int (a0)])).length) Slot.unset).toArray = ls at hl ⊢
  have hl : lv_has ls 2 [(0, .ref (mm)), (1, .int (a0))] := hl
  skip
  obtain ⟨y, sn, rr, hn, hR⟩ := hM
  have hF : Fo mm mc ml mg mw mr f f := Fo.refl
  obtain ⟨cs, ns, hm, hc⟩ := id hn
  refine lv_aload_n hx hb d_Mo_sign_0 rfl (lv_at hl 0 rfl) ?_
  refine lv_iload_n hx hb d_Mo_sign_1 rfl (lv_at hl 1 rfl) ?_
  by_cases ha0 : vr a0 = true
  · refine hw_cS (As := [.int (a0)]) (rest := [.ref (mm)]) S hI m_Mo_isRegister w_799 (c_Mo_isRegister l D t0 L _ _ a0) hl.1 rfl rfl (Nat.le_of_ble_eq_true rfl) d_Mo_sign_2 ⟨Nat.le_of_ble_eq_true rfl, Nat.le_of_ble_eq_true rfl⟩ ⟨Nat.le_of_ble_eq_true rfl, Nat.le_of_ble_eq_true rfl⟩ (fun v9 L9 f116 H locs hp hI => ?_)
    refine W.cs (cells' := 0) (slots' := 0) rfl rfl ?_
    obtain ⟨hv9, rfl, rfl⟩ := hp
    cases hv9
    refine hw_stk (st' := [.int (if vr a0 = true then nI 1 else nI 0), .ref (mm)]) rfl ?_
    refine hw_ti (show _ = nI 1 from by rw [if_pos ha0]) ?_
    refine hw_if_eq (tgt := 12) hx hb d_Mo_sign_5 (by decide) (by decide) (fun c9 => absurd c9 (by decide)) (fun _ => ?_)
    refine lv_iconst (v := nI 0) hx hb d_Mo_sign_8 (by decide) ?_
    refine lv_goto (tgt := 13) hx hb d_Mo_sign_9 (by decide) ?_
    refine ob_put S hI hm.1 (fs' := [.int (nI 0), .ref (mc), .ref (ml), .ref (mg), .ref (mw), .ref (mr)]) (C := R_Mo) (T := F_Mo) (N := 6) (ref := "WallFractionsModel") rfl i_Mo t_Mo t_Mo_ok n_Mo 0 (by decide) rfl w_771 rfl rfl rfl (by simp only [List.length]; decide) rfl d_Mo_sign_13 (fun f118 H locs hI hO9 hf118 => ?_)
    have hm := hm.umm hf118 hO9
    have hF := hF.umm hf118
    have hn := (⟨_, _, hm, hc⟩ : Mn D L _ mm mc ml mg mw mr _ _ _ _ _)
    refine lv_aload_n hx hb d_Mo_sign_16 rfl (lv_at hl 0 rfl) ?_
    refine ob_get S hI hm.1 (C := R_Mo) (T := F_Mo) (N := 6) (ref := "WallFractionsModel") rfl i_Mo 0 (by decide) rfl w_771 rfl d_Mo_sign_17 ?_
    refine hw_if_le (tgt := 27) hx hb d_Mo_sign_20 (by decide) (by decide) (fun _ => ?_) (fun c9 => absurd c9 (by decide))
    have hv := ha0
    obtain ⟨a, ha9, rfl⟩ := vr_nat ha0
    have e9 : aSgn σ (nI a) = some (sgI (σ a)) := by unfold aSgn; rw [if_pos hv, ix_nI (by omega)]; rfl
    refine lv_aload_n hx hb d_Mo_sign_27 rfl (lv_at hl 0 rfl) ?_
    refine ob_get S hI hm.1 (C := R_Mo) (T := F_Mo) (N := 6) (ref := "WallFractionsModel") rfl i_Mo 3 (by decide) rfl w_774 rfl d_Mo_sign_28 ?_
    refine lv_iload_n hx hb d_Mo_sign_31 rfl (lv_at hl 1 rfl) ?_
    refine ia_ldR S hI hm.2.2.2.1 (by decide) (by omega) d_Mo_sign_32 ?_
    refine hw_ti (show _ = sgI (σ a) from (hR a ha9).2.2) ?_
    exact hw_iret hx hb hr hlocks hI d_Mo_sign_33 ⟨by rw [e9]; rfl, rfl, by rw [e9]; exact ⟨_, _, _, hn, hR⟩, hF⟩
  · refine hw_cS (As := [.int (a0)]) (rest := [.ref (mm)]) S hI m_Mo_isRegister w_799 (c_Mo_isRegister l D t0 L _ _ a0) hl.1 rfl rfl (Nat.le_of_ble_eq_true rfl) d_Mo_sign_2 ⟨Nat.le_of_ble_eq_true rfl, Nat.le_of_ble_eq_true rfl⟩ ⟨Nat.le_of_ble_eq_true rfl, Nat.le_of_ble_eq_true rfl⟩ (fun v9 L9 f115 H locs hp hI => ?_)
    refine W.cs (cells' := 0) (slots' := 0) rfl rfl ?_
    obtain ⟨hv9, rfl, rfl⟩ := hp
    cases hv9
    refine hw_stk (st' := [.int (if vr a0 = true then nI 1 else nI 0), .ref (mm)]) rfl ?_
    refine hw_ti (show _ = nI 0 from by rw [if_neg ha0]) ?_
    refine hw_if_eq (tgt := 12) hx hb d_Mo_sign_5 (by decide) (by decide) (fun _ => ?_) (fun c9 => absurd c9 (by decide))
    have e9 : aSgn σ a0 = none := by unfold aSgn; rw [if_neg (by simp [ha0])]
    refine lv_iconst (v := nI 1) hx hb d_Mo_sign_12 (by decide) ?_
    refine ob_put S hI hm.1 (fs' := [.int (nI 1), .ref (mc), .ref (ml), .ref (mg), .ref (mw), .ref (mr)]) (C := R_Mo) (T := F_Mo) (N := 6) (ref := "WallFractionsModel") rfl i_Mo t_Mo t_Mo_ok n_Mo 0 (by decide) rfl w_771 rfl rfl rfl (by simp only [List.length]; decide) rfl d_Mo_sign_13 (fun f117 H locs hI hO9 hf117 => ?_)
    have hm := hm.umm hf117 hO9
    have hF := hF.umm hf117
    have hn := (⟨_, _, hm, hc⟩ : Mn D L _ mm mc ml mg mw mr _ _ _ _ _)
    refine lv_aload_n hx hb d_Mo_sign_16 rfl (lv_at hl 0 rfl) ?_
    refine ob_get S hI hm.1 (C := R_Mo) (T := F_Mo) (N := 6) (ref := "WallFractionsModel") rfl i_Mo 0 (by decide) rfl w_771 rfl d_Mo_sign_17 ?_
    refine hw_if_le (tgt := 27) hx hb d_Mo_sign_20 (by decide) (by decide) (fun c9 => absurd c9 (by decide)) (fun _ => ?_)
    refine lv_iconst (v := nI 0) hx hb d_Mo_sign_23 (by decide) ?_
    refine lv_goto (tgt := 33) hx hb d_Mo_sign_24 (by decide) ?_
    exact hw_iret hx hb hr hlocks hI d_Mo_sign_33 ⟨by rw [e9]; rfl, rfl, by rw [e9]; exact ⟨_, _, _, hn, hR⟩, hF⟩
set_option maxHeartbeats 4000000 in
set_option maxRecDepth 100000 in
theorem c_Mo_digits (l : Launch) (D : va_G) (t0 : Nat) (L : List Nat) (f : Nat → va_E) (sz : Nat) (mm mc ml mg mw mr : Nat) (th : Int32) (σ : Sg) (wt : Nat → Nat) (a0 p0 : Int32) (hM : Mg D L f mm mc ml mg mw mr th σ wt) (hok : Ok σ wt) : Met l y_Mo_digits (Cond.code y_Mo_digits b_Mo_digits 3 (some .int) :: TT) ({ frames := 2, cells := 0, slots := 0, locals := 45 } : Room) (hw_Pc t0 [.ref (mm), .int (a0), .int (p0)] D L f sz) (hw_Q D L sz (fun oc L' f' => oc = .returned (some (.int ((aDgs σ a0 p0).getD 0))) ∧ L = L' ∧ Mg D L f' mm mc ml mg mw mr (nI (if (aDgs σ a0 p0).isSome then 0 else 1)) σ wt ∧ Fo mm mc ml mg mw mr f f')) 0 0 (hw_A L sz) := by
  refine Met.ofW (cc := b_Mo_digits) (maxL := 3) (ret := (some .int)) (by decide) rfl ?_
  intro p e s m args below meth c s₁ B hml hv
  obtain ⟨rfl, rfl, hI⟩ := hw_start hv
  clear hv
  have hx := B.exec
  have hb := B.bytes
  have hr := B.returns
  have hlocks := B.notSynchronized
  have hown : s.vm.findClass "WallFractionsModel" = some m.cls := findClass_of_methodNamed B.named
  have hT : ∀ w ∈ TT, w.before ([.ref (mm), .int (a0), .int (p0)]).toArray s = true := fun w h => atoms_spec (ws := (Cond.code y_Mo_digits b_Mo_digits 3 (some .int) :: TT)) B.pre w (List.mem_cons_of_mem _ h)
  have S : CallFix p m c b_Mo_digits 3 s ([.ref (mm), .int (a0), .int (p0)]).toArray TT "WallFractionsModel" := ⟨hx, hb, hml, hown, hT⟩
  have hl := lv_entry ([.ref (mm), .int (a0), .int (p0)]) (n := 3) (Nat.le_of_ble_eq_true rfl)
  rw [lg_entry_eq]
  generalize (lg_sl ([.ref (mm), .int (a0), .int (p0)]) ++ List.replicate (3 - (lg_sl ([.ref (mm), .int (a0), .int (p0)])).length) Slot.unset).toArray = ls at hl ⊢
  have hl : lv_has ls 3 [(0, .ref (mm)), (1, .int (a0)), (2, .int (p0))] := hl
  skip
  obtain ⟨y, sn, rr, hn, hR⟩ := hM
  have hF : Fo mm mc ml mg mw mr f f := Fo.refl
  obtain ⟨cs, ns, hm, hc⟩ := id hn
  refine lv_aload_n hx hb d_Mo_digits_0 rfl (lv_at hl 0 rfl) ?_
  refine lv_iload_n hx hb d_Mo_digits_1 rfl (lv_at hl 1 rfl) ?_
  by_cases ha0 : vr a0 = true
  · refine hw_cS (As := [.int (a0)]) (rest := [.ref (mm)]) S hI m_Mo_isRegister w_799 (c_Mo_isRegister l D t0 L _ _ a0) hl.1 rfl rfl (Nat.le_of_ble_eq_true rfl) d_Mo_digits_2 ⟨Nat.le_of_ble_eq_true rfl, Nat.le_of_ble_eq_true rfl⟩ ⟨Nat.le_of_ble_eq_true rfl, Nat.le_of_ble_eq_true rfl⟩ (fun v9 L9 f120 H locs hp hI => ?_)
    refine W.cs (cells' := 0) (slots' := 0) rfl rfl ?_
    obtain ⟨hv9, rfl, rfl⟩ := hp
    cases hv9
    refine hw_stk (st' := [.int (if vr a0 = true then nI 1 else nI 0), .ref (mm)]) rfl ?_
    refine hw_ti (show _ = nI 1 from by rw [if_pos ha0]) ?_
    refine hw_if_eq (tgt := 22) hx hb d_Mo_digits_5 (by decide) (by decide) (fun c9 => absurd c9 (by decide)) (fun _ => ?_)
    refine lv_iload_n hx hb d_Mo_digits_8 rfl (lv_at hl 2 rfl) ?_
    refine lv_i2l hx hb d_Mo_digits_9 rfl ?_
    refine lv_lconst (v := lN 0) hx hb d_Mo_digits_10 rfl ?_
    refine lv_lconst (v := lN 1) hx hb d_Mo_digits_11 rfl ?_
    by_cases hp0 : inR p0 0 1 = true
    · refine hw_cS (As := [.long ((p0).toInt64), .long (lN 0), .long (lN 1)]) (rest := [.ref (mm)]) S hI m_Mo_in w_843 (c_Mo_in l D t0 L _ _ p0 0 1 (by omega) (by omega)) hl.1 rfl rfl (Nat.le_of_ble_eq_true rfl) d_Mo_digits_12 ⟨Nat.le_of_ble_eq_true rfl, Nat.le_of_ble_eq_true rfl⟩ ⟨Nat.le_of_ble_eq_true rfl, Nat.le_of_ble_eq_true rfl⟩ (fun v9 L9 f123 H locs hp hI => ?_)
      refine W.cs (cells' := 0) (slots' := 0) rfl rfl ?_
      obtain ⟨hv9, rfl, rfl⟩ := hp
      cases hv9
      refine hw_stk (st' := [.int (if inR p0 0 1 = true then nI 1 else nI 0), .ref (mm)]) rfl ?_
      refine hw_ti (show _ = nI 1 from by rw [if_pos hp0]) ?_
      refine hw_if_eq (tgt := 22) hx hb d_Mo_digits_15 (by decide) (by decide) (fun c9 => absurd c9 (by decide)) (fun _ => ?_)
      have hv : (vr a0 && inR p0 0 1) = true := by simp [ha0, hp0]
      refine lv_iconst (v := nI 0) hx hb d_Mo_digits_18 (by decide) ?_
      refine lv_goto (tgt := 23) hx hb d_Mo_digits_19 (by decide) ?_
      refine ob_put S hI hm.1 (fs' := [.int (nI 0), .ref (mc), .ref (ml), .ref (mg), .ref (mw), .ref (mr)]) (C := R_Mo) (T := F_Mo) (N := 6) (ref := "WallFractionsModel") rfl i_Mo t_Mo t_Mo_ok n_Mo 0 (by decide) rfl w_771 rfl rfl rfl (by simp only [List.length]; decide) rfl d_Mo_digits_23 (fun f125 H locs hI hO9 hf125 => ?_)
      have hm := hm.umm hf125 hO9
      have hF := hF.umm hf125
      have hn := (⟨_, _, hm, hc⟩ : Mn D L _ mm mc ml mg mw mr _ _ _ _ _)
      refine lv_aload_n hx hb d_Mo_digits_26 rfl (lv_at hl 0 rfl) ?_
      refine ob_get S hI hm.1 (C := R_Mo) (T := F_Mo) (N := 6) (ref := "WallFractionsModel") rfl i_Mo 0 (by decide) rfl w_771 rfl d_Mo_digits_27 ?_
      refine hw_if_le (tgt := 37) hx hb d_Mo_digits_30 (by decide) (by decide) (fun _ => ?_) (fun c9 => absurd c9 (by decide))
      obtain ⟨a, ha9, rfl⟩ := vr_nat ha0
      obtain ⟨p1, _, hp9, rfl⟩ := inR_nat hp0 (by decide) (by decide)
      refine lv_aload_n hx hb d_Mo_digits_37 rfl (lv_at hl 0 rfl) ?_
      refine lv_bipush (v := nI 16) hx hb d_Mo_digits_38 (by decide) ?_
      refine lv_iload_n hx hb d_Mo_digits_40 rfl (lv_at hl 2 rfl) ?_
      refine lv_imul hx hb d_Mo_digits_41 ?_
      refine hw_ti (pk_mul _ _) ?_
      refine lv_iload_n hx hb d_Mo_digits_42 rfl (lv_at hl 1 rfl) ?_
      refine lv_iadd hx hb d_Mo_digits_43 ?_
      refine hw_ti (nI_add _ _) ?_
      refine hw_cV (As := [.int (nI ((16 * p1) + a))]) (rest := []) S hI m_Mo_digitsIn w_935 (c_Mo_digitsIn l D t0 L _ _ mm mc ml mg mw mr (nI 0) y sn wt rr (16 * p1 + a) hn (by omega)) hm.1 rfl hl.1 rfl rfl (Nat.le_of_ble_eq_true rfl) d_Mo_digits_44 ⟨Nat.le_of_ble_eq_true rfl, Nat.le_of_ble_eq_true rfl⟩ ⟨Nat.le_of_ble_eq_true rfl, Nat.le_of_ble_eq_true rfl⟩ (fun v9 L9 f126 H locs hp hI => ?_)
      refine W.cs (cells' := 0) (slots' := 0) rfl rfl ?_
      obtain ⟨hv9, rfl, rfl⟩ := hp
      cases hv9
      refine hw_stk (st' := [.int (nI (dl (y (16 * p1 + a))))]) rfl ?_
      refine hw_ti (show _ = nI (dl (prt (σ a) (nI p1))) from by rw [hR.pr9 ha9 hp9]) ?_
      have e9 : aDgs σ (nI a) (nI p1) = some (nI (dl (prt (σ a) (nI p1)))) := by unfold aDgs; rw [if_pos hv, ix_nI (by omega)]
      exact hw_iret hx hb hr hlocks hI d_Mo_digits_47 ⟨by rw [e9]; rfl, rfl, by rw [e9]; exact ⟨_, _, _, hn, hR⟩, hF⟩
    · refine hw_cS (As := [.long ((p0).toInt64), .long (lN 0), .long (lN 1)]) (rest := [.ref (mm)]) S hI m_Mo_in w_843 (c_Mo_in l D t0 L _ _ p0 0 1 (by omega) (by omega)) hl.1 rfl rfl (Nat.le_of_ble_eq_true rfl) d_Mo_digits_12 ⟨Nat.le_of_ble_eq_true rfl, Nat.le_of_ble_eq_true rfl⟩ ⟨Nat.le_of_ble_eq_true rfl, Nat.le_of_ble_eq_true rfl⟩ (fun v9 L9 f122 H locs hp hI => ?_)
      refine W.cs (cells' := 0) (slots' := 0) rfl rfl ?_
      obtain ⟨hv9, rfl, rfl⟩ := hp
      cases hv9
      refine hw_stk (st' := [.int (if inR p0 0 1 = true then nI 1 else nI 0), .ref (mm)]) rfl ?_
      refine hw_ti (show _ = nI 0 from by rw [if_neg hp0]) ?_
      refine hw_if_eq (tgt := 22) hx hb d_Mo_digits_15 (by decide) (by decide) (fun _ => ?_) (fun c9 => absurd c9 (by decide))
      have e9 : aDgs σ a0 p0 = none := by unfold aDgs; rw [if_neg (by simp [hp0])]
      refine lv_iconst (v := nI 1) hx hb d_Mo_digits_22 (by decide) ?_
      refine ob_put S hI hm.1 (fs' := [.int (nI 1), .ref (mc), .ref (ml), .ref (mg), .ref (mw), .ref (mr)]) (C := R_Mo) (T := F_Mo) (N := 6) (ref := "WallFractionsModel") rfl i_Mo t_Mo t_Mo_ok n_Mo 0 (by decide) rfl w_771 rfl rfl rfl (by simp only [List.length]; decide) rfl d_Mo_digits_23 (fun f124 H locs hI hO9 hf124 => ?_)
      have hm := hm.umm hf124 hO9
      have hF := hF.umm hf124
      have hn := (⟨_, _, hm, hc⟩ : Mn D L _ mm mc ml mg mw mr _ _ _ _ _)
      refine lv_aload_n hx hb d_Mo_digits_26 rfl (lv_at hl 0 rfl) ?_
      refine ob_get S hI hm.1 (C := R_Mo) (T := F_Mo) (N := 6) (ref := "WallFractionsModel") rfl i_Mo 0 (by decide) rfl w_771 rfl d_Mo_digits_27 ?_
      refine hw_if_le (tgt := 37) hx hb d_Mo_digits_30 (by decide) (by decide) (fun c9 => absurd c9 (by decide)) (fun _ => ?_)
      refine lv_iconst (v := nI 0) hx hb d_Mo_digits_33 (by decide) ?_
      refine lv_goto (tgt := 47) hx hb d_Mo_digits_34 (by decide) ?_
      exact hw_iret hx hb hr hlocks hI d_Mo_digits_47 ⟨by rw [e9]; rfl, rfl, by rw [e9]; exact ⟨_, _, _, hn, hR⟩, hF⟩
  · refine hw_cS (As := [.int (a0)]) (rest := [.ref (mm)]) S hI m_Mo_isRegister w_799 (c_Mo_isRegister l D t0 L _ _ a0) hl.1 rfl rfl (Nat.le_of_ble_eq_true rfl) d_Mo_digits_2 ⟨Nat.le_of_ble_eq_true rfl, Nat.le_of_ble_eq_true rfl⟩ ⟨Nat.le_of_ble_eq_true rfl, Nat.le_of_ble_eq_true rfl⟩ (fun v9 L9 f119 H locs hp hI => ?_)
    refine W.cs (cells' := 0) (slots' := 0) rfl rfl ?_
    obtain ⟨hv9, rfl, rfl⟩ := hp
    cases hv9
    refine hw_stk (st' := [.int (if vr a0 = true then nI 1 else nI 0), .ref (mm)]) rfl ?_
    refine hw_ti (show _ = nI 0 from by rw [if_neg ha0]) ?_
    refine hw_if_eq (tgt := 22) hx hb d_Mo_digits_5 (by decide) (by decide) (fun _ => ?_) (fun c9 => absurd c9 (by decide))
    have e9 : aDgs σ a0 p0 = none := by unfold aDgs; rw [if_neg (by simp [ha0])]
    refine lv_iconst (v := nI 1) hx hb d_Mo_digits_22 (by decide) ?_
    refine ob_put S hI hm.1 (fs' := [.int (nI 1), .ref (mc), .ref (ml), .ref (mg), .ref (mw), .ref (mr)]) (C := R_Mo) (T := F_Mo) (N := 6) (ref := "WallFractionsModel") rfl i_Mo t_Mo t_Mo_ok n_Mo 0 (by decide) rfl w_771 rfl rfl rfl (by simp only [List.length]; decide) rfl d_Mo_digits_23 (fun f121 H locs hI hO9 hf121 => ?_)
    have hm := hm.umm hf121 hO9
    have hF := hF.umm hf121
    have hn := (⟨_, _, hm, hc⟩ : Mn D L _ mm mc ml mg mw mr _ _ _ _ _)
    refine lv_aload_n hx hb d_Mo_digits_26 rfl (lv_at hl 0 rfl) ?_
    refine ob_get S hI hm.1 (C := R_Mo) (T := F_Mo) (N := 6) (ref := "WallFractionsModel") rfl i_Mo 0 (by decide) rfl w_771 rfl d_Mo_digits_27 ?_
    refine hw_if_le (tgt := 37) hx hb d_Mo_digits_30 (by decide) (by decide) (fun c9 => absurd c9 (by decide)) (fun _ => ?_)
    refine lv_iconst (v := nI 0) hx hb d_Mo_digits_33 (by decide) ?_
    refine lv_goto (tgt := 47) hx hb d_Mo_digits_34 (by decide) ?_
    exact hw_iret hx hb hr hlocks hI d_Mo_digits_47 ⟨by rw [e9]; rfl, rfl, by rw [e9]; exact ⟨_, _, _, hn, hR⟩, hF⟩
set_option maxHeartbeats 4000000 in
set_option maxRecDepth 100000 in
theorem c_Mo_modulo (l : Launch) (D : va_G) (t0 : Nat) (L : List Nat) (f : Nat → va_E) (sz : Nat) (mm mc ml mg mw mr : Nat) (th : Int32) (σ : Sg) (wt : Nat → Nat) (a0 p0 m0 : Int32) (hM : Mg D L f mm mc ml mg mw mr th σ wt) (hok : Ok σ wt) : Met l y_Mo_modulo (Cond.code y_Mo_modulo b_Mo_modulo 4 (some .int) :: TT) ({ frames := 2, cells := 0, slots := 0, locals := 51 } : Room) (hw_Pc t0 [.ref (mm), .int (a0), .int (p0), .int (m0)] D L f sz) (hw_Q D L sz (fun oc L' f' => oc = .returned (some (.int ((aMod σ a0 p0 m0).getD 0))) ∧ L = L' ∧ Mg D L f' mm mc ml mg mw mr (nI (if (aMod σ a0 p0 m0).isSome then 0 else 1)) σ wt ∧ Fo mm mc ml mg mw mr f f')) 0 0 (hw_A L sz) := by
  refine Met.ofW (cc := b_Mo_modulo) (maxL := 4) (ret := (some .int)) (by decide) rfl ?_
  intro p e s m args below meth c s₁ B hml hv
  obtain ⟨rfl, rfl, hI⟩ := hw_start hv
  clear hv
  have hx := B.exec
  have hb := B.bytes
  have hr := B.returns
  have hlocks := B.notSynchronized
  have hown : s.vm.findClass "WallFractionsModel" = some m.cls := findClass_of_methodNamed B.named
  have hT : ∀ w ∈ TT, w.before ([.ref (mm), .int (a0), .int (p0), .int (m0)]).toArray s = true := fun w h => atoms_spec (ws := (Cond.code y_Mo_modulo b_Mo_modulo 4 (some .int) :: TT)) B.pre w (List.mem_cons_of_mem _ h)
  have S : CallFix p m c b_Mo_modulo 4 s ([.ref (mm), .int (a0), .int (p0), .int (m0)]).toArray TT "WallFractionsModel" := ⟨hx, hb, hml, hown, hT⟩
  have hl := lv_entry ([.ref (mm), .int (a0), .int (p0), .int (m0)]) (n := 4) (Nat.le_of_ble_eq_true rfl)
  rw [lg_entry_eq]
  generalize (lg_sl ([.ref (mm), .int (a0), .int (p0), .int (m0)]) ++ List.replicate (4 - (lg_sl ([.ref (mm), .int (a0), .int (p0), .int (m0)])).length) Slot.unset).toArray = ls at hl ⊢
  have hl : lv_has ls 4 [(0, .ref (mm)), (1, .int (a0)), (2, .int (p0)), (3, .int (m0))] := hl
  skip
  obtain ⟨y, sn, rr, hn, hR⟩ := hM
  have hF : Fo mm mc ml mg mw mr f f := Fo.refl
  obtain ⟨cs, ns, hm, hc⟩ := id hn
  refine lv_aload_n hx hb d_Mo_modulo_0 rfl (lv_at hl 0 rfl) ?_
  refine lv_iload_n hx hb d_Mo_modulo_1 rfl (lv_at hl 1 rfl) ?_
  by_cases ha0 : vr a0 = true
  · refine hw_cS (As := [.int (a0)]) (rest := [.ref (mm)]) S hI m_Mo_isRegister w_799 (c_Mo_isRegister l D t0 L _ _ a0) hl.1 rfl rfl (Nat.le_of_ble_eq_true rfl) d_Mo_modulo_2 ⟨Nat.le_of_ble_eq_true rfl, Nat.le_of_ble_eq_true rfl⟩ ⟨Nat.le_of_ble_eq_true rfl, Nat.le_of_ble_eq_true rfl⟩ (fun v9 L9 f128 H locs hp hI => ?_)
    refine W.cs (cells' := 0) (slots' := 0) rfl rfl ?_
    obtain ⟨hv9, rfl, rfl⟩ := hp
    cases hv9
    refine hw_stk (st' := [.int (if vr a0 = true then nI 1 else nI 0), .ref (mm)]) rfl ?_
    refine hw_ti (show _ = nI 1 from by rw [if_pos ha0]) ?_
    refine hw_if_eq (tgt := 34) hx hb d_Mo_modulo_5 (by decide) (by decide) (fun c9 => absurd c9 (by decide)) (fun _ => ?_)
    refine lv_iload_n hx hb d_Mo_modulo_8 rfl (lv_at hl 2 rfl) ?_
    refine lv_i2l hx hb d_Mo_modulo_9 rfl ?_
    refine lv_lconst (v := lN 0) hx hb d_Mo_modulo_10 rfl ?_
    refine lv_lconst (v := lN 1) hx hb d_Mo_modulo_11 rfl ?_
    by_cases hp0 : inR p0 0 1 = true
    · refine hw_cS (As := [.long ((p0).toInt64), .long (lN 0), .long (lN 1)]) (rest := [.ref (mm)]) S hI m_Mo_in w_843 (c_Mo_in l D t0 L _ _ p0 0 1 (by omega) (by omega)) hl.1 rfl rfl (Nat.le_of_ble_eq_true rfl) d_Mo_modulo_12 ⟨Nat.le_of_ble_eq_true rfl, Nat.le_of_ble_eq_true rfl⟩ ⟨Nat.le_of_ble_eq_true rfl, Nat.le_of_ble_eq_true rfl⟩ (fun v9 L9 f131 H locs hp hI => ?_)
      refine W.cs (cells' := 0) (slots' := 0) rfl rfl ?_
      obtain ⟨hv9, rfl, rfl⟩ := hp
      cases hv9
      refine hw_stk (st' := [.int (if inR p0 0 1 = true then nI 1 else nI 0), .ref (mm)]) rfl ?_
      refine hw_ti (show _ = nI 1 from by rw [if_pos hp0]) ?_
      refine hw_if_eq (tgt := 34) hx hb d_Mo_modulo_15 (by decide) (by decide) (fun c9 => absurd c9 (by decide)) (fun _ => ?_)
      refine lv_iload_n hx hb d_Mo_modulo_18 rfl (lv_at hl 3 rfl) ?_
      refine lv_i2l hx hb d_Mo_modulo_19 rfl ?_
      refine lv_lconst (v := lN 1) hx hb d_Mo_modulo_20 rfl ?_
      refine hw_ldc2 (v := lN 1000000000) hx hb hown (hT _ w_850) d_Mo_modulo_21 ?_
      by_cases hm0 : inR m0 1 1000000000 = true
      · refine hw_cS (As := [.long ((m0).toInt64), .long (lN 1), .long (lN 1000000000)]) (rest := [.ref (mm)]) S hI m_Mo_in w_843 (c_Mo_in l D t0 L _ _ m0 1 1000000000 (by omega) (by omega)) hl.1 rfl rfl (Nat.le_of_ble_eq_true rfl) d_Mo_modulo_24 ⟨Nat.le_of_ble_eq_true rfl, Nat.le_of_ble_eq_true rfl⟩ ⟨Nat.le_of_ble_eq_true rfl, Nat.le_of_ble_eq_true rfl⟩ (fun v9 L9 f134 H locs hp hI => ?_)
        refine W.cs (cells' := 0) (slots' := 0) rfl rfl ?_
        obtain ⟨hv9, rfl, rfl⟩ := hp
        cases hv9
        refine hw_stk (st' := [.int (if inR m0 1 1000000000 = true then nI 1 else nI 0), .ref (mm)]) rfl ?_
        refine hw_ti (show _ = nI 1 from by rw [if_pos hm0]) ?_
        refine hw_if_eq (tgt := 34) hx hb d_Mo_modulo_27 (by decide) (by decide) (fun c9 => absurd c9 (by decide)) (fun _ => ?_)
        have hv : (vr a0 && inR p0 0 1 && inR m0 1 1000000000) = true := by simp [ha0, hp0, hm0]
        refine lv_iconst (v := nI 0) hx hb d_Mo_modulo_30 (by decide) ?_
        refine lv_goto (tgt := 35) hx hb d_Mo_modulo_31 (by decide) ?_
        refine ob_put S hI hm.1 (fs' := [.int (nI 0), .ref (mc), .ref (ml), .ref (mg), .ref (mw), .ref (mr)]) (C := R_Mo) (T := F_Mo) (N := 6) (ref := "WallFractionsModel") rfl i_Mo t_Mo t_Mo_ok n_Mo 0 (by decide) rfl w_771 rfl rfl rfl (by simp only [List.length]; decide) rfl d_Mo_modulo_35 (fun f136 H locs hI hO9 hf136 => ?_)
        have hm := hm.umm hf136 hO9
        have hF := hF.umm hf136
        have hn := (⟨_, _, hm, hc⟩ : Mn D L _ mm mc ml mg mw mr _ _ _ _ _)
        refine lv_aload_n hx hb d_Mo_modulo_38 rfl (lv_at hl 0 rfl) ?_
        refine ob_get S hI hm.1 (C := R_Mo) (T := F_Mo) (N := 6) (ref := "WallFractionsModel") rfl i_Mo 0 (by decide) rfl w_771 rfl d_Mo_modulo_39 ?_
        refine hw_if_le (tgt := 47) hx hb d_Mo_modulo_42 (by decide) (by decide) (fun _ => ?_) (fun c9 => absurd c9 (by decide))
        obtain ⟨a, ha9, rfl⟩ := vr_nat ha0
        obtain ⟨p1, _, hp9, rfl⟩ := inR_nat hp0 (by decide) (by decide)
        obtain ⟨m1, hm8, hm9, rfl⟩ := inR_nat hm0 (by decide) (by decide)
        refine lv_aload_n hx hb d_Mo_modulo_47 rfl (lv_at hl 0 rfl) ?_
        refine lv_bipush (v := nI 32) hx hb d_Mo_modulo_48 (by decide) ?_
        refine lv_bipush (v := nI 16) hx hb d_Mo_modulo_50 (by decide) ?_
        refine lv_iload_n hx hb d_Mo_modulo_52 rfl (lv_at hl 2 rfl) ?_
        refine lv_imul hx hb d_Mo_modulo_53 ?_
        refine hw_ti (pk_mul _ _) ?_
        refine lv_iload_n hx hb d_Mo_modulo_54 rfl (lv_at hl 1 rfl) ?_
        refine lv_iadd hx hb d_Mo_modulo_55 ?_
        refine hw_ti (nI_add _ _) ?_
        refine hw_cV (As := [.int (nI 32), .int (nI ((16 * p1) + a))]) (rest := []) S hI m_Mo_copy w_810 (c_Mo_copy l D t0 L _ _ mm mc ml mg mw mr (nI 0) y sn wt rr 32 (16 * p1 + a) hn (by decide) (by omega)) hm.1 rfl hl.1 rfl rfl (Nat.le_of_ble_eq_true rfl) d_Mo_modulo_56 ⟨Nat.le_of_ble_eq_true rfl, Nat.le_of_ble_eq_true rfl⟩ ⟨Nat.le_of_ble_eq_true rfl, Nat.le_of_ble_eq_true rfl⟩ (fun v9 L9 f137 H locs hp hI => ?_)
        refine W.cs (cells' := 0) (slots' := 0) rfl rfl ?_
        obtain ⟨hv9, rfl, hn, hF9⟩ := hp
        cases hv9
        refine hw_stk (st' := []) rfl ?_
        have hF := hF.trans hF9
        obtain ⟨y138, ey⟩ : ∃ z9, z9 = va_up y 32 (y (16 * p1 + a)) := ⟨_, rfl⟩
        rw [← ey] at hn
        have q32 : y138 32 = prt (σ a) (nI p1) := by rw [ey]; rw [hw_up_eq]; exact hR.pr9 ha9 hp9
        have k32 := q32
        have hR : RM σ y138 sn := by rw [ey]; exact hR.up (by decide)
        obtain ⟨cs, ns, hm, hc⟩ := id hn
        refine lv_aload_n hx hb d_Mo_modulo_59 rfl (lv_at hl 0 rfl) ?_
        refine lv_bipush (v := nI 32) hx hb d_Mo_modulo_60 (by decide) ?_
        refine lv_iload_n hx hb d_Mo_modulo_62 rfl (lv_at hl 3 rfl) ?_
        refine lv_i2l (v := lN m1) hx hb d_Mo_modulo_63 (nI_l (by omega)) ?_
        refine hw_cV (As := [.int (nI 32), .long (lN m1)]) (rest := []) S hI m_Mo_by w_904 (c_Mo_by l D t0 L _ _ mm mc ml mg mw mr (nI 0) y138 sn wt rr 32 m1 hn (by decide) (by omega) (by omega)) hm.1 rfl hl.1 rfl rfl (Nat.le_of_ble_eq_true rfl) d_Mo_modulo_64 ⟨Nat.le_of_ble_eq_true rfl, Nat.le_of_ble_eq_true rfl⟩ ⟨Nat.le_of_ble_eq_true rfl, Nat.le_of_ble_eq_true rfl⟩ (fun v9 L9 f139 H locs hp hI => ?_)
        refine W.cs (cells' := 0) (slots' := 0) rfl rfl ?_
        obtain ⟨hv9, rfl, hn, hF9⟩ := hp
        cases hv9
        refine hw_stk (st' := [.long (lN (y138 32 % m1))]) rfl ?_
        have hF := hF.trans hF9
        have hR := hR.up (i := 32) (x := y138 32 / m1) (by decide)
        refine hw_tl (show _ = lN (prt (σ a) (nI p1) % m1) from by rw [k32]) ?_
        have e9 : aMod σ (nI a) (nI p1) (nI m1) = some (nI (prt (σ a) (nI p1) % m1)) := by unfold aMod; rw [if_pos hv, ix_nI (by omega), nI_clamp (by omega)]
        refine lv_l2i (v := nI (prt (σ a) (nI p1) % m1)) hx hb d_Mo_modulo_67 (lN_i _) ?_
        exact hw_iret hx hb hr hlocks hI d_Mo_modulo_68 ⟨by rw [e9]; rfl, rfl, by rw [e9]; exact ⟨_, _, _, hn, hR⟩, hF⟩
      · refine hw_cS (As := [.long ((m0).toInt64), .long (lN 1), .long (lN 1000000000)]) (rest := [.ref (mm)]) S hI m_Mo_in w_843 (c_Mo_in l D t0 L _ _ m0 1 1000000000 (by omega) (by omega)) hl.1 rfl rfl (Nat.le_of_ble_eq_true rfl) d_Mo_modulo_24 ⟨Nat.le_of_ble_eq_true rfl, Nat.le_of_ble_eq_true rfl⟩ ⟨Nat.le_of_ble_eq_true rfl, Nat.le_of_ble_eq_true rfl⟩ (fun v9 L9 f133 H locs hp hI => ?_)
        refine W.cs (cells' := 0) (slots' := 0) rfl rfl ?_
        obtain ⟨hv9, rfl, rfl⟩ := hp
        cases hv9
        refine hw_stk (st' := [.int (if inR m0 1 1000000000 = true then nI 1 else nI 0), .ref (mm)]) rfl ?_
        refine hw_ti (show _ = nI 0 from by rw [if_neg hm0]) ?_
        refine hw_if_eq (tgt := 34) hx hb d_Mo_modulo_27 (by decide) (by decide) (fun _ => ?_) (fun c9 => absurd c9 (by decide))
        have e9 : aMod σ a0 p0 m0 = none := by unfold aMod; rw [if_neg (by simp [hm0])]
        refine lv_iconst (v := nI 1) hx hb d_Mo_modulo_34 (by decide) ?_
        refine ob_put S hI hm.1 (fs' := [.int (nI 1), .ref (mc), .ref (ml), .ref (mg), .ref (mw), .ref (mr)]) (C := R_Mo) (T := F_Mo) (N := 6) (ref := "WallFractionsModel") rfl i_Mo t_Mo t_Mo_ok n_Mo 0 (by decide) rfl w_771 rfl rfl rfl (by simp only [List.length]; decide) rfl d_Mo_modulo_35 (fun f135 H locs hI hO9 hf135 => ?_)
        have hm := hm.umm hf135 hO9
        have hF := hF.umm hf135
        have hn := (⟨_, _, hm, hc⟩ : Mn D L _ mm mc ml mg mw mr _ _ _ _ _)
        refine lv_aload_n hx hb d_Mo_modulo_38 rfl (lv_at hl 0 rfl) ?_
        refine ob_get S hI hm.1 (C := R_Mo) (T := F_Mo) (N := 6) (ref := "WallFractionsModel") rfl i_Mo 0 (by decide) rfl w_771 rfl d_Mo_modulo_39 ?_
        refine hw_if_le (tgt := 47) hx hb d_Mo_modulo_42 (by decide) (by decide) (fun c9 => absurd c9 (by decide)) (fun _ => ?_)
        refine lv_iconst (v := nI 0) hx hb d_Mo_modulo_45 (by decide) ?_
        exact hw_iret hx hb hr hlocks hI d_Mo_modulo_46 ⟨by rw [e9]; rfl, rfl, by rw [e9]; exact ⟨_, _, _, hn, hR⟩, hF⟩
    · refine hw_cS (As := [.long ((p0).toInt64), .long (lN 0), .long (lN 1)]) (rest := [.ref (mm)]) S hI m_Mo_in w_843 (c_Mo_in l D t0 L _ _ p0 0 1 (by omega) (by omega)) hl.1 rfl rfl (Nat.le_of_ble_eq_true rfl) d_Mo_modulo_12 ⟨Nat.le_of_ble_eq_true rfl, Nat.le_of_ble_eq_true rfl⟩ ⟨Nat.le_of_ble_eq_true rfl, Nat.le_of_ble_eq_true rfl⟩ (fun v9 L9 f130 H locs hp hI => ?_)
      refine W.cs (cells' := 0) (slots' := 0) rfl rfl ?_
      obtain ⟨hv9, rfl, rfl⟩ := hp
      cases hv9
      refine hw_stk (st' := [.int (if inR p0 0 1 = true then nI 1 else nI 0), .ref (mm)]) rfl ?_
      refine hw_ti (show _ = nI 0 from by rw [if_neg hp0]) ?_
      refine hw_if_eq (tgt := 34) hx hb d_Mo_modulo_15 (by decide) (by decide) (fun _ => ?_) (fun c9 => absurd c9 (by decide))
      have e9 : aMod σ a0 p0 m0 = none := by unfold aMod; rw [if_neg (by simp [hp0])]
      refine lv_iconst (v := nI 1) hx hb d_Mo_modulo_34 (by decide) ?_
      refine ob_put S hI hm.1 (fs' := [.int (nI 1), .ref (mc), .ref (ml), .ref (mg), .ref (mw), .ref (mr)]) (C := R_Mo) (T := F_Mo) (N := 6) (ref := "WallFractionsModel") rfl i_Mo t_Mo t_Mo_ok n_Mo 0 (by decide) rfl w_771 rfl rfl rfl (by simp only [List.length]; decide) rfl d_Mo_modulo_35 (fun f132 H locs hI hO9 hf132 => ?_)
      have hm := hm.umm hf132 hO9
      have hF := hF.umm hf132
      have hn := (⟨_, _, hm, hc⟩ : Mn D L _ mm mc ml mg mw mr _ _ _ _ _)
      refine lv_aload_n hx hb d_Mo_modulo_38 rfl (lv_at hl 0 rfl) ?_
      refine ob_get S hI hm.1 (C := R_Mo) (T := F_Mo) (N := 6) (ref := "WallFractionsModel") rfl i_Mo 0 (by decide) rfl w_771 rfl d_Mo_modulo_39 ?_
      refine hw_if_le (tgt := 47) hx hb d_Mo_modulo_42 (by decide) (by decide) (fun c9 => absurd c9 (by decide)) (fun _ => ?_)
      refine lv_iconst (v := nI 0) hx hb d_Mo_modulo_45 (by decide) ?_
      exact hw_iret hx hb hr hlocks hI d_Mo_modulo_46 ⟨by rw [e9]; rfl, rfl, by rw [e9]; exact ⟨_, _, _, hn, hR⟩, hF⟩
  · refine hw_cS (As := [.int (a0)]) (rest := [.ref (mm)]) S hI m_Mo_isRegister w_799 (c_Mo_isRegister l D t0 L _ _ a0) hl.1 rfl rfl (Nat.le_of_ble_eq_true rfl) d_Mo_modulo_2 ⟨Nat.le_of_ble_eq_true rfl, Nat.le_of_ble_eq_true rfl⟩ ⟨Nat.le_of_ble_eq_true rfl, Nat.le_of_ble_eq_true rfl⟩ (fun v9 L9 f127 H locs hp hI => ?_)
    refine W.cs (cells' := 0) (slots' := 0) rfl rfl ?_
    obtain ⟨hv9, rfl, rfl⟩ := hp
    cases hv9
    refine hw_stk (st' := [.int (if vr a0 = true then nI 1 else nI 0), .ref (mm)]) rfl ?_
    refine hw_ti (show _ = nI 0 from by rw [if_neg ha0]) ?_
    refine hw_if_eq (tgt := 34) hx hb d_Mo_modulo_5 (by decide) (by decide) (fun _ => ?_) (fun c9 => absurd c9 (by decide))
    have e9 : aMod σ a0 p0 m0 = none := by unfold aMod; rw [if_neg (by simp [ha0])]
    refine lv_iconst (v := nI 1) hx hb d_Mo_modulo_34 (by decide) ?_
    refine ob_put S hI hm.1 (fs' := [.int (nI 1), .ref (mc), .ref (ml), .ref (mg), .ref (mw), .ref (mr)]) (C := R_Mo) (T := F_Mo) (N := 6) (ref := "WallFractionsModel") rfl i_Mo t_Mo t_Mo_ok n_Mo 0 (by decide) rfl w_771 rfl rfl rfl (by simp only [List.length]; decide) rfl d_Mo_modulo_35 (fun f129 H locs hI hO9 hf129 => ?_)
    have hm := hm.umm hf129 hO9
    have hF := hF.umm hf129
    have hn := (⟨_, _, hm, hc⟩ : Mn D L _ mm mc ml mg mw mr _ _ _ _ _)
    refine lv_aload_n hx hb d_Mo_modulo_38 rfl (lv_at hl 0 rfl) ?_
    refine ob_get S hI hm.1 (C := R_Mo) (T := F_Mo) (N := 6) (ref := "WallFractionsModel") rfl i_Mo 0 (by decide) rfl w_771 rfl d_Mo_modulo_39 ?_
    refine hw_if_le (tgt := 47) hx hb d_Mo_modulo_42 (by decide) (by decide) (fun c9 => absurd c9 (by decide)) (fun _ => ?_)
    refine lv_iconst (v := nI 0) hx hb d_Mo_modulo_45 (by decide) ?_
    exact hw_iret hx hb hr hlocks hI d_Mo_modulo_46 ⟨by rw [e9]; rfl, rfl, by rw [e9]; exact ⟨_, _, _, hn, hR⟩, hF⟩
set_option maxHeartbeats 4000000 in
set_option maxRecDepth 100000 in
theorem c_Mo_behind (l : Launch) (D : va_G) (t0 : Nat) (L : List Nat) (f : Nat → va_E) (sz : Nat) (mm mc ml mg mw mr : Nat) (th : Int32) (σ : Sg) (wt : Nat → Nat) (a0 k0 : Int32) (hM : Mg D L f mm mc ml mg mw mr th σ wt) (hok : Ok σ wt) : Met l y_Mo_behind (Cond.code y_Mo_behind b_Mo_behind 4 (some .int) :: TT) ({ frames := 3, cells := 0, slots := 0, locals := 83 } : Room) (hw_Pc t0 [.ref (mm), .int (a0), .int (k0)] D L f sz) (hw_Q D L sz (fun oc L' f' => oc = .returned (some (.int ((aBeh σ a0 k0).getD 0))) ∧ L = L' ∧ Mg D L f' mm mc ml mg mw mr (nI (if (aBeh σ a0 k0).isSome then 0 else 1)) σ wt ∧ Fo mm mc ml mg mw mr f f')) 0 0 (hw_A L sz) := by
  refine Met.ofW (cc := b_Mo_behind) (maxL := 4) (ret := (some .int)) (by decide) rfl ?_
  intro p e s m args below meth c s₁ B hml hv
  obtain ⟨rfl, rfl, hI⟩ := hw_start hv
  clear hv
  have hx := B.exec
  have hb := B.bytes
  have hr := B.returns
  have hlocks := B.notSynchronized
  have hown : s.vm.findClass "WallFractionsModel" = some m.cls := findClass_of_methodNamed B.named
  have hT : ∀ w ∈ TT, w.before ([.ref (mm), .int (a0), .int (k0)]).toArray s = true := fun w h => atoms_spec (ws := (Cond.code y_Mo_behind b_Mo_behind 4 (some .int) :: TT)) B.pre w (List.mem_cons_of_mem _ h)
  have S : CallFix p m c b_Mo_behind 4 s ([.ref (mm), .int (a0), .int (k0)]).toArray TT "WallFractionsModel" := ⟨hx, hb, hml, hown, hT⟩
  have hl := lv_entry ([.ref (mm), .int (a0), .int (k0)]) (n := 4) (Nat.le_of_ble_eq_true rfl)
  rw [lg_entry_eq]
  generalize (lg_sl ([.ref (mm), .int (a0), .int (k0)]) ++ List.replicate (4 - (lg_sl ([.ref (mm), .int (a0), .int (k0)])).length) Slot.unset).toArray = ls at hl ⊢
  have hl : lv_has ls 4 [(0, .ref (mm)), (1, .int (a0)), (2, .int (k0))] := hl
  skip
  obtain ⟨y, sn, rr, hn, hR⟩ := hM
  have hF : Fo mm mc ml mg mw mr f f := Fo.refl
  obtain ⟨cs, ns, hm, hc⟩ := id hn
  refine lv_aload_n hx hb d_Mo_behind_0 rfl (lv_at hl 0 rfl) ?_
  refine lv_iload_n hx hb d_Mo_behind_1 rfl (lv_at hl 1 rfl) ?_
  by_cases ha0 : vr a0 = true
  · refine hw_cS (As := [.int (a0)]) (rest := [.ref (mm)]) S hI m_Mo_isRegister w_799 (c_Mo_isRegister l D t0 L _ _ a0) hl.1 rfl rfl (Nat.le_of_ble_eq_true rfl) d_Mo_behind_2 ⟨Nat.le_of_ble_eq_true rfl, Nat.le_of_ble_eq_true rfl⟩ ⟨Nat.le_of_ble_eq_true rfl, Nat.le_of_ble_eq_true rfl⟩ (fun v9 L9 f141 H locs hp hI => ?_)
    refine W.cs (cells' := 0) (slots' := 0) rfl rfl ?_
    obtain ⟨hv9, rfl, rfl⟩ := hp
    cases hv9
    refine hw_stk (st' := [.int (if vr a0 = true then nI 1 else nI 0), .ref (mm)]) rfl ?_
    refine hw_ti (show _ = nI 1 from by rw [if_pos ha0]) ?_
    refine hw_if_eq (tgt := 24) hx hb d_Mo_behind_5 (by decide) (by decide) (fun c9 => absurd c9 (by decide)) (fun _ => ?_)
    refine lv_iload_n hx hb d_Mo_behind_8 rfl (lv_at hl 2 rfl) ?_
    refine lv_i2l hx hb d_Mo_behind_9 rfl ?_
    refine lv_lconst (v := lN 1) hx hb d_Mo_behind_10 rfl ?_
    refine hw_ldc2 (v := lN 300) hx hb hown (hT _ w_959) d_Mo_behind_11 ?_
    by_cases hk0 : inR k0 1 300 = true
    · refine hw_cS (As := [.long ((k0).toInt64), .long (lN 1), .long (lN 300)]) (rest := [.ref (mm)]) S hI m_Mo_in w_843 (c_Mo_in l D t0 L _ _ k0 1 300 (by omega) (by omega)) hl.1 rfl rfl (Nat.le_of_ble_eq_true rfl) d_Mo_behind_14 ⟨Nat.le_of_ble_eq_true rfl, Nat.le_of_ble_eq_true rfl⟩ ⟨Nat.le_of_ble_eq_true rfl, Nat.le_of_ble_eq_true rfl⟩ (fun v9 L9 f144 H locs hp hI => ?_)
      refine W.cs (cells' := 0) (slots' := 0) rfl rfl ?_
      obtain ⟨hv9, rfl, rfl⟩ := hp
      cases hv9
      refine hw_stk (st' := [.int (if inR k0 1 300 = true then nI 1 else nI 0), .ref (mm)]) rfl ?_
      refine hw_ti (show _ = nI 1 from by rw [if_pos hk0]) ?_
      refine hw_if_eq (tgt := 24) hx hb d_Mo_behind_17 (by decide) (by decide) (fun c9 => absurd c9 (by decide)) (fun _ => ?_)
      have hv : (vr a0 && inR k0 1 300) = true := by simp [ha0, hk0]
      refine lv_iconst (v := nI 0) hx hb d_Mo_behind_20 (by decide) ?_
      refine lv_goto (tgt := 25) hx hb d_Mo_behind_21 (by decide) ?_
      refine ob_put S hI hm.1 (fs' := [.int (nI 0), .ref (mc), .ref (ml), .ref (mg), .ref (mw), .ref (mr)]) (C := R_Mo) (T := F_Mo) (N := 6) (ref := "WallFractionsModel") rfl i_Mo t_Mo t_Mo_ok n_Mo 0 (by decide) rfl w_771 rfl rfl rfl (by simp only [List.length]; decide) rfl d_Mo_behind_25 (fun f146 H locs hI hO9 hf146 => ?_)
      have hm := hm.umm hf146 hO9
      have hF := hF.umm hf146
      have hn := (⟨_, _, hm, hc⟩ : Mn D L _ mm mc ml mg mw mr _ _ _ _ _)
      refine lv_aload_n hx hb d_Mo_behind_28 rfl (lv_at hl 0 rfl) ?_
      refine ob_get S hI hm.1 (C := R_Mo) (T := F_Mo) (N := 6) (ref := "WallFractionsModel") rfl i_Mo 0 (by decide) rfl w_771 rfl d_Mo_behind_29 ?_
      refine hw_if_le (tgt := 37) hx hb d_Mo_behind_32 (by decide) (by decide) (fun _ => ?_) (fun c9 => absurd c9 (by decide))
      obtain ⟨a, ha9, rfl⟩ := vr_nat ha0
      obtain ⟨k, hk8, hk9, rfl⟩ := inR_nat hk0 (by decide) (by decide)
      have oka := hok.1 a ha9
      have lta := oka.lt4
      obtain ⟨N, hN⟩ : ∃ z9, z9 = (σ a).1 := ⟨_, rfl⟩
      obtain ⟨B, hB⟩ : ∃ z9, z9 = (σ a).2.1 := ⟨_, rfl⟩
      have hB0 : 0 < B := by rw [hB]; exact oka.2.2.1
      have hBl : B < 10000 ^ 45 := by rw [hB]; exact lta.2
      have e9 : aBeh σ (nI a) (nI k) = some (nI (N * 10 ^ k / B % 10)) := by unfold aBeh; rw [if_pos hv, ix_nI (by omega), nI_clamp (by omega), ← hN, ← hB]
      refine lv_aload_n hx hb d_Mo_behind_37 rfl (lv_at hl 0 rfl) ?_
      refine lv_bipush (v := nI 32) hx hb d_Mo_behind_38 (by decide) ?_
      refine lv_iload_n hx hb d_Mo_behind_40 rfl (lv_at hl 1 rfl) ?_
      refine hw_cV (As := [.int (nI 32), .int (nI a)]) (rest := []) S hI m_Mo_copy w_810 (c_Mo_copy l D t0 L _ _ mm mc ml mg mw mr (nI 0) y sn wt rr 32 a hn (by decide) (by omega)) hm.1 rfl hl.1 rfl rfl (Nat.le_of_ble_eq_true rfl) d_Mo_behind_41 ⟨Nat.le_of_ble_eq_true rfl, Nat.le_of_ble_eq_true rfl⟩ ⟨Nat.le_of_ble_eq_true rfl, Nat.le_of_ble_eq_true rfl⟩ (fun v9 L9 f147 H locs hp hI => ?_)
      refine W.cs (cells' := 0) (slots' := 0) rfl rfl ?_
      obtain ⟨hv9, rfl, hn, hF9⟩ := hp
      cases hv9
      refine hw_stk (st' := []) rfl ?_
      have hF := hF.trans hF9
      obtain ⟨y148, ey⟩ : ∃ z9, z9 = va_up y 32 (y a) := ⟨_, rfl⟩
      rw [← ey] at hn
      have q32 : y148 32 = N := by rw [ey]; rw [hw_up_eq]; exact (hR a ha9).1.trans hN.symm
      have k32 := q32
      have hR : RM σ y148 sn := by rw [ey]; exact hR.up (by decide)
      obtain ⟨cs, ns, hm, hc⟩ := id hn
      refine lv_aload_n hx hb d_Mo_behind_44 rfl (lv_at hl 0 rfl) ?_
      refine lv_bipush (v := nI 32) hx hb d_Mo_behind_45 (by decide) ?_
      refine lv_bipush (v := nI 16) hx hb d_Mo_behind_47 (by decide) ?_
      refine lv_iload_n hx hb d_Mo_behind_49 rfl (lv_at hl 1 rfl) ?_
      refine lv_iadd hx hb d_Mo_behind_50 ?_
      refine hw_ti (nI_add _ _) ?_
      refine lv_bipush (v := nI 37) hx hb d_Mo_behind_51 (by decide) ?_
      refine hw_cV (As := [.int (nI 32), .int (nI (16 + a)), .int (nI 37)]) (rest := []) S hI m_Mo_part w_818 (c_Mo_part l D t0 L _ _ mm mc ml mg mw mr (nI 0) y148 sn wt rr 32 (16 + a) 37 hn (by decide) (by omega) (by decide) (by omega) (by decide) (by omega) (by rw [(hR a ha9).2.1, ← hB]; exact hB0)) hm.1 rfl hl.1 rfl rfl (Nat.le_of_ble_eq_true rfl) d_Mo_behind_53 ⟨Nat.le_of_ble_eq_true rfl, Nat.le_of_ble_eq_true rfl⟩ ⟨Nat.le_of_ble_eq_true rfl, Nat.le_of_ble_eq_true rfl⟩ (fun v9 L9 f149 H locs hp hI => ?_)
      refine W.cs (cells' := 0) (slots' := 0) rfl rfl ?_
      obtain ⟨hv9, rfl, hn, hF9⟩ := hp
      cases hv9
      refine hw_stk (st' := []) rfl ?_
      have hF := hF.trans hF9
      obtain ⟨y150, ey⟩ : ∃ z9, z9 = va_up (va_up y148 32 (y148 32 % y148 (16 + a))) 37 (y148 32 / y148 (16 + a)) := ⟨_, rfl⟩
      rw [← ey] at hn
      have q32 : y150 32 = N % B := by rw [ey]; rw [hw_up_ne (by decide), hw_up_eq, k32, (hR a ha9).2.1, ← hB]
      have q37 : y150 37 = N / B := by rw [ey]; rw [hw_up_eq, k32, (hR a ha9).2.1, ← hB]
      have k32 := q32
      have k37 := q37
      have hR : RM σ y150 sn := by rw [ey]; exact (hR.up (by decide)).up (by decide)
      obtain ⟨cs, ns, hm, hc⟩ := id hn
      refine lv_iconst (v := nI 0) hx hb d_Mo_behind_56 (by decide) ?_
      refine lv_istore_n (lv' := [(3, .int (nI 0)), (0, .ref (mm)), (1, .int (nI a)), (2, .int (nI k))]) hx hb d_Mo_behind_57 rfl hl (by decide) rfl (fun ls hl => ?_)
      have loop : ∀ (g t : Nat) (y1 : Nat → Nat) (f1 : Nat → va_E) (H : Heap) (locs : List Loc) (ls : Array Slot), t + g = k → y1 32 = N * 10 ^ t % B → (0 < t → y1 37 = N * 10 ^ t / B % 10) → RM σ y1 sn → Mn D L f1 mm mc ml mg mw mr (nI 0) y1 sn wt rr → Fo mm mc ml mg mw mr f f1 → hw_I D t0 (hw_A L s.heap.size) s L f1 H locs → lv_has ls 4 [(3, .int (nI t)), (2, .int (nI k)), (1, .int (nI a)), (0, .ref (mm))] → W p l e (headSpec (Cond.code y_Mo_behind b_Mo_behind 4 (some .int) :: TT) ({ frames := 3, cells := 0, slots := 0, locals := 83 } : Room)).room s m ([.ref (mm), .int ((nI a)), .int ((nI k))]).toArray below meth c H locs 0 0 (MQ below (hw_Q D L s.heap.size (fun oc L' f' => oc = .returned (some (.int ((aBeh σ (nI a) (nI k)).getD 0))) ∧ L = L' ∧ Mg D L f' mm mc ml mg mw mr (nI (if (aBeh σ (nI a) (nI k)).isSome then 0 else 1)) σ wt ∧ Fo mm mc ml mg mw mr f f')) ([.ref (mm), .int ((nI a)), .int ((nI k))]).toArray s 0 0 (hw_A L s.heap.size)) (F0 m 58 ls []) := by
        intro g
        induction g with
        | zero =>
          intro t y1 f1 H locs ls htg k32 h37 hR hn hF hI hl
          obtain ⟨cs, ns, hm, hc⟩ := id hn
          refine lv_iload_n hx hb d_Mo_behind_58 rfl (lv_at hl 0 rfl) ?_
          refine lv_iload_n hx hb d_Mo_behind_59 rfl (lv_at hl 1 rfl) ?_
          refine hw_icmp_ge (tgt := 91) hx hb d_Mo_behind_60 (by decide) (by omega) (by omega) (fun _ => ?_) (fun c9 => absurd c9 (by omega))
          have ht : t = k := by omega
          have k37 := h37 (by omega)
          rw [ht] at k37
          have hlt9 := Nat.mod_lt (N * 10 ^ k / B) (show 0 < 10 by decide)
          refine lv_aload_n hx hb d_Mo_behind_91 rfl (lv_at hl 3 rfl) ?_
          refine lv_bipush (v := nI 37) hx hb d_Mo_behind_92 (by decide) ?_
          refine lv_iconst (v := nI 0) hx hb d_Mo_behind_94 (by decide) ?_
          refine hw_cV (As := [.int (nI 37), .int (nI 0)]) (rest := []) S hI m_Mo_cell w_822 (c_Mo_cell l D t0 L _ _ mm mc ml mg mw mr (nI 0) cs ns sn wt rr 37 0 hm (by decide) (by decide) (hc.2 37 (by decide)).1) hm.1 rfl hl.1 rfl rfl (Nat.le_of_ble_eq_true rfl) d_Mo_behind_95 ⟨Nat.le_of_ble_eq_true rfl, Nat.le_of_ble_eq_true rfl⟩ ⟨Nat.le_of_ble_eq_true rfl, Nat.le_of_ble_eq_true rfl⟩ (fun v9 L9 f151 H locs hp hI => ?_)
          refine W.cs (cells' := 0) (slots' := 0) rfl rfl ?_
          obtain ⟨hv9, rfl, rfl⟩ := hp
          cases hv9
          refine hw_stk (st' := [.int (nI (pcl cs ns 37 0))]) rfl ?_
          refine hw_ti (show _ = nI (N * 10 ^ k / B % 10) from by rw [pcl_num hc.1, (hc.2 37 (by decide)).2.2.2, k37, Nat.pow_zero, Nat.div_one, Nat.mod_eq_of_lt (by omega)]) ?_
          exact hw_iret hx hb hr hlocks hI d_Mo_behind_98 ⟨by rw [e9]; rfl, rfl, by rw [e9]; exact ⟨_, _, _, hn, hR⟩, hF⟩
        | succ g ih =>
          intro t y1 f1 H locs ls htg k32 h37 hR hn hF hI hl
          obtain ⟨cs, ns, hm, hc⟩ := id hn
          refine lv_iload_n hx hb d_Mo_behind_58 rfl (lv_at hl 0 rfl) ?_
          refine lv_iload_n hx hb d_Mo_behind_59 rfl (lv_at hl 1 rfl) ?_
          refine hw_icmp_ge (tgt := 91) hx hb d_Mo_behind_60 (by decide) (by omega) (by omega) (fun c9 => absurd c9 (by omega)) (fun _ => ?_)
          have hml9 := Nat.mod_lt (N * 10 ^ t) hB0
          obtain ⟨s1, s2⟩ := beh_step (N := N) (t := t) hB0
          refine lv_aload_n hx hb d_Mo_behind_63 rfl (lv_at hl 3 rfl) ?_
          refine lv_bipush (v := nI 32) hx hb d_Mo_behind_64 (by decide) ?_
          refine hw_ldc2 (v := lN 10) hx hb hown (hT _ w_918) d_Mo_behind_66 ?_
          refine lv_lconst (v := lN 0) hx hb d_Mo_behind_69 rfl ?_
          refine hw_cV (As := [.int (nI 32), .long (lN 10), .long (lN 0)]) (rest := []) S hI m_Mo_times w_851 (c_Mo_times l D t0 L _ _ mm mc ml mg mw mr (nI 0) y1 sn wt rr 32 10 0 hn (by decide) (by rw [k32]; exact p4 125 (Nat.lt_trans hml9 hBl) (by decide)) (by decide) (by decide)) hm.1 rfl hl.1 rfl rfl (Nat.le_of_ble_eq_true rfl) d_Mo_behind_70 ⟨Nat.le_of_ble_eq_true rfl, Nat.le_of_ble_eq_true rfl⟩ ⟨Nat.le_of_ble_eq_true rfl, Nat.le_of_ble_eq_true rfl⟩ (fun v9 L9 f152 H locs hp hI => ?_)
          refine W.cs (cells' := 0) (slots' := 0) rfl rfl ?_
          obtain ⟨hv9, rfl, hn, hF9⟩ := hp
          cases hv9
          refine hw_stk (st' := []) rfl ?_
          have hF := hF.trans hF9
          obtain ⟨y153, ey⟩ : ∃ z9, z9 = va_up y1 32 (y1 32 * 10 + 0) := ⟨_, rfl⟩
          rw [← ey] at hn
          have q32 : y153 32 = N * 10 ^ t % B * 10 + 0 := by rw [ey]; rw [hw_up_eq, k32]
          have k32 := q32
          have hR : RM σ y153 sn := by rw [ey]; exact hR.up (by decide)
          obtain ⟨cs, ns, hm, hc⟩ := id hn
          refine lv_aload_n hx hb d_Mo_behind_73 rfl (lv_at hl 3 rfl) ?_
          refine lv_bipush (v := nI 32) hx hb d_Mo_behind_74 (by decide) ?_
          refine lv_bipush (v := nI 16) hx hb d_Mo_behind_76 (by decide) ?_
          refine lv_iload_n hx hb d_Mo_behind_78 rfl (lv_at hl 2 rfl) ?_
          refine lv_iadd hx hb d_Mo_behind_79 ?_
          refine hw_ti (nI_add _ _) ?_
          refine lv_bipush (v := nI 37) hx hb d_Mo_behind_80 (by decide) ?_
          refine hw_cV (As := [.int (nI 32), .int (nI (16 + a)), .int (nI 37)]) (rest := []) S hI m_Mo_part w_818 (c_Mo_part l D t0 L _ _ mm mc ml mg mw mr (nI 0) y153 sn wt rr 32 (16 + a) 37 hn (by decide) (by omega) (by decide) (by omega) (by decide) (by omega) (by rw [(hR a ha9).2.1, ← hB]; exact hB0)) hm.1 rfl hl.1 rfl rfl (Nat.le_of_ble_eq_true rfl) d_Mo_behind_82 ⟨Nat.le_of_ble_eq_true rfl, Nat.le_of_ble_eq_true rfl⟩ ⟨Nat.le_of_ble_eq_true rfl, Nat.le_of_ble_eq_true rfl⟩ (fun v9 L9 f154 H locs hp hI => ?_)
          refine W.cs (cells' := 0) (slots' := 0) rfl rfl ?_
          obtain ⟨hv9, rfl, hn, hF9⟩ := hp
          cases hv9
          refine hw_stk (st' := []) rfl ?_
          have hF := hF.trans hF9
          obtain ⟨y155, ey⟩ : ∃ z9, z9 = va_up (va_up y153 32 (y153 32 % y153 (16 + a))) 37 (y153 32 / y153 (16 + a)) := ⟨_, rfl⟩
          rw [← ey] at hn
          have q32 : y155 32 = (N * 10 ^ t % B * 10 + 0) % B := by rw [ey]; rw [hw_up_ne (by decide), hw_up_eq, k32, (hR a ha9).2.1, ← hB]
          have q37 : y155 37 = (N * 10 ^ t % B * 10 + 0) / B := by rw [ey]; rw [hw_up_eq, k32, (hR a ha9).2.1, ← hB]
          have k32 := q32
          have k37 := q37
          have hR : RM σ y155 sn := by rw [ey]; exact (hR.up (by decide)).up (by decide)
          obtain ⟨cs, ns, hm, hc⟩ := id hn
          rw [s1] at k32
          rw [s2] at k37
          refine lv_iinc (v := nI (t + 1)) (lv' := [(3, .int (nI (t + 1))), (2, .int (nI k)), (1, .int (nI a)), (0, .ref (mm))]) hx hb d_Mo_behind_85 hl (k := 0) rfl (nI_1 _) (by decide) rfl (fun ls hl => ?_)
          refine lv_goto (tgt := 58) hx hb d_Mo_behind_88 (by decide) ?_
          exact ih (t + 1) _ _ _ _ _ (by omega) k32 (fun _ => k37) hR hn hF hI hl
      exact loop k 0 _ _ _ _ _ (by omega) (by rw [k32, Nat.pow_zero, Nat.mul_one]) (fun h => absurd h (by decide)) hR hn hF hI (lv_sub hl [0, 3, 2, 1] rfl)
    · refine hw_cS (As := [.long ((k0).toInt64), .long (lN 1), .long (lN 300)]) (rest := [.ref (mm)]) S hI m_Mo_in w_843 (c_Mo_in l D t0 L _ _ k0 1 300 (by omega) (by omega)) hl.1 rfl rfl (Nat.le_of_ble_eq_true rfl) d_Mo_behind_14 ⟨Nat.le_of_ble_eq_true rfl, Nat.le_of_ble_eq_true rfl⟩ ⟨Nat.le_of_ble_eq_true rfl, Nat.le_of_ble_eq_true rfl⟩ (fun v9 L9 f143 H locs hp hI => ?_)
      refine W.cs (cells' := 0) (slots' := 0) rfl rfl ?_
      obtain ⟨hv9, rfl, rfl⟩ := hp
      cases hv9
      refine hw_stk (st' := [.int (if inR k0 1 300 = true then nI 1 else nI 0), .ref (mm)]) rfl ?_
      refine hw_ti (show _ = nI 0 from by rw [if_neg hk0]) ?_
      refine hw_if_eq (tgt := 24) hx hb d_Mo_behind_17 (by decide) (by decide) (fun _ => ?_) (fun c9 => absurd c9 (by decide))
      have e9 : aBeh σ a0 k0 = none := by unfold aBeh; rw [if_neg (by simp [hk0])]
      refine lv_iconst (v := nI 1) hx hb d_Mo_behind_24 (by decide) ?_
      refine ob_put S hI hm.1 (fs' := [.int (nI 1), .ref (mc), .ref (ml), .ref (mg), .ref (mw), .ref (mr)]) (C := R_Mo) (T := F_Mo) (N := 6) (ref := "WallFractionsModel") rfl i_Mo t_Mo t_Mo_ok n_Mo 0 (by decide) rfl w_771 rfl rfl rfl (by simp only [List.length]; decide) rfl d_Mo_behind_25 (fun f145 H locs hI hO9 hf145 => ?_)
      have hm := hm.umm hf145 hO9
      have hF := hF.umm hf145
      have hn := (⟨_, _, hm, hc⟩ : Mn D L _ mm mc ml mg mw mr _ _ _ _ _)
      refine lv_aload_n hx hb d_Mo_behind_28 rfl (lv_at hl 0 rfl) ?_
      refine ob_get S hI hm.1 (C := R_Mo) (T := F_Mo) (N := 6) (ref := "WallFractionsModel") rfl i_Mo 0 (by decide) rfl w_771 rfl d_Mo_behind_29 ?_
      refine hw_if_le (tgt := 37) hx hb d_Mo_behind_32 (by decide) (by decide) (fun c9 => absurd c9 (by decide)) (fun _ => ?_)
      refine lv_iconst (v := nI 0) hx hb d_Mo_behind_35 (by decide) ?_
      exact hw_iret hx hb hr hlocks hI d_Mo_behind_36 ⟨by rw [e9]; rfl, rfl, by rw [e9]; exact ⟨_, _, _, hn, hR⟩, hF⟩
  · refine hw_cS (As := [.int (a0)]) (rest := [.ref (mm)]) S hI m_Mo_isRegister w_799 (c_Mo_isRegister l D t0 L _ _ a0) hl.1 rfl rfl (Nat.le_of_ble_eq_true rfl) d_Mo_behind_2 ⟨Nat.le_of_ble_eq_true rfl, Nat.le_of_ble_eq_true rfl⟩ ⟨Nat.le_of_ble_eq_true rfl, Nat.le_of_ble_eq_true rfl⟩ (fun v9 L9 f140 H locs hp hI => ?_)
    refine W.cs (cells' := 0) (slots' := 0) rfl rfl ?_
    obtain ⟨hv9, rfl, rfl⟩ := hp
    cases hv9
    refine hw_stk (st' := [.int (if vr a0 = true then nI 1 else nI 0), .ref (mm)]) rfl ?_
    refine hw_ti (show _ = nI 0 from by rw [if_neg ha0]) ?_
    refine hw_if_eq (tgt := 24) hx hb d_Mo_behind_5 (by decide) (by decide) (fun _ => ?_) (fun c9 => absurd c9 (by decide))
    have e9 : aBeh σ a0 k0 = none := by unfold aBeh; rw [if_neg (by simp [ha0])]
    refine lv_iconst (v := nI 1) hx hb d_Mo_behind_24 (by decide) ?_
    refine ob_put S hI hm.1 (fs' := [.int (nI 1), .ref (mc), .ref (ml), .ref (mg), .ref (mw), .ref (mr)]) (C := R_Mo) (T := F_Mo) (N := 6) (ref := "WallFractionsModel") rfl i_Mo t_Mo t_Mo_ok n_Mo 0 (by decide) rfl w_771 rfl rfl rfl (by simp only [List.length]; decide) rfl d_Mo_behind_25 (fun f142 H locs hI hO9 hf142 => ?_)
    have hm := hm.umm hf142 hO9
    have hF := hF.umm hf142
    have hn := (⟨_, _, hm, hc⟩ : Mn D L _ mm mc ml mg mw mr _ _ _ _ _)
    refine lv_aload_n hx hb d_Mo_behind_28 rfl (lv_at hl 0 rfl) ?_
    refine ob_get S hI hm.1 (C := R_Mo) (T := F_Mo) (N := 6) (ref := "WallFractionsModel") rfl i_Mo 0 (by decide) rfl w_771 rfl d_Mo_behind_29 ?_
    refine hw_if_le (tgt := 37) hx hb d_Mo_behind_32 (by decide) (by decide) (fun c9 => absurd c9 (by decide)) (fun _ => ?_)
    refine lv_iconst (v := nI 0) hx hb d_Mo_behind_35 (by decide) ?_
    exact hw_iret hx hb hr hlocks hI d_Mo_behind_36 ⟨by rw [e9]; rfl, rfl, by rw [e9]; exact ⟨_, _, _, hn, hR⟩, hF⟩
set_option maxHeartbeats 4000000 in
set_option maxRecDepth 100000 in
theorem c_Mo_weight (l : Launch) (D : va_G) (t0 : Nat) (L : List Nat) (f : Nat → va_E) (sz : Nat) (mm mc ml mg mw mr : Nat) (th : Int32) (σ : Sg) (wt : Nat → Nat) (k0 w0 : Int32) (hM : Mg D L f mm mc ml mg mw mr th σ wt) (hok : Ok σ wt) : Met l y_Mo_weight (Cond.code y_Mo_weight b_Mo_weight 4 (some .int) :: TT) ({ frames := 1, cells := 0, slots := 0, locals := 25 } : Room) (hw_Pc t0 [.ref (mm), .int (k0), .int (w0)] D L f sz) (hw_Q D L sz (fun oc L' f' => oc = .returned (some (.int ((aWgt wt k0 w0).getD 0))) ∧ L = L' ∧ Mg D L f' mm mc ml mg mw mr (nI (if (aWgt wt k0 w0).isSome then 0 else 1)) σ (nWgt wt k0 w0) ∧ Fo mm mc ml mg mw mr f f')) 0 0 (hw_A L sz) := by
  refine Met.ofW (cc := b_Mo_weight) (maxL := 4) (ret := (some .int)) (by decide) rfl ?_
  intro p e s m args below meth c s₁ B hml hv
  obtain ⟨rfl, rfl, hI⟩ := hw_start hv
  clear hv
  have hx := B.exec
  have hb := B.bytes
  have hr := B.returns
  have hlocks := B.notSynchronized
  have hown : s.vm.findClass "WallFractionsModel" = some m.cls := findClass_of_methodNamed B.named
  have hT : ∀ w ∈ TT, w.before ([.ref (mm), .int (k0), .int (w0)]).toArray s = true := fun w h => atoms_spec (ws := (Cond.code y_Mo_weight b_Mo_weight 4 (some .int) :: TT)) B.pre w (List.mem_cons_of_mem _ h)
  have S : CallFix p m c b_Mo_weight 4 s ([.ref (mm), .int (k0), .int (w0)]).toArray TT "WallFractionsModel" := ⟨hx, hb, hml, hown, hT⟩
  have hl := lv_entry ([.ref (mm), .int (k0), .int (w0)]) (n := 4) (Nat.le_of_ble_eq_true rfl)
  rw [lg_entry_eq]
  generalize (lg_sl ([.ref (mm), .int (k0), .int (w0)]) ++ List.replicate (4 - (lg_sl ([.ref (mm), .int (k0), .int (w0)])).length) Slot.unset).toArray = ls at hl ⊢
  have hl : lv_has ls 4 [(0, .ref (mm)), (1, .int (k0)), (2, .int (w0))] := hl
  skip
  obtain ⟨y, sn, rr, hn, hR⟩ := hM
  have hF : Fo mm mc ml mg mw mr f f := Fo.refl
  obtain ⟨cs, ns, hm, hc⟩ := id hn
  refine lv_aload_n hx hb d_Mo_weight_0 rfl (lv_at hl 0 rfl) ?_
  refine lv_iload_n hx hb d_Mo_weight_1 rfl (lv_at hl 1 rfl) ?_
  refine lv_i2l hx hb d_Mo_weight_2 rfl ?_
  refine lv_lconst (v := lN 0) hx hb d_Mo_weight_3 rfl ?_
  refine hw_ldc2 (v := lN 9) hx hb hown (hT _ w_968) d_Mo_weight_4 ?_
  by_cases hk0 : inR k0 0 9 = true
  · refine hw_cS (As := [.long ((k0).toInt64), .long (lN 0), .long (lN 9)]) (rest := [.ref (mm)]) S hI m_Mo_in w_843 (c_Mo_in l D t0 L _ _ k0 0 9 (by omega) (by omega)) hl.1 rfl rfl (Nat.le_of_ble_eq_true rfl) d_Mo_weight_7 ⟨Nat.le_of_ble_eq_true rfl, Nat.le_of_ble_eq_true rfl⟩ ⟨Nat.le_of_ble_eq_true rfl, Nat.le_of_ble_eq_true rfl⟩ (fun v9 L9 f157 H locs hp hI => ?_)
    refine W.cs (cells' := 0) (slots' := 0) rfl rfl ?_
    obtain ⟨hv9, rfl, rfl⟩ := hp
    cases hv9
    refine hw_stk (st' := [.int (if inR k0 0 9 = true then nI 1 else nI 0), .ref (mm)]) rfl ?_
    refine hw_ti (show _ = nI 1 from by rw [if_pos hk0]) ?_
    refine hw_if_eq (tgt := 29) hx hb d_Mo_weight_10 (by decide) (by decide) (fun c9 => absurd c9 (by decide)) (fun _ => ?_)
    refine lv_iload_n hx hb d_Mo_weight_13 rfl (lv_at hl 2 rfl) ?_
    refine lv_i2l hx hb d_Mo_weight_14 rfl ?_
    refine lv_lconst (v := lN 0) hx hb d_Mo_weight_15 rfl ?_
    refine hw_ldc2 (v := lN 1000000000) hx hb hown (hT _ w_850) d_Mo_weight_16 ?_
    by_cases hw0 : inR w0 0 1000000000 = true
    · refine hw_cS (As := [.long ((w0).toInt64), .long (lN 0), .long (lN 1000000000)]) (rest := [.ref (mm)]) S hI m_Mo_in w_843 (c_Mo_in l D t0 L _ _ w0 0 1000000000 (by omega) (by omega)) hl.1 rfl rfl (Nat.le_of_ble_eq_true rfl) d_Mo_weight_19 ⟨Nat.le_of_ble_eq_true rfl, Nat.le_of_ble_eq_true rfl⟩ ⟨Nat.le_of_ble_eq_true rfl, Nat.le_of_ble_eq_true rfl⟩ (fun v9 L9 f160 H locs hp hI => ?_)
      refine W.cs (cells' := 0) (slots' := 0) rfl rfl ?_
      obtain ⟨hv9, rfl, rfl⟩ := hp
      cases hv9
      refine hw_stk (st' := [.int (if inR w0 0 1000000000 = true then nI 1 else nI 0), .ref (mm)]) rfl ?_
      refine hw_ti (show _ = nI 1 from by rw [if_pos hw0]) ?_
      refine hw_if_eq (tgt := 29) hx hb d_Mo_weight_22 (by decide) (by decide) (fun c9 => absurd c9 (by decide)) (fun _ => ?_)
      have hv : (inR k0 0 9 && inR w0 0 1000000000) = true := by simp [hk0, hw0]
      refine lv_iconst (v := nI 0) hx hb d_Mo_weight_25 (by decide) ?_
      refine lv_goto (tgt := 30) hx hb d_Mo_weight_26 (by decide) ?_
      refine ob_put S hI hm.1 (fs' := [.int (nI 0), .ref (mc), .ref (ml), .ref (mg), .ref (mw), .ref (mr)]) (C := R_Mo) (T := F_Mo) (N := 6) (ref := "WallFractionsModel") rfl i_Mo t_Mo t_Mo_ok n_Mo 0 (by decide) rfl w_771 rfl rfl rfl (by simp only [List.length]; decide) rfl d_Mo_weight_30 (fun f162 H locs hI hO9 hf162 => ?_)
      have hm := hm.umm hf162 hO9
      have hF := hF.umm hf162
      have hn := (⟨_, _, hm, hc⟩ : Mn D L _ mm mc ml mg mw mr _ _ _ _ _)
      refine lv_aload_n hx hb d_Mo_weight_33 rfl (lv_at hl 0 rfl) ?_
      refine ob_get S hI hm.1 (C := R_Mo) (T := F_Mo) (N := 6) (ref := "WallFractionsModel") rfl i_Mo 0 (by decide) rfl w_771 rfl d_Mo_weight_34 ?_
      refine hw_if_le (tgt := 42) hx hb d_Mo_weight_37 (by decide) (by decide) (fun _ => ?_) (fun c9 => absurd c9 (by decide))
      obtain ⟨k, _, hk9, rfl⟩ := inR_nat hk0 (by decide) (by decide)
      obtain ⟨w1, _, hw9, rfl⟩ := inR_nat hw0 (by decide) (by decide)
      have e9 : aWgt wt (nI k) (nI w1) = some (nI (wt k)) := by unfold aWgt; rw [if_pos hv, nI_clamp (by omega)]
      have e8 : nWgt wt (nI k) (nI w1) = va_up wt k w1 := by unfold nWgt; rw [if_pos hv, nI_clamp (by omega), nI_clamp (by omega)]
      refine lv_aload_n hx hb d_Mo_weight_42 rfl (lv_at hl 0 rfl) ?_
      refine ob_get S hI hm.1 (C := R_Mo) (T := F_Mo) (N := 6) (ref := "WallFractionsModel") rfl i_Mo 4 (by decide) rfl w_775 rfl d_Mo_weight_43 ?_
      refine lv_iload_n hx hb d_Mo_weight_46 rfl (lv_at hl 1 rfl) ?_
      refine ia_ld S hI hm.2.2.2.2.1 (by decide) (by omega) d_Mo_weight_47 ?_
      refine lv_istore_n (lv' := [(3, .int (nI (wt k))), (0, .ref (mm)), (1, .int (nI k)), (2, .int (nI w1))]) hx hb d_Mo_weight_48 rfl hl (by decide) rfl (fun ls hl => ?_)
      refine lv_aload_n hx hb d_Mo_weight_49 rfl (lv_at hl 1 rfl) ?_
      refine ob_get S hI hm.1 (C := R_Mo) (T := F_Mo) (N := 6) (ref := "WallFractionsModel") rfl i_Mo 4 (by decide) rfl w_775 rfl d_Mo_weight_50 ?_
      refine lv_iload_n hx hb d_Mo_weight_53 rfl (lv_at hl 2 rfl) ?_
      refine lv_iload_n hx hb d_Mo_weight_54 rfl (lv_at hl 3 rfl) ?_
      refine ia_st S hI hm.2.2.2.2.1 (by decide) (by omega) d_Mo_weight_55 (fun f163 H locs hI hR9 hf163 => ?_)
      have hm := hm.umw hf163 hR9
      have hF := hF.umw hf163
      refine lv_iload_n hx hb d_Mo_weight_56 rfl (lv_at hl 0 rfl) ?_
      exact hw_iret hx hb hr hlocks hI d_Mo_weight_57 ⟨by rw [e9]; rfl, rfl, by rw [e9, e8]; exact ⟨_, _, _, ⟨_, _, hm, hc⟩, hR⟩, hF⟩
    · refine hw_cS (As := [.long ((w0).toInt64), .long (lN 0), .long (lN 1000000000)]) (rest := [.ref (mm)]) S hI m_Mo_in w_843 (c_Mo_in l D t0 L _ _ w0 0 1000000000 (by omega) (by omega)) hl.1 rfl rfl (Nat.le_of_ble_eq_true rfl) d_Mo_weight_19 ⟨Nat.le_of_ble_eq_true rfl, Nat.le_of_ble_eq_true rfl⟩ ⟨Nat.le_of_ble_eq_true rfl, Nat.le_of_ble_eq_true rfl⟩ (fun v9 L9 f159 H locs hp hI => ?_)
      refine W.cs (cells' := 0) (slots' := 0) rfl rfl ?_
      obtain ⟨hv9, rfl, rfl⟩ := hp
      cases hv9
      refine hw_stk (st' := [.int (if inR w0 0 1000000000 = true then nI 1 else nI 0), .ref (mm)]) rfl ?_
      refine hw_ti (show _ = nI 0 from by rw [if_neg hw0]) ?_
      refine hw_if_eq (tgt := 29) hx hb d_Mo_weight_22 (by decide) (by decide) (fun _ => ?_) (fun c9 => absurd c9 (by decide))
      have e9 : aWgt wt k0 w0 = none := by unfold aWgt; rw [if_neg (by simp [hw0])]
      have e8 : nWgt wt k0 w0 = wt := by unfold nWgt; rw [if_neg (by simp [hw0])]
      refine lv_iconst (v := nI 1) hx hb d_Mo_weight_29 (by decide) ?_
      refine ob_put S hI hm.1 (fs' := [.int (nI 1), .ref (mc), .ref (ml), .ref (mg), .ref (mw), .ref (mr)]) (C := R_Mo) (T := F_Mo) (N := 6) (ref := "WallFractionsModel") rfl i_Mo t_Mo t_Mo_ok n_Mo 0 (by decide) rfl w_771 rfl rfl rfl (by simp only [List.length]; decide) rfl d_Mo_weight_30 (fun f161 H locs hI hO9 hf161 => ?_)
      have hm := hm.umm hf161 hO9
      have hF := hF.umm hf161
      have hn := (⟨_, _, hm, hc⟩ : Mn D L _ mm mc ml mg mw mr _ _ _ _ _)
      refine lv_aload_n hx hb d_Mo_weight_33 rfl (lv_at hl 0 rfl) ?_
      refine ob_get S hI hm.1 (C := R_Mo) (T := F_Mo) (N := 6) (ref := "WallFractionsModel") rfl i_Mo 0 (by decide) rfl w_771 rfl d_Mo_weight_34 ?_
      refine hw_if_le (tgt := 42) hx hb d_Mo_weight_37 (by decide) (by decide) (fun c9 => absurd c9 (by decide)) (fun _ => ?_)
      refine lv_iconst (v := nI 0) hx hb d_Mo_weight_40 (by decide) ?_
      exact hw_iret hx hb hr hlocks hI d_Mo_weight_41 ⟨by rw [e9]; rfl, rfl, by rw [e9, e8]; exact ⟨_, _, _, hn, hR⟩, hF⟩
  · refine hw_cS (As := [.long ((k0).toInt64), .long (lN 0), .long (lN 9)]) (rest := [.ref (mm)]) S hI m_Mo_in w_843 (c_Mo_in l D t0 L _ _ k0 0 9 (by omega) (by omega)) hl.1 rfl rfl (Nat.le_of_ble_eq_true rfl) d_Mo_weight_7 ⟨Nat.le_of_ble_eq_true rfl, Nat.le_of_ble_eq_true rfl⟩ ⟨Nat.le_of_ble_eq_true rfl, Nat.le_of_ble_eq_true rfl⟩ (fun v9 L9 f156 H locs hp hI => ?_)
    refine W.cs (cells' := 0) (slots' := 0) rfl rfl ?_
    obtain ⟨hv9, rfl, rfl⟩ := hp
    cases hv9
    refine hw_stk (st' := [.int (if inR k0 0 9 = true then nI 1 else nI 0), .ref (mm)]) rfl ?_
    refine hw_ti (show _ = nI 0 from by rw [if_neg hk0]) ?_
    refine hw_if_eq (tgt := 29) hx hb d_Mo_weight_10 (by decide) (by decide) (fun _ => ?_) (fun c9 => absurd c9 (by decide))
    have e9 : aWgt wt k0 w0 = none := by unfold aWgt; rw [if_neg (by simp [hk0])]
    have e8 : nWgt wt k0 w0 = wt := by unfold nWgt; rw [if_neg (by simp [hk0])]
    refine lv_iconst (v := nI 1) hx hb d_Mo_weight_29 (by decide) ?_
    refine ob_put S hI hm.1 (fs' := [.int (nI 1), .ref (mc), .ref (ml), .ref (mg), .ref (mw), .ref (mr)]) (C := R_Mo) (T := F_Mo) (N := 6) (ref := "WallFractionsModel") rfl i_Mo t_Mo t_Mo_ok n_Mo 0 (by decide) rfl w_771 rfl rfl rfl (by simp only [List.length]; decide) rfl d_Mo_weight_30 (fun f158 H locs hI hO9 hf158 => ?_)
    have hm := hm.umm hf158 hO9
    have hF := hF.umm hf158
    have hn := (⟨_, _, hm, hc⟩ : Mn D L _ mm mc ml mg mw mr _ _ _ _ _)
    refine lv_aload_n hx hb d_Mo_weight_33 rfl (lv_at hl 0 rfl) ?_
    refine ob_get S hI hm.1 (C := R_Mo) (T := F_Mo) (N := 6) (ref := "WallFractionsModel") rfl i_Mo 0 (by decide) rfl w_771 rfl d_Mo_weight_34 ?_
    refine hw_if_le (tgt := 42) hx hb d_Mo_weight_37 (by decide) (by decide) (fun c9 => absurd c9 (by decide)) (fun _ => ?_)
    refine lv_iconst (v := nI 0) hx hb d_Mo_weight_40 (by decide) ?_
    exact hw_iret hx hb hr hlocks hI d_Mo_weight_41 ⟨by rw [e9]; rfl, rfl, by rw [e9, e8]; exact ⟨_, _, _, hn, hR⟩, hF⟩
set_option maxHeartbeats 4000000 in
set_option maxRecDepth 100000 in
theorem c_Mo_thrown (l : Launch) (D : va_G) (t0 : Nat) (L : List Nat) (f : Nat → va_E) (sz : Nat) (mm mc ml mg mw mr : Nat) (th : Int32) (σ : Sg) (wt : Nat → Nat) (hM : Mg D L f mm mc ml mg mw mr th σ wt) : Met l y_Mo_thrown (Cond.code y_Mo_thrown b_Mo_thrown 1 (some .int) :: TT) ({ frames := 0, cells := 0, slots := 0, locals := 0 } : Room) (hw_Pc t0 [.ref (mm)] D L f sz) (hw_Q D L sz (fun oc L' f' => oc = .returned (some (.int th)) ∧ L = L' ∧ f = f')) 0 0 (hw_A L sz) := by
  refine Met.ofW (cc := b_Mo_thrown) (maxL := 1) (ret := (some .int)) (by decide) rfl ?_
  intro p e s m args below meth c s₁ B hml hv
  obtain ⟨rfl, rfl, hI⟩ := hw_start hv
  clear hv
  have hx := B.exec
  have hb := B.bytes
  have hr := B.returns
  have hlocks := B.notSynchronized
  have hown : s.vm.findClass "WallFractionsModel" = some m.cls := findClass_of_methodNamed B.named
  have hT : ∀ w ∈ TT, w.before ([.ref (mm)]).toArray s = true := fun w h => atoms_spec (ws := (Cond.code y_Mo_thrown b_Mo_thrown 1 (some .int) :: TT)) B.pre w (List.mem_cons_of_mem _ h)
  have S : CallFix p m c b_Mo_thrown 1 s ([.ref (mm)]).toArray TT "WallFractionsModel" := ⟨hx, hb, hml, hown, hT⟩
  have hl := lv_entry ([.ref (mm)]) (n := 1) (Nat.le_of_ble_eq_true rfl)
  rw [lg_entry_eq]
  generalize (lg_sl ([.ref (mm)]) ++ List.replicate (1 - (lg_sl ([.ref (mm)])).length) Slot.unset).toArray = ls at hl ⊢
  have hl : lv_has ls 1 [(0, .ref (mm))] := hl
  skip
  obtain ⟨y, sn, rr, hn, hR⟩ := hM
  have hF : Fo mm mc ml mg mw mr f f := Fo.refl
  obtain ⟨cs, ns, hm, hc⟩ := id hn
  refine lv_aload_n hx hb d_Mo_thrown_0 rfl (lv_at hl 0 rfl) ?_
  refine ob_get S hI hm.1 (C := R_Mo) (T := F_Mo) (N := 6) (ref := "WallFractionsModel") rfl i_Mo 0 (by decide) rfl w_771 rfl d_Mo_thrown_1 ?_
  exact hw_iret hx hb hr hlocks hI d_Mo_thrown_4 ⟨rfl, rfl, rfl⟩

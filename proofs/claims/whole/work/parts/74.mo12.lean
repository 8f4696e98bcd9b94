theorem sum_ge {g : Nat → Nat} {k n : Nat} (h : k < n) : g k ≤ sumN g n := by
  induction n with
  | zero => omega
  | succ n ih =>
    show g k ≤ sumN g n + g n
    rcases Nat.eq_or_lt_of_le (Nat.le_of_lt_succ h) with e | e
    · subst e; omega
    · have := ih e; omega
theorem prt_dl {u : Rg} (h : Okr u) {p : Int32} : dl (prt u p) ≤ 180 := dl_le (by rw [show (10 : Nat) ^ 180 = 10000 ^ 45 by decide +kernel]; exact prt_lt h) (by decide)
set_option maxHeartbeats 4000000 in
set_option maxRecDepth 100000 in
theorem c_Mo_digit (l : Launch) (D : va_G) (t0 : Nat) (L : List Nat) (f : Nat → va_E) (sz : Nat) (mm mc ml mg mw mr : Nat) (th : Int32) (σ : Sg) (wt : Nat → Nat) (a0 p0 k0 : Int32) (hM : Mg D L f mm mc ml mg mw mr th σ wt) (hok : Ok σ wt) : Met l y_Mo_digit (Cond.code y_Mo_digit b_Mo_digit 6 (some .int) :: TT) ({ frames := 2, cells := 0, slots := 0, locals := 45 } : Room) (hw_Pc t0 [.ref (mm), .int (a0), .int (p0), .int (k0)] D L f sz) (hw_Q D L sz (fun oc L' f' => oc = .returned (some (.int (aDgt σ a0 p0 k0).2)) ∧ L = L' ∧ Mg D L f' mm mc ml mg mw mr (nI (aDgt σ a0 p0 k0).1) σ wt ∧ Fo mm mc ml mg mw mr f f')) 0 0 (hw_A L sz) := by
  refine Met.ofW (cc := b_Mo_digit) (maxL := 6) (ret := (some .int)) (by decide) rfl ?_
  intro p e s m args below meth c s₁ B hml hv
  obtain ⟨rfl, rfl, hI⟩ := hw_start hv
  clear hv
  have hx := B.exec
  have hb := B.bytes
  have hr := B.returns
  have hlocks := B.notSynchronized
  have hown : s.vm.findClass "WallFractionsModel" = some m.cls := findClass_of_methodNamed B.named
  have hT : ∀ w ∈ TT, w.before ([.ref (mm), .int (a0), .int (p0), .int (k0)]).toArray s = true := fun w h => atoms_spec (ws := (Cond.code y_Mo_digit b_Mo_digit 6 (some .int) :: TT)) B.pre w (List.mem_cons_of_mem _ h)
  have S : CallFix p m c b_Mo_digit 6 s ([.ref (mm), .int (a0), .int (p0), .int (k0)]).toArray TT "WallFractionsModel" := ⟨hx, hb, hml, hown, hT⟩
  have hl := lv_entry ([.ref (mm), .int (a0), .int (p0), .int (k0)]) (n := 6) (Nat.le_of_ble_eq_true rfl)
  rw [lg_entry_eq]
  generalize (lg_sl ([.ref (mm), .int (a0), .int (p0), .int (k0)]) ++ List.replicate (6 - (lg_sl ([.ref (mm), .int (a0), .int (p0), .int (k0)])).length) Slot.unset).toArray = ls at hl ⊢
  have hl : lv_has ls 6 [(0, .ref (mm)), (1, .int (a0)), (2, .int (p0)), (3, .int (k0))] := hl
  skip
  obtain ⟨y, sn, rr, hn, hR⟩ := hM
  have hF : Fo mm mc ml mg mw mr f f := Fo.refl
  obtain ⟨cs, ns, hm, hc⟩ := id hn
  refine lv_aload_n hx hb d_Mo_digit_0 rfl (lv_at hl 0 rfl) ?_
  refine lv_iload_n hx hb d_Mo_digit_1 rfl (lv_at hl 1 rfl) ?_
  by_cases ha0 : vr a0 = true
  · refine hw_cS (As := [.int (a0)]) (rest := [.ref (mm)]) S hI m_Mo_isRegister w_799 (c_Mo_isRegister l D t0 L _ _ a0) hl.1 rfl rfl (Nat.le_of_ble_eq_true rfl) d_Mo_digit_2 ⟨Nat.le_of_ble_eq_true rfl, Nat.le_of_ble_eq_true rfl⟩ ⟨Nat.le_of_ble_eq_true rfl, Nat.le_of_ble_eq_true rfl⟩ (fun v9 L9 f102 H locs hp hI => ?_)
    refine W.cs (cells' := 0) (slots' := 0) rfl rfl ?_
    obtain ⟨hv9, rfl, rfl⟩ := hp
    cases hv9
    refine hw_stk (st' := [.int (if vr a0 = true then nI 1 else nI 0), .ref (mm)]) rfl ?_
    refine hw_ti (show _ = nI 1 from by rw [if_pos ha0]) ?_
    refine hw_if_eq (tgt := 18) hx hb d_Mo_digit_5 (by decide) (by decide) (fun c9 => absurd c9 (by decide)) (fun _ => ?_)
    refine lv_iload_n hx hb d_Mo_digit_8 rfl (lv_at hl 2 rfl) ?_
    refine lv_i2l hx hb d_Mo_digit_9 rfl ?_
    refine lv_lconst (v := lN 0) hx hb d_Mo_digit_10 rfl ?_
    refine lv_lconst (v := lN 1) hx hb d_Mo_digit_11 rfl ?_
    by_cases hp0 : inR p0 0 1 = true
    · refine hw_cS (As := [.long ((p0).toInt64), .long (lN 0), .long (lN 1)]) (rest := [.ref (mm)]) S hI m_Mo_in w_843 (c_Mo_in l D t0 L _ _ p0 0 1 (by omega) (by omega)) hl.1 rfl rfl (Nat.le_of_ble_eq_true rfl) d_Mo_digit_12 ⟨Nat.le_of_ble_eq_true rfl, Nat.le_of_ble_eq_true rfl⟩ ⟨Nat.le_of_ble_eq_true rfl, Nat.le_of_ble_eq_true rfl⟩ (fun v9 L9 f105 H locs hp hI => ?_)
      refine W.cs (cells' := 0) (slots' := 0) rfl rfl ?_
      obtain ⟨hv9, rfl, rfl⟩ := hp
      cases hv9
      refine hw_stk (st' := [.int (if inR p0 0 1 = true then nI 1 else nI 0), .ref (mm)]) rfl ?_
      refine hw_ti (show _ = nI 1 from by rw [if_pos hp0]) ?_
      refine hw_if_ne (tgt := 22) hx hb d_Mo_digit_15 (by decide) (by decide) (fun _ => ?_) (fun c9 => absurd c9 (by decide))
      have hv : (vr a0 && inR p0 0 1) = true := by simp [ha0, hp0]
      obtain ⟨a, ha9, rfl⟩ := vr_nat ha0
      obtain ⟨p1, _, hp9, rfl⟩ := inR_nat hp0 (by decide) (by decide)
      have oka := hok.1 a ha9
      have lta := oka.lt4
      obtain ⟨P, hP⟩ : ∃ z9, z9 = prt (σ a) (nI p1) := ⟨_, rfl⟩
      have hdl9 : dl P ≤ 180 := by rw [hP]; exact prt_dl oka
      have hdl1 : 1 ≤ dl P := (dl_spec P).1
      refine lv_iload_n hx hb d_Mo_digit_22 rfl (lv_at hl 3 rfl) ?_
      refine lv_i2l hx hb d_Mo_digit_23 rfl ?_
      refine lv_lconst (v := lN 0) hx hb d_Mo_digit_24 rfl ?_
      refine lv_aload_n hx hb d_Mo_digit_25 rfl (lv_at hl 0 rfl) ?_
      refine lv_bipush (v := nI 16) hx hb d_Mo_digit_26 (by decide) ?_
      refine lv_iload_n hx hb d_Mo_digit_28 rfl (lv_at hl 2 rfl) ?_
      refine lv_imul hx hb d_Mo_digit_29 ?_
      refine hw_ti (pk_mul _ _) ?_
      refine lv_iload_n hx hb d_Mo_digit_30 rfl (lv_at hl 1 rfl) ?_
      refine lv_iadd hx hb d_Mo_digit_31 ?_
      refine hw_ti (nI_add _ _) ?_
      refine hw_cV (As := [.int (nI ((16 * p1) + a))]) (rest := [.long (lN 0), .long ((k0).toInt64), .ref (mm)]) S hI m_Mo_digitsIn w_935 (c_Mo_digitsIn l D t0 L _ _ mm mc ml mg mw mr th y sn wt rr (16 * p1 + a) hn (by omega)) hm.1 rfl hl.1 rfl rfl (Nat.le_of_ble_eq_true rfl) d_Mo_digit_32 ⟨Nat.le_of_ble_eq_true rfl, Nat.le_of_ble_eq_true rfl⟩ ⟨Nat.le_of_ble_eq_true rfl, Nat.le_of_ble_eq_true rfl⟩ (fun v9 L9 f107 H locs hp hI => ?_)
      refine W.cs (cells' := 0) (slots' := 0) rfl rfl ?_
      obtain ⟨hv9, rfl, rfl⟩ := hp
      cases hv9
      refine hw_stk (st' := [.int (nI (dl (y (16 * p1 + a)))), .long (lN 0), .long ((k0).toInt64), .ref (mm)]) rfl ?_
      refine hw_ti (show _ = nI (dl P) from by rw [hR.pr9 ha9 hp9, hP]) ?_
      refine lv_i2l (v := lN (dl P)) hx hb d_Mo_digit_35 (nI_l (by omega)) ?_
      refine lv_lconst (v := lN 1) hx hb d_Mo_digit_36 rfl ?_
      refine lv_lsub hx hb d_Mo_digit_37 ?_
      refine hw_tl (lN_sub (by omega)) ?_
      by_cases hk0 : inR k0 0 (dl P - 1) = true
      · refine hw_cS (As := [.long ((k0).toInt64), .long (lN 0), .long (lN ((dl P) - 1))]) (rest := [.ref (mm)]) S hI m_Mo_in w_843 (c_Mo_in l D t0 L _ _ k0 0 (dl P - 1) (by omega) (by omega)) hl.1 rfl rfl (Nat.le_of_ble_eq_true rfl) d_Mo_digit_38 ⟨Nat.le_of_ble_eq_true rfl, Nat.le_of_ble_eq_true rfl⟩ ⟨Nat.le_of_ble_eq_true rfl, Nat.le_of_ble_eq_true rfl⟩ (fun v9 L9 f110 H locs hp hI => ?_)
        refine W.cs (cells' := 0) (slots' := 0) rfl rfl ?_
        obtain ⟨hv9, rfl, rfl⟩ := hp
        cases hv9
        refine hw_stk (st' := [.int (if inR k0 0 (dl P - 1) = true then nI 1 else nI 0), .ref (mm)]) rfl ?_
        refine hw_ti (show _ = nI 1 from by rw [if_pos hk0]) ?_
        refine hw_if_ne (tgt := 48) hx hb d_Mo_digit_41 (by decide) (by decide) (fun _ => ?_) (fun c9 => absurd c9 (by decide))
        refine lv_iconst (v := nI 0) hx hb d_Mo_digit_48 (by decide) ?_
        refine ob_put S hI hm.1 (fs' := [.int (nI 0), .ref (mc), .ref (ml), .ref (mg), .ref (mw), .ref (mr)]) (C := R_Mo) (T := F_Mo) (N := 6) (ref := "WallFractionsModel") rfl i_Mo t_Mo t_Mo_ok n_Mo 0 (by decide) rfl w_771 rfl rfl rfl (by simp only [List.length]; decide) rfl d_Mo_digit_49 (fun f111 H locs hI hO9 hf111 => ?_)
        have hm := hm.umm hf111 hO9
        have hF := hF.umm hf111
        have hn := (⟨_, _, hm, hc⟩ : Mn D L _ mm mc ml mg mw mr _ _ _ _ _)
        refine lv_aload_n hx hb d_Mo_digit_52 rfl (lv_at hl 0 rfl) ?_
        refine ob_get S hI hm.1 (C := R_Mo) (T := F_Mo) (N := 6) (ref := "WallFractionsModel") rfl i_Mo 0 (by decide) rfl w_771 rfl d_Mo_digit_53 ?_
        refine hw_if_le (tgt := 61) hx hb d_Mo_digit_56 (by decide) (by decide) (fun _ => ?_) (fun c9 => absurd c9 (by decide))
        obtain ⟨k, _, hk9, rfl⟩ := inR_nat hk0 (by decide) (by omega)
        have e9 : aDgt σ (nI a) (nI p1) (nI k) = (0, nI (P / 10 ^ k % 10)) := by unfold aDgt; rw [if_pos hv, ix_nI (by omega), ← hP, if_neg (fun h => h.elim (fun q => absurd (nI_pos' (by omega)) (Int32.not_le.mpr q)) (fun q => absurd ((nI_leI (by omega) (by omega)).mp q) (by omega))), nI_clamp (by omega)]
        refine lv_aload_n hx hb d_Mo_digit_61 rfl (lv_at hl 0 rfl) ?_
        refine lv_bipush (v := nI 16) hx hb d_Mo_digit_62 (by decide) ?_
        refine lv_iload_n hx hb d_Mo_digit_64 rfl (lv_at hl 2 rfl) ?_
        refine lv_imul hx hb d_Mo_digit_65 ?_
        refine hw_ti (pk_mul _ _) ?_
        refine lv_iload_n hx hb d_Mo_digit_66 rfl (lv_at hl 1 rfl) ?_
        refine lv_iadd hx hb d_Mo_digit_67 ?_
        refine hw_ti (nI_add _ _) ?_
        refine lv_iload_n hx hb d_Mo_digit_68 rfl (lv_at hl 3 rfl) ?_
        refine lv_iconst (v := nI 4) hx hb d_Mo_digit_69 (by decide) ?_
        refine lv_idiv hx hb d_Mo_digit_70 (by decide) ?_
        refine hw_ti (pk_div (by omega) (by omega) (by omega)) ?_
        refine hw_cV (As := [.int (nI ((16 * p1) + a)), .int (nI (k / 4))]) (rest := []) S hI m_Mo_cell w_822 (c_Mo_cell l D t0 L _ _ mm mc ml mg mw mr (nI 0) cs ns sn wt rr (16 * p1 + a) (k / 4) hm (by omega) (by omega) (hc.2 _ (by omega)).1) hm.1 rfl hl.1 rfl rfl (Nat.le_of_ble_eq_true rfl) d_Mo_digit_71 ⟨Nat.le_of_ble_eq_true rfl, Nat.le_of_ble_eq_true rfl⟩ ⟨Nat.le_of_ble_eq_true rfl, Nat.le_of_ble_eq_true rfl⟩ (fun v9 L9 f112 H locs hp hI => ?_)
        refine W.cs (cells' := 0) (slots' := 0) rfl rfl ?_
        obtain ⟨hv9, rfl, rfl⟩ := hp
        cases hv9
        refine hw_stk (st' := [.int (nI (pcl cs ns (16 * p1 + a) (k / 4)))]) rfl ?_
        obtain ⟨C, hC⟩ : ∃ z9, z9 = P / 10000 ^ (k / 4) % 10000 := ⟨_, rfl⟩
        have hCl : C < 10000 := by rw [hC]; exact Nat.mod_lt _ mpos
        refine hw_ti (show _ = nI C from by rw [pcl_num hc.1, (hc.2 _ (by omega)).2.2.2, hR.pr9 ha9 hp9, ← hP, ← hC]) ?_
        refine lv_istore (lv' := [(4, .int (nI C)), (0, .ref (mm)), (1, .int (nI a)), (2, .int (nI p1)), (3, .int (nI k))]) hx hb d_Mo_digit_74 hl (by decide) rfl (fun ls hl => ?_)
        refine lv_iconst (v := nI 0) hx hb d_Mo_digit_76 (by decide) ?_
        refine lv_istore (lv' := [(5, .int (nI 0)), (4, .int (nI C)), (0, .ref (mm)), (1, .int (nI a)), (2, .int (nI p1)), (3, .int (nI k))]) hx hb d_Mo_digit_77 hl (by decide) rfl (fun ls hl => ?_)
        have loop : ∀ (g t : Nat) (f1 : Nat → va_E) (H : Heap) (locs : List Loc) (ls : Array Slot), t + g = k % 4 → f111 = f1 → hw_I D t0 (hw_A L s.heap.size) s L f1 H locs → lv_has ls 6 [(5, .int (nI t)), (4, .int (nI (C / 10 ^ t))), (3, .int (nI k))] → W p l e (headSpec (Cond.code y_Mo_digit b_Mo_digit 6 (some .int) :: TT) ({ frames := 2, cells := 0, slots := 0, locals := 45 } : Room)).room s m ([.ref (mm), .int ((nI a)), .int ((nI p1)), .int ((nI k))]).toArray below meth c H locs 0 0 (MQ below (hw_Q D L s.heap.size (fun oc L' f' => oc = .returned (some (.int (aDgt σ (nI a) (nI p1) (nI k)).2)) ∧ L = L' ∧ Mg D L f' mm mc ml mg mw mr (nI (aDgt σ (nI a) (nI p1) (nI k)).1) σ wt ∧ Fo mm mc ml mg mw mr f f')) ([.ref (mm), .int ((nI a)), .int ((nI p1)), .int ((nI k))]).toArray s 0 0 (hw_A L s.heap.size)) (F0 m 79 ls []) := by
          intro g
          induction g with
          | zero =>
            intro t f9 H locs ls htg hf hI hl
            subst hf
            have hCt := Nat.div_le_self C (10 ^ t)
            refine lv_iload hx hb d_Mo_digit_79 (lv_at hl 0 rfl) ?_
            refine lv_iload_n hx hb d_Mo_digit_81 rfl (lv_at hl 2 rfl) ?_
            refine lv_iconst (v := nI 4) hx hb d_Mo_digit_82 (by decide) ?_
            refine lv_irem hx hb d_Mo_digit_83 (by decide) ?_
            refine hw_ti (pk_rem (by omega) (by omega) (by omega)) ?_
            refine hw_icmp_ge (tgt := 100) hx hb d_Mo_digit_84 (by decide) (by omega) (by omega) (fun _ => ?_) (fun c9 => absurd c9 (by omega))
            have ht : t = k % 4 := by omega
            refine lv_iload hx hb d_Mo_digit_100 (lv_at hl 1 rfl) ?_
            refine lv_bipush (v := nI 10) hx hb d_Mo_digit_102 (by decide) ?_
            refine lv_irem hx hb d_Mo_digit_104 (by decide) ?_
            refine hw_ti (pk_rem (by omega) (by omega) (by omega)) ?_
            exact hw_iret hx hb hr hlocks hI d_Mo_digit_105 ⟨by rw [e9]; show _ = Outcome.returned (some (Value.int (nI (P / 10 ^ k % 10)))); rw [ht, hC, dg4], rfl, by rw [e9]; exact ⟨_, _, _, hn, hR⟩, hF⟩
          | succ g ih =>
            intro t f9 H locs ls htg hf hI hl
            subst hf
            have hCt := Nat.div_le_self C (10 ^ t)
            refine lv_iload hx hb d_Mo_digit_79 (lv_at hl 0 rfl) ?_
            refine lv_iload_n hx hb d_Mo_digit_81 rfl (lv_at hl 2 rfl) ?_
            refine lv_iconst (v := nI 4) hx hb d_Mo_digit_82 (by decide) ?_
            refine lv_irem hx hb d_Mo_digit_83 (by decide) ?_
            refine hw_ti (pk_rem (by omega) (by omega) (by omega)) ?_
            refine hw_icmp_ge (tgt := 100) hx hb d_Mo_digit_84 (by decide) (by omega) (by omega) (fun c9 => absurd c9 (by omega)) (fun _ => ?_)
            refine lv_iload hx hb d_Mo_digit_87 (lv_at hl 1 rfl) ?_
            refine lv_bipush (v := nI 10) hx hb d_Mo_digit_89 (by decide) ?_
            refine lv_idiv hx hb d_Mo_digit_91 (by decide) ?_
            refine hw_ti (pk_div (by omega) (by omega) (by omega)) ?_
            refine hw_ti (show _ = nI (C / 10 ^ (t + 1)) from by rw [Nat.div_div_eq_div_mul, ← Nat.pow_succ]) ?_
            refine lv_istore (lv' := [(4, .int (nI (C / 10 ^ (t + 1)))), (5, .int (nI t)), (3, .int (nI k))]) hx hb d_Mo_digit_92 hl (by decide) rfl (fun ls hl => ?_)
            refine lv_iinc (v := nI (t + 1)) (lv' := [(5, .int (nI (t + 1))), (4, .int (nI (C / 10 ^ (t + 1)))), (3, .int (nI k))]) hx hb d_Mo_digit_94 hl (k := 1) rfl (nI_1 _) (by decide) rfl (fun ls hl => ?_)
            refine lv_goto (tgt := 79) hx hb d_Mo_digit_97 (by decide) ?_
            exact ih (t + 1) _ _ _ _ (by omega) rfl hI hl
        rw [show nI C = nI (C / 10 ^ 0) by rw [Nat.pow_zero, Nat.div_one]] at hl
        exact loop (k % 4) 0 _ _ _ _ (by omega) rfl hI (lv_sub hl [0, 1, 5] rfl)
      · refine hw_cS (As := [.long ((k0).toInt64), .long (lN 0), .long (lN ((dl P) - 1))]) (rest := [.ref (mm)]) S hI m_Mo_in w_843 (c_Mo_in l D t0 L _ _ k0 0 (dl P - 1) (by omega) (by omega)) hl.1 rfl rfl (Nat.le_of_ble_eq_true rfl) d_Mo_digit_38 ⟨Nat.le_of_ble_eq_true rfl, Nat.le_of_ble_eq_true rfl⟩ ⟨Nat.le_of_ble_eq_true rfl, Nat.le_of_ble_eq_true rfl⟩ (fun v9 L9 f108 H locs hp hI => ?_)
        refine W.cs (cells' := 0) (slots' := 0) rfl rfl ?_
        obtain ⟨hv9, rfl, rfl⟩ := hp
        cases hv9
        refine hw_stk (st' := [.int (if inR k0 0 (dl P - 1) = true then nI 1 else nI 0), .ref (mm)]) rfl ?_
        refine hw_ti (show _ = nI 0 from by rw [if_neg hk0]) ?_
        refine hw_if_ne (tgt := 48) hx hb d_Mo_digit_41 (by decide) (by decide) (fun c9 => absurd c9 (by decide)) (fun _ => ?_)
        have hkb : k0 < 0 ∨ nI (dl (prt (σ a) (nI p1))) ≤ k0 := by rw [← hP, Int32.lt_iff_toInt_lt, Int32.le_iff_toInt_le, nI_toInt (by omega)]; have h5 : (0 : Int32).toInt = 0 := rfl; rw [inR_iff (by decide) (by omega)] at hk0; omega
        have e9 : aDgt σ (nI a) (nI p1) k0 = (2, 0) := by unfold aDgt; rw [if_pos hv, ix_nI (by omega), if_pos hkb]
        refine lv_iconst (v := nI 2) hx hb d_Mo_digit_44 (by decide) ?_
        refine lv_goto (tgt := 49) hx hb d_Mo_digit_45 (by decide) ?_
        refine ob_put S hI hm.1 (fs' := [.int (nI 2), .ref (mc), .ref (ml), .ref (mg), .ref (mw), .ref (mr)]) (C := R_Mo) (T := F_Mo) (N := 6) (ref := "WallFractionsModel") rfl i_Mo t_Mo t_Mo_ok n_Mo 0 (by decide) rfl w_771 rfl rfl rfl (by simp only [List.length]; decide) rfl d_Mo_digit_49 (fun f109 H locs hI hO9 hf109 => ?_)
        have hm := hm.umm hf109 hO9
        have hF := hF.umm hf109
        have hn := (⟨_, _, hm, hc⟩ : Mn D L _ mm mc ml mg mw mr _ _ _ _ _)
        refine lv_aload_n hx hb d_Mo_digit_52 rfl (lv_at hl 0 rfl) ?_
        refine ob_get S hI hm.1 (C := R_Mo) (T := F_Mo) (N := 6) (ref := "WallFractionsModel") rfl i_Mo 0 (by decide) rfl w_771 rfl d_Mo_digit_53 ?_
        refine hw_if_le (tgt := 61) hx hb d_Mo_digit_56 (by decide) (by decide) (fun c9 => absurd c9 (by decide)) (fun _ => ?_)
        refine lv_iconst (v := nI 0) hx hb d_Mo_digit_59 (by decide) ?_
        exact hw_iret hx hb hr hlocks hI d_Mo_digit_60 ⟨by rw [e9]; rfl, rfl, by rw [e9]; exact ⟨_, _, _, hn, hR⟩, hF⟩
    · refine hw_cS (As := [.long ((p0).toInt64), .long (lN 0), .long (lN 1)]) (rest := [.ref (mm)]) S hI m_Mo_in w_843 (c_Mo_in l D t0 L _ _ p0 0 1 (by omega) (by omega)) hl.1 rfl rfl (Nat.le_of_ble_eq_true rfl) d_Mo_digit_12 ⟨Nat.le_of_ble_eq_true rfl, Nat.le_of_ble_eq_true rfl⟩ ⟨Nat.le_of_ble_eq_true rfl, Nat.le_of_ble_eq_true rfl⟩ (fun v9 L9 f104 H locs hp hI => ?_)
      refine W.cs (cells' := 0) (slots' := 0) rfl rfl ?_
      obtain ⟨hv9, rfl, rfl⟩ := hp
      cases hv9
      refine hw_stk (st' := [.int (if inR p0 0 1 = true then nI 1 else nI 0), .ref (mm)]) rfl ?_
      refine hw_ti (show _ = nI 0 from by rw [if_neg hp0]) ?_
      refine hw_if_ne (tgt := 22) hx hb d_Mo_digit_15 (by decide) (by decide) (fun c9 => absurd c9 (by decide)) (fun _ => ?_)
      have e9 : aDgt σ a0 p0 k0 = (1, 0) := by unfold aDgt; rw [if_neg (by simp [hp0])]
      refine lv_iconst (v := nI 1) hx hb d_Mo_digit_18 (by decide) ?_
      refine lv_goto (tgt := 49) hx hb d_Mo_digit_19 (by decide) ?_
      refine ob_put S hI hm.1 (fs' := [.int (nI 1), .ref (mc), .ref (ml), .ref (mg), .ref (mw), .ref (mr)]) (C := R_Mo) (T := F_Mo) (N := 6) (ref := "WallFractionsModel") rfl i_Mo t_Mo t_Mo_ok n_Mo 0 (by decide) rfl w_771 rfl rfl rfl (by simp only [List.length]; decide) rfl d_Mo_digit_49 (fun f106 H locs hI hO9 hf106 => ?_)
      have hm := hm.umm hf106 hO9
      have hF := hF.umm hf106
      have hn := (⟨_, _, hm, hc⟩ : Mn D L _ mm mc ml mg mw mr _ _ _ _ _)
      refine lv_aload_n hx hb d_Mo_digit_52 rfl (lv_at hl 0 rfl) ?_
      refine ob_get S hI hm.1 (C := R_Mo) (T := F_Mo) (N := 6) (ref := "WallFractionsModel") rfl i_Mo 0 (by decide) rfl w_771 rfl d_Mo_digit_53 ?_
      refine hw_if_le (tgt := 61) hx hb d_Mo_digit_56 (by decide) (by decide) (fun c9 => absurd c9 (by decide)) (fun _ => ?_)
      refine lv_iconst (v := nI 0) hx hb d_Mo_digit_59 (by decide) ?_
      exact hw_iret hx hb hr hlocks hI d_Mo_digit_60 ⟨by rw [e9]; rfl, rfl, by rw [e9]; exact ⟨_, _, _, hn, hR⟩, hF⟩
  · refine hw_cS (As := [.int (a0)]) (rest := [.ref (mm)]) S hI m_Mo_isRegister w_799 (c_Mo_isRegister l D t0 L _ _ a0) hl.1 rfl rfl (Nat.le_of_ble_eq_true rfl) d_Mo_digit_2 ⟨Nat.le_of_ble_eq_true rfl, Nat.le_of_ble_eq_true rfl⟩ ⟨Nat.le_of_ble_eq_true rfl, Nat.le_of_ble_eq_true rfl⟩ (fun v9 L9 f101 H locs hp hI => ?_)
    refine W.cs (cells' := 0) (slots' := 0) rfl rfl ?_
    obtain ⟨hv9, rfl, rfl⟩ := hp
    cases hv9
    refine hw_stk (st' := [.int (if vr a0 = true then nI 1 else nI 0), .ref (mm)]) rfl ?_
    refine hw_ti (show _ = nI 0 from by rw [if_neg ha0]) ?_
    refine hw_if_eq (tgt := 18) hx hb d_Mo_digit_5 (by decide) (by decide) (fun _ => ?_) (fun c9 => absurd c9 (by decide))
    have e9 : aDgt σ a0 p0 k0 = (1, 0) := by unfold aDgt; rw [if_neg (by simp [ha0])]
    refine lv_iconst (v := nI 1) hx hb d_Mo_digit_18 (by decide) ?_
    refine lv_goto (tgt := 49) hx hb d_Mo_digit_19 (by decide) ?_
    refine ob_put S hI hm.1 (fs' := [.int (nI 1), .ref (mc), .ref (ml), .ref (mg), .ref (mw), .ref (mr)]) (C := R_Mo) (T := F_Mo) (N := 6) (ref := "WallFractionsModel") rfl i_Mo t_Mo t_Mo_ok n_Mo 0 (by decide) rfl w_771 rfl rfl rfl (by simp only [List.length]; decide) rfl d_Mo_digit_49 (fun f103 H locs hI hO9 hf103 => ?_)
    have hm := hm.umm hf103 hO9
    have hF := hF.umm hf103
    have hn := (⟨_, _, hm, hc⟩ : Mn D L _ mm mc ml mg mw mr _ _ _ _ _)
    refine lv_aload_n hx hb d_Mo_digit_52 rfl (lv_at hl 0 rfl) ?_
    refine ob_get S hI hm.1 (C := R_Mo) (T := F_Mo) (N := 6) (ref := "WallFractionsModel") rfl i_Mo 0 (by decide) rfl w_771 rfl d_Mo_digit_53 ?_
    refine hw_if_le (tgt := 61) hx hb d_Mo_digit_56 (by decide) (by decide) (fun c9 => absurd c9 (by decide)) (fun _ => ?_)
    refine lv_iconst (v := nI 0) hx hb d_Mo_digit_59 (by decide) ?_
    exact hw_iret hx hb hr hlocks hI d_Mo_digit_60 ⟨by rw [e9]; rfl, rfl, by rw [e9]; exact ⟨_, _, _, hn, hR⟩, hF⟩
set_option maxHeartbeats 4000000 in
set_option maxRecDepth 100000 in
theorem c_Mo_share (l : Launch) (D : va_G) (t0 : Nat) (L : List Nat) (f : Nat → va_E) (sz : Nat) (mm mc ml mg mw mr : Nat) (th : Int32) (σ : Sg) (wt : Nat → Nat) (r0 a0 k0 : Int32) (hM : Mg D L f mm mc ml mg mw mr th σ wt) (hok : Ok σ wt) : Met l y_Mo_share (Cond.code y_Mo_share b_Mo_share 9 none :: TT) ({ frames := 5, cells := 0, slots := 0, locals := 131 } : Room) (hw_Pc t0 [.ref (mm), .int (r0), .int (a0), .int (k0)] D L f sz) (hw_Q D L sz (fun oc L' f' => oc = .returned none ∧ L = L' ∧ Mg D L f' mm mc ml mg mw mr (nI (opShr σ wt r0 a0 k0).1) (opShr σ wt r0 a0 k0).2 wt ∧ Fo mm mc ml mg mw mr f f')) 0 0 (hw_A L sz) := by
  refine Met.ofW (cc := b_Mo_share) (maxL := 9) (ret := none) (by decide) rfl ?_
  intro p e s m args below meth c s₁ B hml hv
  obtain ⟨rfl, rfl, hI⟩ := hw_start hv
  clear hv
  have hx := B.exec
  have hb := B.bytes
  have hr := B.returns
  have hlocks := B.notSynchronized
  have hown : s.vm.findClass "WallFractionsModel" = some m.cls := findClass_of_methodNamed B.named
  have hT : ∀ w ∈ TT, w.before ([.ref (mm), .int (r0), .int (a0), .int (k0)]).toArray s = true := fun w h => atoms_spec (ws := (Cond.code y_Mo_share b_Mo_share 9 none :: TT)) B.pre w (List.mem_cons_of_mem _ h)
  have S : CallFix p m c b_Mo_share 9 s ([.ref (mm), .int (r0), .int (a0), .int (k0)]).toArray TT "WallFractionsModel" := ⟨hx, hb, hml, hown, hT⟩
  have hl := lv_entry ([.ref (mm), .int (r0), .int (a0), .int (k0)]) (n := 9) (Nat.le_of_ble_eq_true rfl)
  rw [lg_entry_eq]
  generalize (lg_sl ([.ref (mm), .int (r0), .int (a0), .int (k0)]) ++ List.replicate (9 - (lg_sl ([.ref (mm), .int (r0), .int (a0), .int (k0)])).length) Slot.unset).toArray = ls at hl ⊢
  have hl : lv_has ls 9 [(0, .ref (mm)), (1, .int (r0)), (2, .int (a0)), (3, .int (k0))] := hl
  skip
  obtain ⟨y, sn, rr, hn, hR⟩ := hM
  have hF : Fo mm mc ml mg mw mr f f := Fo.refl
  obtain ⟨cs, ns, hm, hc⟩ := id hn
  have loop : ∀ (g t : Nat) (f1 : Nat → va_E) (H : Heap) (locs : List Loc) (ls : Array Slot), t + g = 10 → f = f1 → hw_I D t0 (hw_A L s.heap.size) s L f1 H locs → lv_has ls 9 [(6, .int (nI t)), (4, .long (lN (sumN wt t))), (3, .int (k0)), (2, .int (a0)), (1, .int (r0)), (0, .ref (mm))] → W p l e (headSpec (Cond.code y_Mo_share b_Mo_share 9 none :: TT) ({ frames := 5, cells := 0, slots := 0, locals := 131 } : Room)).room s m ([.ref (mm), .int (r0), .int (a0), .int (k0)]).toArray below meth c H locs 0 0 (MQ below (hw_Q D L s.heap.size (fun oc L' f' => oc = .returned none ∧ L = L' ∧ Mg D L f' mm mc ml mg mw mr (nI (opShr σ wt r0 a0 k0).1) (opShr σ wt r0 a0 k0).2 wt ∧ Fo mm mc ml mg mw mr f f')) ([.ref (mm), .int (r0), .int (a0), .int (k0)]).toArray s 0 0 (hw_A L s.heap.size)) (F0 m 6 ls []) := by
    intro g
    induction g with
    | zero =>
      intro t f9 H locs ls htg hf hI hl
      subst hf
      refine lv_iload hx hb d_Mo_share_6 (lv_at hl 0 rfl) ?_
      refine lv_bipush (v := nI 10) hx hb d_Mo_share_8 (by decide) ?_
      refine hw_icmp_ge (tgt := 32) hx hb d_Mo_share_10 (by decide) (by omega) (by omega) (fun _ => ?_) (fun c9 => absurd c9 (by omega))
      obtain rfl : t = 10 := by omega
      obtain ⟨S9, hS9⟩ : ∃ z9, z9 = sumN wt 10 := ⟨_, rfl⟩
      rw [← hS9] at hl
      have hSl : S9 ≤ 10 * 1000000000 := by rw [hS9]; exact sumN_le hok.2
      refine lv_aload_n hx hb d_Mo_share_32 rfl (lv_at hl 5 rfl) ?_
      refine lv_iload_n hx hb d_Mo_share_33 rfl (lv_at hl 4 rfl) ?_
      by_cases hr0 : vr r0 = true
      · refine hw_cS (As := [.int (r0)]) (rest := [.ref (mm)]) S hI m_Mo_isRegister w_799 (c_Mo_isRegister l D t0 L _ _ r0) hl.1 rfl rfl (Nat.le_of_ble_eq_true rfl) d_Mo_share_34 ⟨Nat.le_of_ble_eq_true rfl, Nat.le_of_ble_eq_true rfl⟩ ⟨Nat.le_of_ble_eq_true rfl, Nat.le_of_ble_eq_true rfl⟩ (fun v9 L9 f114 H locs hp hI => ?_)
        refine W.cs (cells' := 0) (slots' := 0) rfl rfl ?_
        obtain ⟨hv9, rfl, rfl⟩ := hp
        cases hv9
        refine hw_stk (st' := [.int (if vr r0 = true then nI 1 else nI 0), .ref (mm)]) rfl ?_
        refine hw_ti (show _ = nI 1 from by rw [if_pos hr0]) ?_
        refine hw_if_eq (tgt := 59) hx hb d_Mo_share_37 (by decide) (by decide) (fun c9 => absurd c9 (by decide)) (fun _ => ?_)
        refine lv_iload_n hx hb d_Mo_share_40 rfl (lv_at hl 3 rfl) ?_
        by_cases ha0 : vr a0 = true
        · refine hw_cS (As := [.int (a0)]) (rest := [.ref (mm)]) S hI m_Mo_isRegister w_799 (c_Mo_isRegister l D t0 L _ _ a0) hl.1 rfl rfl (Nat.le_of_ble_eq_true rfl) d_Mo_share_41 ⟨Nat.le_of_ble_eq_true rfl, Nat.le_of_ble_eq_true rfl⟩ ⟨Nat.le_of_ble_eq_true rfl, Nat.le_of_ble_eq_true rfl⟩ (fun v9 L9 f117 H locs hp hI => ?_)
          refine W.cs (cells' := 0) (slots' := 0) rfl rfl ?_
          obtain ⟨hv9, rfl, rfl⟩ := hp
          cases hv9
          refine hw_stk (st' := [.int (if vr a0 = true then nI 1 else nI 0), .ref (mm)]) rfl ?_
          refine hw_ti (show _ = nI 1 from by rw [if_pos ha0]) ?_
          refine hw_if_eq (tgt := 59) hx hb d_Mo_share_44 (by decide) (by decide) (fun c9 => absurd c9 (by decide)) (fun _ => ?_)
          refine lv_iload_n hx hb d_Mo_share_47 rfl (lv_at hl 2 rfl) ?_
          refine lv_i2l hx hb d_Mo_share_48 rfl ?_
          refine lv_lconst (v := lN 0) hx hb d_Mo_share_49 rfl ?_
          refine hw_ldc2 (v := lN 9) hx hb hown (hT _ w_968) d_Mo_share_50 ?_
          by_cases hk0 : inR k0 0 9 = true
          · refine hw_cS (As := [.long ((k0).toInt64), .long (lN 0), .long (lN 9)]) (rest := [.ref (mm)]) S hI m_Mo_in w_843 (c_Mo_in l D t0 L _ _ k0 0 9 (by omega) (by omega)) hl.1 rfl rfl (Nat.le_of_ble_eq_true rfl) d_Mo_share_53 ⟨Nat.le_of_ble_eq_true rfl, Nat.le_of_ble_eq_true rfl⟩ ⟨Nat.le_of_ble_eq_true rfl, Nat.le_of_ble_eq_true rfl⟩ (fun v9 L9 f120 H locs hp hI => ?_)
            refine W.cs (cells' := 0) (slots' := 0) rfl rfl ?_
            obtain ⟨hv9, rfl, rfl⟩ := hp
            cases hv9
            refine hw_stk (st' := [.int (if inR k0 0 9 = true then nI 1 else nI 0), .ref (mm)]) rfl ?_
            refine hw_ti (show _ = nI 1 from by rw [if_pos hk0]) ?_
            refine hw_if_ne (tgt := 63) hx hb d_Mo_share_56 (by decide) (by decide) (fun _ => ?_) (fun c9 => absurd c9 (by decide))
            have hv : (vr r0 && vr a0 && inR k0 0 9) = true := by simp [hr0, ha0, hk0]
            obtain ⟨r, hr9, rfl⟩ := vr_nat hr0
            obtain ⟨a, ha9, rfl⟩ := vr_nat ha0
            obtain ⟨k, _, hk9, rfl⟩ := inR_nat hk0 (by decide) (by decide)
            have oka := hok.1 a ha9
            have lta := oka.lt4
            have hng := sgI_neg oka.2.2.2.2
            refine lv_lload hx hb d_Mo_share_63 (lv_at hl 1 rfl) ?_
            refine lv_lconst (v := lN 0) hx hb d_Mo_share_65 rfl ?_
            by_cases hS0 : S9 = 0
            · refine hw_l_ne (tgt := 74) hx hb d_Mo_share_66 d_Mo_share_67 (by decide) (fun c9 => absurd (by rw [hS0]) c9) (fun _ => ?_)
              have e9 : opShr σ wt (nI r) (nI a) (nI k) = (2, σ) := by unfold opShr; rw [if_pos hv, if_pos (by rw [← hS9]; exact hS0)]
              refine lv_iconst (v := nI 2) hx hb d_Mo_share_70 (by decide) ?_
              refine lv_goto (tgt := 96) hx hb d_Mo_share_71 (by decide) ?_
              refine ob_put S hI hm.1 (fs' := [.int (nI 2), .ref (mc), .ref (ml), .ref (mg), .ref (mw), .ref (mr)]) (C := R_Mo) (T := F_Mo) (N := 6) (ref := "WallFractionsModel") rfl i_Mo t_Mo t_Mo_ok n_Mo 0 (by decide) rfl w_771 rfl rfl rfl (by simp only [List.length]; decide) rfl d_Mo_share_96 (fun f122 H locs hI hO9 hf122 => ?_)
              have hm := hm.umm hf122 hO9
              have hF := hF.umm hf122
              have hn := (⟨_, _, hm, hc⟩ : Mn D L _ mm mc ml mg mw mr _ _ _ _ _)
              refine lv_aload_n hx hb d_Mo_share_99 rfl (lv_at hl 5 rfl) ?_
              refine ob_get S hI hm.1 (C := R_Mo) (T := F_Mo) (N := 6) (ref := "WallFractionsModel") rfl i_Mo 0 (by decide) rfl w_771 rfl d_Mo_share_100 ?_
              refine hw_if_le (tgt := 107) hx hb d_Mo_share_103 (by decide) (by decide) (fun c9 => absurd c9 (by decide)) (fun _ => ?_)
              exact hw_vret hx hb hr hlocks hI d_Mo_share_106 ⟨rfl, rfl, by rw [e9]; exact ⟨_, _, _, hn, hR⟩, hF⟩
            · refine hw_l_ne (tgt := 74) hx hb d_Mo_share_66 d_Mo_share_67 (by decide) (fun _ => ?_) (fun c9 => absurd c9 (fun h9 => hS0 ((pk_lEQ (by omega) (by decide)).mp h9)))
              refine lv_aload_n hx hb d_Mo_share_74 rfl (lv_at hl 5 rfl) ?_
              refine ob_get S hI hm.1 (C := R_Mo) (T := F_Mo) (N := 6) (ref := "WallFractionsModel") rfl i_Mo 3 (by decide) rfl w_774 rfl d_Mo_share_75 ?_
              refine lv_iload_n hx hb d_Mo_share_78 rfl (lv_at hl 3 rfl) ?_
              refine ia_ldR S hI hm.2.2.2.1 (by decide) (by omega) d_Mo_share_79 ?_
              refine hw_ti (show _ = sgI (σ a) from (hR a ha9).2.2) ?_
              refine lv_if_lt (tgt := 91) hx hb d_Mo_share_80 (by decide) (fun c123 => ?_) (fun c123 => ?_)
              · have hs9 := hng.mp c123
                have e9 : opShr σ wt (nI r) (nI a) (nI k) = (3, σ) := by unfold opShr; rw [if_pos hv, if_neg (by rw [← hS9]; exact hS0), if_neg (by rw [ix_nI (by omega)]; exact fun h => absurd h.2 (by rw [hs9]; decide))]
                refine lv_iconst (v := nI 3) hx hb d_Mo_share_91 (by decide) ?_
                refine lv_goto (tgt := 96) hx hb d_Mo_share_92 (by decide) ?_
                refine ob_put S hI hm.1 (fs' := [.int (nI 3), .ref (mc), .ref (ml), .ref (mg), .ref (mw), .ref (mr)]) (C := R_Mo) (T := F_Mo) (N := 6) (ref := "WallFractionsModel") rfl i_Mo t_Mo t_Mo_ok n_Mo 0 (by decide) rfl w_771 rfl rfl rfl (by simp only [List.length]; decide) rfl d_Mo_share_96 (fun f124 H locs hI hO9 hf124 => ?_)
                have hm := hm.umm hf124 hO9
                have hF := hF.umm hf124
                have hn := (⟨_, _, hm, hc⟩ : Mn D L _ mm mc ml mg mw mr _ _ _ _ _)
                refine lv_aload_n hx hb d_Mo_share_99 rfl (lv_at hl 5 rfl) ?_
                refine ob_get S hI hm.1 (C := R_Mo) (T := F_Mo) (N := 6) (ref := "WallFractionsModel") rfl i_Mo 0 (by decide) rfl w_771 rfl d_Mo_share_100 ?_
                refine hw_if_le (tgt := 107) hx hb d_Mo_share_103 (by decide) (by decide) (fun c9 => absurd c9 (by decide)) (fun _ => ?_)
                exact hw_vret hx hb hr hlocks hI d_Mo_share_106 ⟨rfl, rfl, by rw [e9]; exact ⟨_, _, _, hn, hR⟩, hF⟩
              · have hs9 : (σ a).2.2 = false := by cases e9 : (σ a).2.2; rfl; exact absurd (hng.mpr e9) c123
                refine lv_aload_n hx hb d_Mo_share_83 rfl (lv_at hl 5 rfl) ?_
                refine lv_iload_n hx hb d_Mo_share_84 rfl (lv_at hl 3 rfl) ?_
                refine hw_cV (As := [.int (nI a)]) (rest := [.ref (mm)]) S hI m_Mo_isWhole w_846 (c_Mo_isWhole l D t0 L _ _ mm mc ml mg mw mr th y sn wt rr a hn ha9) hm.1 rfl hl.1 rfl rfl (Nat.le_of_ble_eq_true rfl) d_Mo_share_85 ⟨Nat.le_of_ble_eq_true rfl, Nat.le_of_ble_eq_true rfl⟩ ⟨Nat.le_of_ble_eq_true rfl, Nat.le_of_ble_eq_true rfl⟩ (fun v9 L9 f125 H locs hp hI => ?_)
                refine W.cs (cells' := 0) (slots' := 0) rfl rfl ?_
                obtain ⟨hv9, rfl, rfl⟩ := hp
                cases hv9
                refine hw_stk (st' := [.int (if y (16 + a) = 1 then nI 1 else nI 0), .ref (mm)]) rfl ?_
                by_cases hw : (σ a).2.1 = 1
                · refine hw_ti (show _ = nI 1 from by rw [(hR a ha9).2.1, if_pos hw]) ?_
                  refine hw_if_ne (tgt := 95) hx hb d_Mo_share_88 (by decide) (by decide) (fun _ => ?_) (fun c9 => absurd c9 (by decide))
                  refine lv_iconst (v := nI 0) hx hb d_Mo_share_95 (by decide) ?_
                  refine ob_put S hI hm.1 (fs' := [.int (nI 0), .ref (mc), .ref (ml), .ref (mg), .ref (mw), .ref (mr)]) (C := R_Mo) (T := F_Mo) (N := 6) (ref := "WallFractionsModel") rfl i_Mo t_Mo t_Mo_ok n_Mo 0 (by decide) rfl w_771 rfl rfl rfl (by simp only [List.length]; decide) rfl d_Mo_share_96 (fun f127 H locs hI hO9 hf127 => ?_)
                  have hm := hm.umm hf127 hO9
                  have hF := hF.umm hf127
                  have hn := (⟨_, _, hm, hc⟩ : Mn D L _ mm mc ml mg mw mr _ _ _ _ _)
                  refine lv_aload_n hx hb d_Mo_share_99 rfl (lv_at hl 5 rfl) ?_
                  refine ob_get S hI hm.1 (C := R_Mo) (T := F_Mo) (N := 6) (ref := "WallFractionsModel") rfl i_Mo 0 (by decide) rfl w_771 rfl d_Mo_share_100 ?_
                  refine hw_if_le (tgt := 107) hx hb d_Mo_share_103 (by decide) (by decide) (fun _ => ?_) (fun c9 => absurd c9 (by decide))
                  obtain ⟨N, hN⟩ : ∃ z9, z9 = (σ a).1 := ⟨_, rfl⟩
                  have hNl : N < 10000 ^ 45 := by rw [hN]; exact lta.1
                  have hSp : 0 < S9 := Nat.pos_of_ne_zero hS0
                  obtain ⟨sl1, sl2, sl3⟩ := shr_left (N := N) (wt := wt) (by rw [← hS9]; exact hSp)
                  rw [← hS9] at sl1 sl2 sl3
                  have hRb : sumN (shR N wt) 10 ≤ 10 * (S9 - 1) := sumN_le (fun q _ => by unfold shR; rw [← hS9]; have := Nat.mod_lt (N * wt q) hSp; omega)
                  refine lv_aload_n hx hb d_Mo_share_107 rfl (lv_at hl 5 rfl) ?_
                  refine lv_bipush (v := nI 33) hx hb d_Mo_share_108 (by decide) ?_
                  refine lv_lconst (v := lN 0) hx hb d_Mo_share_110 rfl ?_
                  refine hw_cV (As := [.int (nI 33), .long (lN 0)]) (rest := []) S hI m_Mo_setLong w_766 (c_Mo_setLong l D t0 L _ _ mm mc ml mg mw mr (nI 0) y sn wt rr 33 0 hn (by decide) (by decide)) hm.1 rfl hl.1 rfl rfl (Nat.le_of_ble_eq_true rfl) d_Mo_share_111 ⟨Nat.le_of_ble_eq_true rfl, Nat.le_of_ble_eq_true rfl⟩ ⟨Nat.le_of_ble_eq_true rfl, Nat.le_of_ble_eq_true rfl⟩ (fun v9 L9 f128 H locs hp hI => ?_)
                  refine W.cs (cells' := 0) (slots' := 0) rfl rfl ?_
                  obtain ⟨hv9, rfl, hn, hF9⟩ := hp
                  cases hv9
                  refine hw_stk (st' := []) rfl ?_
                  have hF := hF.trans hF9
                  obtain ⟨y129, ey⟩ : ∃ z9, z9 = va_up y 33 0 := ⟨_, rfl⟩
                  rw [← ey] at hn
                  have q33 : y129 33 = 0 := by rw [ey]; rw [hw_up_eq]
                  have k33 := q33
                  have hR : RM σ y129 sn := by rw [ey]; exact hR.up (by decide)
                  obtain ⟨cs, ns, hm, hc⟩ := id hn
                  refine lv_iconst (v := nI 0) hx hb d_Mo_share_114 (by decide) ?_
                  refine lv_istore (lv' := [(6, .int (nI 0)), (4, .long (lN S9)), (3, .int (nI k)), (2, .int (nI a)), (1, .int (nI r)), (0, .ref (mm))]) hx hb d_Mo_share_115 hl (by decide) rfl (fun ls hl => ?_)
                  have loop2 : ∀ (g t : Nat) (y1 rr1 : Nat → Nat) (f1 : Nat → va_E) (H : Heap) (locs : List Loc) (ls : Array Slot), t + g = 10 → y1 33 = sumN (fun j => N * wt j / S9) t → (∀ j, j < t → y1 (38 + j) = N * wt j / S9) → (∀ j, j < t → rr1 j = N * wt j % S9) → RM σ y1 sn → Mn D L f1 mm mc ml mg mw mr (nI 0) y1 sn wt rr1 → Fo mm mc ml mg mw mr f f1 → hw_I D t0 (hw_A L s.heap.size) s L f1 H locs → lv_has ls 9 [(6, .int (nI t)), (4, .long (lN S9)), (3, .int (nI k)), (2, .int (nI a)), (1, .int (nI r)), (0, .ref (mm))] → W p l e (headSpec (Cond.code y_Mo_share b_Mo_share 9 none :: TT) ({ frames := 5, cells := 0, slots := 0, locals := 131 } : Room)).room s m ([.ref (mm), .int ((nI r)), .int ((nI a)), .int ((nI k))]).toArray below meth c H locs 0 0 (MQ below (hw_Q D L s.heap.size (fun oc L' f' => oc = .returned none ∧ L = L' ∧ Mg D L f' mm mc ml mg mw mr (nI (opShr σ wt (nI r) (nI a) (nI k)).1) (opShr σ wt (nI r) (nI a) (nI k)).2 wt ∧ Fo mm mc ml mg mw mr f f')) ([.ref (mm), .int ((nI r)), .int ((nI a)), .int ((nI k))]).toArray s 0 0 (hw_A L s.heap.size)) (F0 m 117 ls []) := by
                    intro g
                    induction g with
                    | zero =>
                      intro t y1 rr1 f1 H locs ls htg k33 hpt hrr hR hn hF hI hl
                      obtain ⟨cs, ns, hm, hc⟩ := id hn
                      refine lv_iload hx hb d_Mo_share_117 (lv_at hl 0 rfl) ?_
                      refine lv_bipush (v := nI 10) hx hb d_Mo_share_119 (by decide) ?_
                      refine hw_icmp_ge (tgt := 189) hx hb d_Mo_share_121 (by decide) (by omega) (by omega) (fun _ => ?_) (fun c9 => absurd c9 (by omega))
                      obtain rfl : t = 10 := by omega
                      refine lv_aload_n hx hb d_Mo_share_189 rfl (lv_at hl 5 rfl) ?_
                      refine lv_bipush (v := nI 32) hx hb d_Mo_share_190 (by decide) ?_
                      refine lv_iload_n hx hb d_Mo_share_192 rfl (lv_at hl 3 rfl) ?_
                      refine hw_cV (As := [.int (nI 32), .int (nI a)]) (rest := []) S hI m_Mo_copy w_810 (c_Mo_copy l D t0 L _ _ mm mc ml mg mw mr (nI 0) y1 sn wt rr1 32 a hn (by decide) (by omega)) hm.1 rfl hl.1 rfl rfl (Nat.le_of_ble_eq_true rfl) d_Mo_share_193 ⟨Nat.le_of_ble_eq_true rfl, Nat.le_of_ble_eq_true rfl⟩ ⟨Nat.le_of_ble_eq_true rfl, Nat.le_of_ble_eq_true rfl⟩ (fun v9 L9 f130 H locs hp hI => ?_)
                      refine W.cs (cells' := 0) (slots' := 0) rfl rfl ?_
                      obtain ⟨hv9, rfl, hn, hF9⟩ := hp
                      cases hv9
                      refine hw_stk (st' := []) rfl ?_
                      have hF := hF.trans hF9
                      obtain ⟨y131, ey⟩ : ∃ z9, z9 = va_up y1 32 (y1 a) := ⟨_, rfl⟩
                      rw [← ey] at hn
                      have q32 : y131 32 = N := by rw [ey]; rw [hw_up_eq]; exact (hR a ha9).1.trans hN.symm
                      have q33 : y131 33 = sumN (fun j => N * wt j / S9) 10 := by rw [ey, hw_up_ne (by decide)]; exact k33
                      have k32 := q32
                      have k33 := q33
                      have hR : RM σ y131 sn := by rw [ey]; exact hR.up (by decide)
                      obtain ⟨cs, ns, hm, hc⟩ := id hn
                      have hpt : ∀ j, j < 10 → y131 (38 + j) = N * wt j / S9 := fun j hj => by rw [ey, hw_up_ne (by omega)]; exact hpt j hj
                      refine lv_aload_n hx hb d_Mo_share_196 rfl (lv_at hl 5 rfl) ?_
                      refine lv_bipush (v := nI 32) hx hb d_Mo_share_197 (by decide) ?_
                      refine lv_bipush (v := nI 32) hx hb d_Mo_share_199 (by decide) ?_
                      refine lv_bipush (v := nI 33) hx hb d_Mo_share_201 (by decide) ?_
                      refine hw_cV (As := [.int (nI 32), .int (nI 32), .int (nI 33)]) (rest := []) S hI m_Mo_less w_878 (c_Mo_less l D t0 L _ _ mm mc ml mg mw mr (nI 0) y131 sn wt rr1 32 32 33 hn (by decide) (by decide) (by decide) (by rw [k32, k33]; exact sl1)) hm.1 rfl hl.1 rfl rfl (Nat.le_of_ble_eq_true rfl) d_Mo_share_203 ⟨Nat.le_of_ble_eq_true rfl, Nat.le_of_ble_eq_true rfl⟩ ⟨Nat.le_of_ble_eq_true rfl, Nat.le_of_ble_eq_true rfl⟩ (fun v9 L9 f132 H locs hp hI => ?_)
                      refine W.cs (cells' := 0) (slots' := 0) rfl rfl ?_
                      obtain ⟨hv9, rfl, hn, hF9⟩ := hp
                      cases hv9
                      refine hw_stk (st' := []) rfl ?_
                      have hF := hF.trans hF9
                      obtain ⟨y133, ey⟩ : ∃ z9, z9 = va_up y131 32 (y131 32 - y131 33) := ⟨_, rfl⟩
                      rw [← ey] at hn
                      have q32 : y133 32 = N - sumN (fun j => N * wt j / S9) 10 := by rw [ey]; rw [hw_up_eq, k32, k33]
                      have q33 : y133 33 = sumN (fun j => N * wt j / S9) 10 := by rw [ey, hw_up_ne (by decide)]; exact k33
                      have k32 := q32
                      have k33 := q33
                      have hR : RM σ y133 sn := by rw [ey]; exact hR.up (by decide)
                      obtain ⟨cs, ns, hm, hc⟩ := id hn
                      have hpt : ∀ j, j < 10 → y133 (38 + j) = N * wt j / S9 := fun j hj => by rw [ey, hw_up_ne (by omega)]; exact hpt j hj
                      obtain ⟨lf, hlf⟩ : ∃ z9, z9 = N - sumN (fun j => N * wt j / S9) 10 := ⟨_, rfl⟩
                      rw [← hlf] at k32 sl2 sl3
                      have hlf9 : lf < 10 := Nat.lt_of_mul_lt_mul_right (a := S9) (by omega)
                      refine lv_aload_n hx hb d_Mo_share_206 rfl (lv_at hl 5 rfl) ?_
                      refine lv_bipush (v := nI 32) hx hb d_Mo_share_207 (by decide) ?_
                      refine lv_iconst (v := nI 0) hx hb d_Mo_share_209 (by decide) ?_
                      refine hw_cV (As := [.int (nI 32), .int (nI 0)]) (rest := []) S hI m_Mo_cell w_822 (c_Mo_cell l D t0 L _ _ mm mc ml mg mw mr (nI 0) cs ns sn wt rr1 32 0 hm (by decide) (by decide) (hc.2 32 (by decide)).1) hm.1 rfl hl.1 rfl rfl (Nat.le_of_ble_eq_true rfl) d_Mo_share_210 ⟨Nat.le_of_ble_eq_true rfl, Nat.le_of_ble_eq_true rfl⟩ ⟨Nat.le_of_ble_eq_true rfl, Nat.le_of_ble_eq_true rfl⟩ (fun v9 L9 f134 H locs hp hI => ?_)
                      refine W.cs (cells' := 0) (slots' := 0) rfl rfl ?_
                      obtain ⟨hv9, rfl, rfl⟩ := hp
                      cases hv9
                      refine hw_stk (st' := [.int (nI (pcl cs ns 32 0))]) rfl ?_
                      refine hw_ti (show _ = nI lf from by rw [pcl_num hc.1, (hc.2 32 (by decide)).2.2.2, k32, Nat.pow_zero, Nat.div_one, Nat.mod_eq_of_lt (by omega)]) ?_
                      refine lv_istore (lv' := [(6, .int (nI lf)), (4, .long (lN S9)), (3, .int (nI k)), (2, .int (nI a)), (1, .int (nI r)), (0, .ref (mm))]) hx hb d_Mo_share_213 hl (by decide) rfl (fun ls hl => ?_)
                      refine lv_iconst (v := nI 0) hx hb d_Mo_share_215 (by decide) ?_
                      refine lv_istore (lv' := [(7, .int (nI 0)), (6, .int (nI lf)), (4, .long (lN S9)), (3, .int (nI k)), (2, .int (nI a)), (1, .int (nI r)), (0, .ref (mm))]) hx hb d_Mo_share_216 hl (by decide) rfl (fun ls hl => ?_)
                      refine lv_iconst (v := nI 0) hx hb d_Mo_share_218 (by decide) ?_
                      refine lv_istore (lv' := [(8, .int (nI 0)), (7, .int (nI 0)), (6, .int (nI lf)), (4, .long (lN S9)), (3, .int (nI k)), (2, .int (nI a)), (1, .int (nI r)), (0, .ref (mm))]) hx hb d_Mo_share_219 hl (by decide) rfl (fun ls hl => ?_)
                      have hrr9 : ∀ j, j < 10 → rr1 j = shR N wt j := fun j hj => by unfold shR; rw [← hS9]; exact hrr j hj
                      have hrl : ∀ j, j < 10 → shR N wt j < 2 ^ 63 := fun j hj => by rw [← hrr9 j hj, hrr j hj]; have := Nat.mod_lt (N * wt j) hSp; omega
                      have loop3 : ∀ (g t : Nat) (f1 : Nat → va_E) (H : Heap) (locs : List Loc) (ls : Array Slot), t + g = 10 → f132 = f1 → hw_I D t0 (hw_A L s.heap.size) s L f1 H locs → lv_has ls 9 [(8, .int (nI t)), (7, .int (nI (rankN (shR N wt) k t))), (6, .int (nI lf)), (3, .int (nI k)), (1, .int (nI r)), (0, .ref (mm))] → W p l e (headSpec (Cond.code y_Mo_share b_Mo_share 9 none :: TT) ({ frames := 5, cells := 0, slots := 0, locals := 131 } : Room)).room s m ([.ref (mm), .int ((nI r)), .int ((nI a)), .int ((nI k))]).toArray below meth c H locs 0 0 (MQ below (hw_Q D L s.heap.size (fun oc L' f' => oc = .returned none ∧ L = L' ∧ Mg D L f' mm mc ml mg mw mr (nI (opShr σ wt (nI r) (nI a) (nI k)).1) (opShr σ wt (nI r) (nI a) (nI k)).2 wt ∧ Fo mm mc ml mg mw mr f f')) ([.ref (mm), .int ((nI r)), .int ((nI a)), .int ((nI k))]).toArray s 0 0 (hw_A L s.heap.size)) (F0 m 221 ls []) := by
                        intro g
                        induction g with
                        | zero =>
                          intro t f9 H locs ls htg hf hI hl
                          subst hf
                          have hrk := rankN_le (g := shR N wt) (k := k) (n := t)
                          refine lv_iload hx hb d_Mo_share_221 (lv_at hl 0 rfl) ?_
                          refine lv_bipush (v := nI 10) hx hb d_Mo_share_223 (by decide) ?_
                          refine hw_icmp_ge (tgt := 285) hx hb d_Mo_share_225 (by decide) (by omega) (by omega) (fun _ => ?_) (fun c9 => absurd c9 (by omega))
                          obtain rfl : t = 10 := by omega
                          have hcmp := sl3 (rankN (shR N wt) k 10)
                          have h34 : 0 < 1 := by decide
                          refine lv_aload_n hx hb d_Mo_share_285 rfl (lv_at hl 5 rfl) ?_
                          refine lv_bipush (v := nI 32) hx hb d_Mo_share_286 (by decide) ?_
                          refine lv_bipush (v := nI 38) hx hb d_Mo_share_288 (by decide) ?_
                          refine lv_iload_n hx hb d_Mo_share_290 rfl (lv_at hl 3 rfl) ?_
                          refine lv_iadd hx hb d_Mo_share_291 ?_
                          refine hw_ti (nI_add _ _) ?_
                          refine hw_cV (As := [.int (nI 32), .int (nI (38 + k))]) (rest := []) S hI m_Mo_copy w_810 (c_Mo_copy l D t0 L _ _ mm mc ml mg mw mr (nI 0) y133 sn wt rr1 32 (38 + k) hn (by decide) (by omega)) hm.1 rfl hl.1 rfl rfl (Nat.le_of_ble_eq_true rfl) d_Mo_share_292 ⟨Nat.le_of_ble_eq_true rfl, Nat.le_of_ble_eq_true rfl⟩ ⟨Nat.le_of_ble_eq_true rfl, Nat.le_of_ble_eq_true rfl⟩ (fun v9 L9 f135 H locs hp hI => ?_)
                          refine W.cs (cells' := 0) (slots' := 0) rfl rfl ?_
                          obtain ⟨hv9, rfl, hn, hF9⟩ := hp
                          cases hv9
                          refine hw_stk (st' := []) rfl ?_
                          have hF := hF.trans hF9
                          obtain ⟨y136, ey⟩ : ∃ z9, z9 = va_up y133 32 (y133 (38 + k)) := ⟨_, rfl⟩
                          rw [← ey] at hn
                          have q32 : y136 32 = N * wt k / S9 := by rw [ey]; rw [hw_up_eq]; exact hpt k (by omega)
                          have q33 : y136 33 = sumN (fun j => N * wt j / S9) 10 := by rw [ey, hw_up_ne (by decide)]; exact k33
                          have k32 := q32
                          have k33 := q33
                          have hR : RM σ y136 sn := by rw [ey]; exact hR.up (by decide)
                          obtain ⟨cs, ns, hm, hc⟩ := id hn
                          refine lv_iload hx hb d_Mo_share_295 (lv_at hl 1 rfl) ?_
                          refine lv_iload hx hb d_Mo_share_297 (lv_at hl 2 rfl) ?_
                          refine hw_icmp_ge (tgt := 310) hx hb d_Mo_share_299 (by decide) (by omega) (by omega) (fun c137 => ?_) (fun c137 => ?_)
                          · refine lv_aload_n hx hb d_Mo_share_310 rfl (lv_at hl 5 rfl) ?_
                            refine lv_bipush (v := nI 34) hx hb d_Mo_share_311 (by decide) ?_
                            refine lv_lconst (v := lN 1) hx hb d_Mo_share_313 rfl ?_
                            refine hw_cV (As := [.int (nI 34), .long (lN 1)]) (rest := []) S hI m_Mo_setLong w_766 (c_Mo_setLong l D t0 L _ _ mm mc ml mg mw mr (nI 0) y136 sn wt rr1 34 1 hn (by decide) (by decide)) hm.1 rfl hl.1 rfl rfl (Nat.le_of_ble_eq_true rfl) d_Mo_share_314 ⟨Nat.le_of_ble_eq_true rfl, Nat.le_of_ble_eq_true rfl⟩ ⟨Nat.le_of_ble_eq_true rfl, Nat.le_of_ble_eq_true rfl⟩ (fun v9 L9 f138 H locs hp hI => ?_)
                            refine W.cs (cells' := 0) (slots' := 0) rfl rfl ?_
                            obtain ⟨hv9, rfl, hn, hF9⟩ := hp
                            cases hv9
                            refine hw_stk (st' := []) rfl ?_
                            have hF := hF.trans hF9
                            obtain ⟨y139, ey⟩ : ∃ z9, z9 = va_up y136 34 1 := ⟨_, rfl⟩
                            rw [← ey] at hn
                            have q34 : y139 34 = 1 := by rw [ey]; rw [hw_up_eq]
                            have q32 : y139 32 = N * wt k / S9 := by rw [ey, hw_up_ne (by decide)]; exact k32
                            have q33 : y139 33 = sumN (fun j => N * wt j / S9) 10 := by rw [ey, hw_up_ne (by decide)]; exact k33
                            have k34 := q34
                            have k32 := q32
                            have k33 := q33
                            have hR : RM σ y139 sn := by rw [ey]; exact hR.up (by decide)
                            obtain ⟨cs, ns, hm, hc⟩ := id hn
                            have hsh : shF N wt k = N * wt k / S9 := by unfold shF; rw [← hS9, if_neg (fun h => absurd (hcmp.mpr h) (by omega)), Nat.add_zero]
                            refine lv_aload_n hx hb d_Mo_share_317 rfl (lv_at hl 5 rfl) ?_
                            refine lv_aload_n hx hb d_Mo_share_318 rfl (lv_at hl 5 rfl) ?_
                            refine lv_iload_n hx hb d_Mo_share_319 rfl (lv_at hl 4 rfl) ?_
                            refine lv_iconst (v := nI 1) hx hb d_Mo_share_320 (by decide) ?_
                            refine hw_cV (As := [.int (nI r), .int (nI 1)]) (rest := [.ref (mm)]) S hI m_Mo_finish w_802 (c_Mo_finish l D t0 L _ _ mm mc ml mg mw mr (nI 0) y139 sn wt rr1 σ r (nI 1) false hn hR hr9 (by rw [k34]; exact h34) (by rw [k32]; exact (fun _ => rfl))) hm.1 rfl hl.1 rfl rfl (Nat.le_of_ble_eq_true rfl) d_Mo_share_321 ⟨Nat.le_of_ble_eq_true rfl, Nat.le_of_ble_eq_true rfl⟩ ⟨Nat.le_of_ble_eq_true rfl, Nat.le_of_ble_eq_true rfl⟩ (fun v9 L9 f140 H locs hp hI => ?_)
                            refine W.cs (cells' := 0) (slots' := 0) rfl rfl ?_
                            obtain ⟨hv9, rfl, ⟨y9, sn9, hn, hR⟩, hF9⟩ := hp
                            cases hv9
                            refine hw_stk (st' := [.int (if fitR (lows (y139 32) (y139 34) false) = true then nI 1 else nI 0), .ref (mm)]) rfl ?_
                            have hF := hF.trans hF9
                            rw [k32, k34] at hR
                            obtain ⟨cs, ns, hm, hc⟩ := id hn
                            by_cases hfit : fitR (lows (N * wt k / S9) 1 false) = true
                            · refine hw_ti (show _ = nI 1 from by rw [k32, k34, if_pos hfit]) ?_
                              rw [if_pos hfit] at hR
                              refine hw_if_eq (tgt := 331) hx hb d_Mo_share_324 (by decide) (by decide) (fun c9 => absurd c9 (by decide)) (fun _ => ?_)
                              refine lv_iconst (v := nI 0) hx hb d_Mo_share_327 (by decide) ?_
                              refine lv_goto (tgt := 332) hx hb d_Mo_share_328 (by decide) ?_
                              refine ob_put S hI hm.1 (fs' := [.int (nI 0), .ref (mc), .ref (ml), .ref (mg), .ref (mw), .ref (mr)]) (C := R_Mo) (T := F_Mo) (N := 6) (ref := "WallFractionsModel") rfl i_Mo t_Mo t_Mo_ok n_Mo 0 (by decide) rfl w_771 rfl rfl rfl (by simp only [List.length]; decide) rfl d_Mo_share_332 (fun f141 H locs hI hO9 hf141 => ?_)
                              have hm := hm.umm hf141 hO9
                              have hF := hF.umm hf141
                              have hn := (⟨_, _, hm, hc⟩ : Mn D L _ mm mc ml mg mw mr _ _ _ _ _)
                              exact hw_vret hx hb hr hlocks hI d_Mo_share_335 ⟨rfl, rfl, by rw [show opShr σ wt (nI r) (nI a) (nI k) = (0, va_up σ r (lows (N * wt k / S9) 1 false)) from by unfold opShr; rw [if_pos hv, if_neg (by rw [← hS9]; exact hS0), if_pos (by rw [ix_nI (by omega)]; exact ⟨hw, hs9⟩), putR_eq, ix_nI (by omega), ix_nI (by omega), nI_clamp (by omega), ← hN, hsh, ← lows_one, if_pos hfit]]; exact ⟨_, _, _, hn, hR⟩, hF⟩
                            · refine hw_ti (show _ = nI 0 from by rw [k32, k34, if_neg hfit]) ?_
                              rw [if_neg hfit] at hR
                              refine hw_if_eq (tgt := 331) hx hb d_Mo_share_324 (by decide) (by decide) (fun _ => ?_) (fun c9 => absurd c9 (by decide))
                              refine lv_iconst (v := nI 3) hx hb d_Mo_share_331 (by decide) ?_
                              refine ob_put S hI hm.1 (fs' := [.int (nI 3), .ref (mc), .ref (ml), .ref (mg), .ref (mw), .ref (mr)]) (C := R_Mo) (T := F_Mo) (N := 6) (ref := "WallFractionsModel") rfl i_Mo t_Mo t_Mo_ok n_Mo 0 (by decide) rfl w_771 rfl rfl rfl (by simp only [List.length]; decide) rfl d_Mo_share_332 (fun f142 H locs hI hO9 hf142 => ?_)
                              have hm := hm.umm hf142 hO9
                              have hF := hF.umm hf142
                              have hn := (⟨_, _, hm, hc⟩ : Mn D L _ mm mc ml mg mw mr _ _ _ _ _)
                              exact hw_vret hx hb hr hlocks hI d_Mo_share_335 ⟨rfl, rfl, by rw [show opShr σ wt (nI r) (nI a) (nI k) = (3, σ) from by unfold opShr; rw [if_pos hv, if_neg (by rw [← hS9]; exact hS0), if_pos (by rw [ix_nI (by omega)]; exact ⟨hw, hs9⟩), putR_eq, ix_nI (by omega), ix_nI (by omega), nI_clamp (by omega), ← hN, hsh, ← lows_one, if_neg hfit]]; exact ⟨_, _, _, hn, hR⟩, hF⟩
                          · have hd9 : N * wt k / S9 ≤ N := Nat.div_le_of_le_mul (by rw [Nat.mul_comm]; exact Nat.mul_le_mul_right _ (by rw [hS9]; exact sum_ge (by omega)))
                            refine lv_aload_n hx hb d_Mo_share_302 rfl (lv_at hl 5 rfl) ?_
                            refine lv_bipush (v := nI 32) hx hb d_Mo_share_303 (by decide) ?_
                            refine lv_lconst (v := lN 1) hx hb d_Mo_share_305 rfl ?_
                            refine lv_lconst (v := lN 1) hx hb d_Mo_share_306 rfl ?_
                            refine hw_cV (As := [.int (nI 32), .long (lN 1), .long (lN 1)]) (rest := []) S hI m_Mo_times w_851 (c_Mo_times l D t0 L _ _ mm mc ml mg mw mr (nI 0) y136 sn wt rr1 32 1 1 hn (by decide) (by rw [k32]; exact p4 125 (Nat.lt_of_le_of_lt hd9 hNl) (by decide)) (by decide) (by decide)) hm.1 rfl hl.1 rfl rfl (Nat.le_of_ble_eq_true rfl) d_Mo_share_307 ⟨Nat.le_of_ble_eq_true rfl, Nat.le_of_ble_eq_true rfl⟩ ⟨Nat.le_of_ble_eq_true rfl, Nat.le_of_ble_eq_true rfl⟩ (fun v9 L9 f143 H locs hp hI => ?_)
                            refine W.cs (cells' := 0) (slots' := 0) rfl rfl ?_
                            obtain ⟨hv9, rfl, hn, hF9⟩ := hp
                            cases hv9
                            refine hw_stk (st' := []) rfl ?_
                            have hF := hF.trans hF9
                            obtain ⟨y144, ey⟩ : ∃ z9, z9 = va_up y136 32 (y136 32 * 1 + 1) := ⟨_, rfl⟩
                            rw [← ey] at hn
                            have q32 : y144 32 = N * wt k / S9 * 1 + 1 := by rw [ey]; rw [hw_up_eq, k32]
                            have q33 : y144 33 = sumN (fun j => N * wt j / S9) 10 := by rw [ey, hw_up_ne (by decide)]; exact k33
                            have k32 := q32
                            have k33 := q33
                            have hR : RM σ y144 sn := by rw [ey]; exact hR.up (by decide)
                            obtain ⟨cs, ns, hm, hc⟩ := id hn
                            rw [Nat.mul_one] at k32
                            refine lv_aload_n hx hb d_Mo_share_310 rfl (lv_at hl 5 rfl) ?_
                            refine lv_bipush (v := nI 34) hx hb d_Mo_share_311 (by decide) ?_
                            refine lv_lconst (v := lN 1) hx hb d_Mo_share_313 rfl ?_
                            refine hw_cV (As := [.int (nI 34), .long (lN 1)]) (rest := []) S hI m_Mo_setLong w_766 (c_Mo_setLong l D t0 L _ _ mm mc ml mg mw mr (nI 0) y144 sn wt rr1 34 1 hn (by decide) (by decide)) hm.1 rfl hl.1 rfl rfl (Nat.le_of_ble_eq_true rfl) d_Mo_share_314 ⟨Nat.le_of_ble_eq_true rfl, Nat.le_of_ble_eq_true rfl⟩ ⟨Nat.le_of_ble_eq_true rfl, Nat.le_of_ble_eq_true rfl⟩ (fun v9 L9 f145 H locs hp hI => ?_)
                            refine W.cs (cells' := 0) (slots' := 0) rfl rfl ?_
                            obtain ⟨hv9, rfl, hn, hF9⟩ := hp
                            cases hv9
                            refine hw_stk (st' := []) rfl ?_
                            have hF := hF.trans hF9
                            obtain ⟨y146, ey⟩ : ∃ z9, z9 = va_up y144 34 1 := ⟨_, rfl⟩
                            rw [← ey] at hn
                            have q34 : y146 34 = 1 := by rw [ey]; rw [hw_up_eq]
                            have q32 : y146 32 = N * wt k / S9 + 1 := by rw [ey, hw_up_ne (by decide)]; exact k32
                            have q33 : y146 33 = sumN (fun j => N * wt j / S9) 10 := by rw [ey, hw_up_ne (by decide)]; exact k33
                            have k34 := q34
                            have k32 := q32
                            have k33 := q33
                            have hR : RM σ y146 sn := by rw [ey]; exact hR.up (by decide)
                            obtain ⟨cs, ns, hm, hc⟩ := id hn
                            have hsh : shF N wt k = N * wt k / S9 + 1 := by unfold shF; rw [← hS9, if_pos (hcmp.mp c137)]
                            refine lv_aload_n hx hb d_Mo_share_317 rfl (lv_at hl 5 rfl) ?_
                            refine lv_aload_n hx hb d_Mo_share_318 rfl (lv_at hl 5 rfl) ?_
                            refine lv_iload_n hx hb d_Mo_share_319 rfl (lv_at hl 4 rfl) ?_
                            refine lv_iconst (v := nI 1) hx hb d_Mo_share_320 (by decide) ?_
                            refine hw_cV (As := [.int (nI r), .int (nI 1)]) (rest := [.ref (mm)]) S hI m_Mo_finish w_802 (c_Mo_finish l D t0 L _ _ mm mc ml mg mw mr (nI 0) y146 sn wt rr1 σ r (nI 1) false hn hR hr9 (by rw [k34]; exact h34) (by rw [k32]; exact (fun _ => rfl))) hm.1 rfl hl.1 rfl rfl (Nat.le_of_ble_eq_true rfl) d_Mo_share_321 ⟨Nat.le_of_ble_eq_true rfl, Nat.le_of_ble_eq_true rfl⟩ ⟨Nat.le_of_ble_eq_true rfl, Nat.le_of_ble_eq_true rfl⟩ (fun v9 L9 f147 H locs hp hI => ?_)
                            refine W.cs (cells' := 0) (slots' := 0) rfl rfl ?_
                            obtain ⟨hv9, rfl, ⟨y9, sn9, hn, hR⟩, hF9⟩ := hp
                            cases hv9
                            refine hw_stk (st' := [.int (if fitR (lows (y146 32) (y146 34) false) = true then nI 1 else nI 0), .ref (mm)]) rfl ?_
                            have hF := hF.trans hF9
                            rw [k32, k34] at hR
                            obtain ⟨cs, ns, hm, hc⟩ := id hn
                            by_cases hfit : fitR (lows (N * wt k / S9 + 1) 1 false) = true
                            · refine hw_ti (show _ = nI 1 from by rw [k32, k34, if_pos hfit]) ?_
                              rw [if_pos hfit] at hR
                              refine hw_if_eq (tgt := 331) hx hb d_Mo_share_324 (by decide) (by decide) (fun c9 => absurd c9 (by decide)) (fun _ => ?_)
                              refine lv_iconst (v := nI 0) hx hb d_Mo_share_327 (by decide) ?_
                              refine lv_goto (tgt := 332) hx hb d_Mo_share_328 (by decide) ?_
                              refine ob_put S hI hm.1 (fs' := [.int (nI 0), .ref (mc), .ref (ml), .ref (mg), .ref (mw), .ref (mr)]) (C := R_Mo) (T := F_Mo) (N := 6) (ref := "WallFractionsModel") rfl i_Mo t_Mo t_Mo_ok n_Mo 0 (by decide) rfl w_771 rfl rfl rfl (by simp only [List.length]; decide) rfl d_Mo_share_332 (fun f148 H locs hI hO9 hf148 => ?_)
                              have hm := hm.umm hf148 hO9
                              have hF := hF.umm hf148
                              have hn := (⟨_, _, hm, hc⟩ : Mn D L _ mm mc ml mg mw mr _ _ _ _ _)
                              exact hw_vret hx hb hr hlocks hI d_Mo_share_335 ⟨rfl, rfl, by rw [show opShr σ wt (nI r) (nI a) (nI k) = (0, va_up σ r (lows (N * wt k / S9 + 1) 1 false)) from by unfold opShr; rw [if_pos hv, if_neg (by rw [← hS9]; exact hS0), if_pos (by rw [ix_nI (by omega)]; exact ⟨hw, hs9⟩), putR_eq, ix_nI (by omega), ix_nI (by omega), nI_clamp (by omega), ← hN, hsh, ← lows_one, if_pos hfit]]; exact ⟨_, _, _, hn, hR⟩, hF⟩
                            · refine hw_ti (show _ = nI 0 from by rw [k32, k34, if_neg hfit]) ?_
                              rw [if_neg hfit] at hR
                              refine hw_if_eq (tgt := 331) hx hb d_Mo_share_324 (by decide) (by decide) (fun _ => ?_) (fun c9 => absurd c9 (by decide))
                              refine lv_iconst (v := nI 3) hx hb d_Mo_share_331 (by decide) ?_
                              refine ob_put S hI hm.1 (fs' := [.int (nI 3), .ref (mc), .ref (ml), .ref (mg), .ref (mw), .ref (mr)]) (C := R_Mo) (T := F_Mo) (N := 6) (ref := "WallFractionsModel") rfl i_Mo t_Mo t_Mo_ok n_Mo 0 (by decide) rfl w_771 rfl rfl rfl (by simp only [List.length]; decide) rfl d_Mo_share_332 (fun f149 H locs hI hO9 hf149 => ?_)
                              have hm := hm.umm hf149 hO9
                              have hF := hF.umm hf149
                              have hn := (⟨_, _, hm, hc⟩ : Mn D L _ mm mc ml mg mw mr _ _ _ _ _)
                              exact hw_vret hx hb hr hlocks hI d_Mo_share_335 ⟨rfl, rfl, by rw [show opShr σ wt (nI r) (nI a) (nI k) = (3, σ) from by unfold opShr; rw [if_pos hv, if_neg (by rw [← hS9]; exact hS0), if_pos (by rw [ix_nI (by omega)]; exact ⟨hw, hs9⟩), putR_eq, ix_nI (by omega), ix_nI (by omega), nI_clamp (by omega), ← hN, hsh, ← lows_one, if_neg hfit]]; exact ⟨_, _, _, hn, hR⟩, hF⟩
                        | succ g ih =>
                          intro t f9 H locs ls htg hf hI hl
                          subst hf
                          have hrk := rankN_le (g := shR N wt) (k := k) (n := t)
                          refine lv_iload hx hb d_Mo_share_221 (lv_at hl 0 rfl) ?_
                          refine lv_bipush (v := nI 10) hx hb d_Mo_share_223 (by decide) ?_
                          refine hw_icmp_ge (tgt := 285) hx hb d_Mo_share_225 (by decide) (by omega) (by omega) (fun c9 => absurd c9 (by omega)) (fun _ => ?_)
                          have u1 := hrl t (by omega)
                          have u2 := hrl k (by omega)
                          refine lv_aload_n hx hb d_Mo_share_228 rfl (lv_at hl 5 rfl) ?_
                          refine ob_get S hI hm.1 (C := R_Mo) (T := F_Mo) (N := 6) (ref := "WallFractionsModel") rfl i_Mo 5 (by decide) rfl w_776 rfl d_Mo_share_229 ?_
                          refine lv_iload hx hb d_Mo_share_232 (lv_at hl 0 rfl) ?_
                          refine ar_ld S hI hm.2.2.2.2.2 (by decide) (by omega) d_Mo_share_234 ?_
                          refine hw_tl (show _ = lN (shR N wt t) from by rw [hrr9 t (by omega)]) ?_
                          refine lv_aload_n hx hb d_Mo_share_235 rfl (lv_at hl 5 rfl) ?_
                          refine ob_get S hI hm.1 (C := R_Mo) (T := F_Mo) (N := 6) (ref := "WallFractionsModel") rfl i_Mo 5 (by decide) rfl w_776 rfl d_Mo_share_236 ?_
                          refine lv_iload_n hx hb d_Mo_share_239 rfl (lv_at hl 3 rfl) ?_
                          refine ar_ld S hI hm.2.2.2.2.2 (by decide) (by omega) d_Mo_share_240 ?_
                          refine hw_tl (show _ = lN (shR N wt k) from by rw [hrr9 k (by omega)]) ?_
                          refine hw_l_gt (tgt := 268) hx hb d_Mo_share_241 d_Mo_share_242 (by decide) (fun c150 => ?_) (fun c150 => ?_)
                          · have hgt := (pk_lLT u2 u1).mp c150
                            have hst : rankN (shR N wt) k (t + 1) = rankN (shR N wt) k t + 1 := by show rankN (shR N wt) k t + (if _ then 1 else 0) = _; rw [if_pos (Or.inl hgt)]
                            refine lv_iload hx hb d_Mo_share_268 (lv_at hl 1 rfl) ?_
                            refine lv_iconst (v := nI 1) hx hb d_Mo_share_270 (by decide) ?_
                            refine lv_iadd hx hb d_Mo_share_271 ?_
                            refine hw_ti (nI_add _ _) ?_
                            refine lv_goto (tgt := 277) hx hb d_Mo_share_272 (by decide) ?_
                            refine hw_ti (show _ = nI (rankN (shR N wt) k (t + 1)) from by rw [hst]) ?_
                            refine lv_istore (lv' := [(7, .int (nI (rankN (shR N wt) k (t + 1)))), (8, .int (nI t)), (6, .int (nI lf)), (3, .int (nI k)), (1, .int (nI r)), (0, .ref (mm))]) hx hb d_Mo_share_277 hl (by decide) rfl (fun ls hl => ?_)
                            refine lv_iinc (v := nI (t + 1)) (lv' := [(8, .int (nI (t + 1))), (7, .int (nI (rankN (shR N wt) k (t + 1)))), (6, .int (nI lf)), (3, .int (nI k)), (1, .int (nI r)), (0, .ref (mm))]) hx hb d_Mo_share_279 hl (k := 1) rfl (nI_1 _) (by decide) rfl (fun ls hl => ?_)
                            refine lv_goto (tgt := 221) hx hb d_Mo_share_282 (by decide) ?_
                            exact ih (t + 1) _ _ _ _ (by omega) rfl hI hl
                          · have hle := (pk_lLE u1 u2).mp c150
                            refine lv_aload_n hx hb d_Mo_share_245 rfl (lv_at hl 5 rfl) ?_
                            refine ob_get S hI hm.1 (C := R_Mo) (T := F_Mo) (N := 6) (ref := "WallFractionsModel") rfl i_Mo 5 (by decide) rfl w_776 rfl d_Mo_share_246 ?_
                            refine lv_iload hx hb d_Mo_share_249 (lv_at hl 0 rfl) ?_
                            refine ar_ld S hI hm.2.2.2.2.2 (by decide) (by omega) d_Mo_share_251 ?_
                            refine hw_tl (show _ = lN (shR N wt t) from by rw [hrr9 t (by omega)]) ?_
                            refine lv_aload_n hx hb d_Mo_share_252 rfl (lv_at hl 5 rfl) ?_
                            refine ob_get S hI hm.1 (C := R_Mo) (T := F_Mo) (N := 6) (ref := "WallFractionsModel") rfl i_Mo 5 (by decide) rfl w_776 rfl d_Mo_share_253 ?_
                            refine lv_iload_n hx hb d_Mo_share_256 rfl (lv_at hl 3 rfl) ?_
                            refine ar_ld S hI hm.2.2.2.2.2 (by decide) (by omega) d_Mo_share_257 ?_
                            refine hw_tl (show _ = lN (shR N wt k) from by rw [hrr9 k (by omega)]) ?_
                            refine hw_l_ne (tgt := 275) hx hb d_Mo_share_258 d_Mo_share_259 (by decide) (fun c151 => ?_) (fun c151 => ?_)
                            · have hne : shR N wt t ≠ shR N wt k := fun h => c151 (by rw [h])
                              have hst : rankN (shR N wt) k (t + 1) = rankN (shR N wt) k t + 0 := by show rankN (shR N wt) k t + (if _ then 1 else 0) = _; rw [if_neg (fun h => h.elim (fun q => absurd q (by omega)) (fun q => hne q.1))]
                              refine lv_iload hx hb d_Mo_share_275 (lv_at hl 1 rfl) ?_
                              refine hw_ti (show _ = nI (rankN (shR N wt) k (t + 1)) from by rw [hst, Nat.add_zero]) ?_
                              refine lv_istore (lv' := [(7, .int (nI (rankN (shR N wt) k (t + 1)))), (8, .int (nI t)), (6, .int (nI lf)), (3, .int (nI k)), (1, .int (nI r)), (0, .ref (mm))]) hx hb d_Mo_share_277 hl (by decide) rfl (fun ls hl => ?_)
                              refine lv_iinc (v := nI (t + 1)) (lv' := [(8, .int (nI (t + 1))), (7, .int (nI (rankN (shR N wt) k (t + 1)))), (6, .int (nI lf)), (3, .int (nI k)), (1, .int (nI r)), (0, .ref (mm))]) hx hb d_Mo_share_279 hl (k := 1) rfl (nI_1 _) (by decide) rfl (fun ls hl => ?_)
                              refine lv_goto (tgt := 221) hx hb d_Mo_share_282 (by decide) ?_
                              exact ih (t + 1) _ _ _ _ (by omega) rfl hI hl
                            · have heq : shR N wt t = shR N wt k := (pk_lEQ u1 u2).mp c151
                              refine lv_iload hx hb d_Mo_share_262 (lv_at hl 0 rfl) ?_
                              refine lv_iload_n hx hb d_Mo_share_264 rfl (lv_at hl 3 rfl) ?_
                              refine hw_icmp_ge (tgt := 275) hx hb d_Mo_share_265 (by decide) (by omega) (by omega) (fun c152 => ?_) (fun c152 => ?_)
                              · have hst : rankN (shR N wt) k (t + 1) = rankN (shR N wt) k t + 0 := by show rankN (shR N wt) k t + (if _ then 1 else 0) = _; rw [if_neg (fun h => h.elim (fun q => absurd q (by omega)) (fun q => absurd q.2 (by omega)))]
                                refine lv_iload hx hb d_Mo_share_275 (lv_at hl 1 rfl) ?_
                                refine hw_ti (show _ = nI (rankN (shR N wt) k (t + 1)) from by rw [hst, Nat.add_zero]) ?_
                                refine lv_istore (lv' := [(7, .int (nI (rankN (shR N wt) k (t + 1)))), (8, .int (nI t)), (6, .int (nI lf)), (3, .int (nI k)), (1, .int (nI r)), (0, .ref (mm))]) hx hb d_Mo_share_277 hl (by decide) rfl (fun ls hl => ?_)
                                refine lv_iinc (v := nI (t + 1)) (lv' := [(8, .int (nI (t + 1))), (7, .int (nI (rankN (shR N wt) k (t + 1)))), (6, .int (nI lf)), (3, .int (nI k)), (1, .int (nI r)), (0, .ref (mm))]) hx hb d_Mo_share_279 hl (k := 1) rfl (nI_1 _) (by decide) rfl (fun ls hl => ?_)
                                refine lv_goto (tgt := 221) hx hb d_Mo_share_282 (by decide) ?_
                                exact ih (t + 1) _ _ _ _ (by omega) rfl hI hl
                              · have hst : rankN (shR N wt) k (t + 1) = rankN (shR N wt) k t + 1 := by show rankN (shR N wt) k t + (if _ then 1 else 0) = _; rw [if_pos (Or.inr ⟨heq, c152⟩)]
                                refine lv_iload hx hb d_Mo_share_268 (lv_at hl 1 rfl) ?_
                                refine lv_iconst (v := nI 1) hx hb d_Mo_share_270 (by decide) ?_
                                refine lv_iadd hx hb d_Mo_share_271 ?_
                                refine hw_ti (nI_add _ _) ?_
                                refine lv_goto (tgt := 277) hx hb d_Mo_share_272 (by decide) ?_
                                refine hw_ti (show _ = nI (rankN (shR N wt) k (t + 1)) from by rw [hst]) ?_
                                refine lv_istore (lv' := [(7, .int (nI (rankN (shR N wt) k (t + 1)))), (8, .int (nI t)), (6, .int (nI lf)), (3, .int (nI k)), (1, .int (nI r)), (0, .ref (mm))]) hx hb d_Mo_share_277 hl (by decide) rfl (fun ls hl => ?_)
                                refine lv_iinc (v := nI (t + 1)) (lv' := [(8, .int (nI (t + 1))), (7, .int (nI (rankN (shR N wt) k (t + 1)))), (6, .int (nI lf)), (3, .int (nI k)), (1, .int (nI r)), (0, .ref (mm))]) hx hb d_Mo_share_279 hl (k := 1) rfl (nI_1 _) (by decide) rfl (fun ls hl => ?_)
                                refine lv_goto (tgt := 221) hx hb d_Mo_share_282 (by decide) ?_
                                exact ih (t + 1) _ _ _ _ (by omega) rfl hI hl
                      exact loop3 10 0 _ _ _ _ (by decide) rfl hI (lv_sub hl [0, 1, 2, 4, 6, 7] rfl)
                    | succ g ih =>
                      intro t y1 rr1 f1 H locs ls htg k33 hpt hrr hR hn hF hI hl
                      obtain ⟨cs, ns, hm, hc⟩ := id hn
                      refine lv_iload hx hb d_Mo_share_117 (lv_at hl 0 rfl) ?_
                      refine lv_bipush (v := nI 10) hx hb d_Mo_share_119 (by decide) ?_
                      refine hw_icmp_ge (tgt := 189) hx hb d_Mo_share_121 (by decide) (by omega) (by omega) (fun c9 => absurd c9 (by omega)) (fun _ => ?_)
                      have hwt := hok.2 t (by omega)
                      refine lv_aload_n hx hb d_Mo_share_124 rfl (lv_at hl 5 rfl) ?_
                      refine lv_bipush (v := nI 38) hx hb d_Mo_share_125 (by decide) ?_
                      refine lv_iload hx hb d_Mo_share_127 (lv_at hl 0 rfl) ?_
                      refine lv_iadd hx hb d_Mo_share_129 ?_
                      refine hw_ti (nI_add _ _) ?_
                      refine lv_iload_n hx hb d_Mo_share_130 rfl (lv_at hl 3 rfl) ?_
                      refine hw_cV (As := [.int (nI (38 + t)), .int (nI a)]) (rest := []) S hI m_Mo_copy w_810 (c_Mo_copy l D t0 L _ _ mm mc ml mg mw mr (nI 0) y1 sn wt rr1 (38 + t) a hn (by omega) (by omega)) hm.1 rfl hl.1 rfl rfl (Nat.le_of_ble_eq_true rfl) d_Mo_share_131 ⟨Nat.le_of_ble_eq_true rfl, Nat.le_of_ble_eq_true rfl⟩ ⟨Nat.le_of_ble_eq_true rfl, Nat.le_of_ble_eq_true rfl⟩ (fun v9 L9 f153 H locs hp hI => ?_)
                      refine W.cs (cells' := 0) (slots' := 0) rfl rfl ?_
                      obtain ⟨hv9, rfl, hn, hF9⟩ := hp
                      cases hv9
                      refine hw_stk (st' := []) rfl ?_
                      have hF := hF.trans hF9
                      obtain ⟨y154, ey⟩ : ∃ z9, z9 = va_up y1 (38 + t) (y1 a) := ⟨_, rfl⟩
                      rw [← ey] at hn
                      have nkt : y154 (38 + t) = N := by rw [ey]; rw [hw_up_eq, (hR a ha9).1, ← hN]
                      have nk33 : y154 33 = sumN (fun j => N * wt j / S9) t := by rw [ey]; rw [hw_up_ne (by omega)]; exact k33
                      have npt : ∀ j, j < t → y154 (38 + j) = N * wt j / S9 := fun j hj => by rw [ey, hw_up_ne (by omega)]; exact hpt j hj
                      have nR : RM σ y154 sn := by rw [ey]; exact hR.up (by omega)
                      have kt := nkt
                      have k33 := nk33
                      have hpt := npt
                      have hR := nR
                      obtain ⟨cs, ns, hm, hc⟩ := id hn
                      refine lv_aload_n hx hb d_Mo_share_134 rfl (lv_at hl 5 rfl) ?_
                      refine lv_bipush (v := nI 38) hx hb d_Mo_share_135 (by decide) ?_
                      refine lv_iload hx hb d_Mo_share_137 (lv_at hl 0 rfl) ?_
                      refine lv_iadd hx hb d_Mo_share_139 ?_
                      refine hw_ti (nI_add _ _) ?_
                      refine lv_aload_n hx hb d_Mo_share_140 rfl (lv_at hl 5 rfl) ?_
                      refine ob_get S hI hm.1 (C := R_Mo) (T := F_Mo) (N := 6) (ref := "WallFractionsModel") rfl i_Mo 4 (by decide) rfl w_775 rfl d_Mo_share_141 ?_
                      refine lv_iload hx hb d_Mo_share_144 (lv_at hl 0 rfl) ?_
                      refine ia_ld S hI hm.2.2.2.2.1 (by decide) (by omega) d_Mo_share_146 ?_
                      refine lv_i2l (v := lN (wt t)) hx hb d_Mo_share_147 (nI_l (by omega)) ?_
                      refine lv_lconst (v := lN 0) hx hb d_Mo_share_148 rfl ?_
                      refine hw_cV (As := [.int (nI (38 + t)), .long (lN (wt t)), .long (lN 0)]) (rest := []) S hI m_Mo_times w_851 (c_Mo_times l D t0 L _ _ mm mc ml mg mw mr (nI 0) y154 sn wt rr1 (38 + t) (wt t) 0 hn (by omega) (by rw [kt]; exact p4 125 hNl (by decide)) (by omega) (by decide)) hm.1 rfl hl.1 rfl rfl (Nat.le_of_ble_eq_true rfl) d_Mo_share_149 ⟨Nat.le_of_ble_eq_true rfl, Nat.le_of_ble_eq_true rfl⟩ ⟨Nat.le_of_ble_eq_true rfl, Nat.le_of_ble_eq_true rfl⟩ (fun v9 L9 f155 H locs hp hI => ?_)
                      refine W.cs (cells' := 0) (slots' := 0) rfl rfl ?_
                      obtain ⟨hv9, rfl, hn, hF9⟩ := hp
                      cases hv9
                      refine hw_stk (st' := []) rfl ?_
                      have hF := hF.trans hF9
                      obtain ⟨y156, ey⟩ : ∃ z9, z9 = va_up y154 (38 + t) (y154 (38 + t) * wt t + 0) := ⟨_, rfl⟩
                      rw [← ey] at hn
                      have nkt : y156 (38 + t) = N * wt t := by rw [ey]; rw [hw_up_eq, kt, Nat.add_zero]
                      have nk33 : y156 33 = sumN (fun j => N * wt j / S9) t := by rw [ey]; rw [hw_up_ne (by omega)]; exact k33
                      have npt : ∀ j, j < t → y156 (38 + j) = N * wt j / S9 := fun j hj => by rw [ey, hw_up_ne (by omega)]; exact hpt j hj
                      have nR : RM σ y156 sn := by rw [ey]; exact hR.up (by omega)
                      have kt := nkt
                      have k33 := nk33
                      have hpt := npt
                      have hR := nR
                      obtain ⟨cs, ns, hm, hc⟩ := id hn
                      have kr := kt
                      refine lv_aload_n hx hb d_Mo_share_152 rfl (lv_at hl 5 rfl) ?_
                      refine ob_get S hI hm.1 (C := R_Mo) (T := F_Mo) (N := 6) (ref := "WallFractionsModel") rfl i_Mo 5 (by decide) rfl w_776 rfl d_Mo_share_153 ?_
                      refine lv_iload hx hb d_Mo_share_156 (lv_at hl 0 rfl) ?_
                      refine lv_aload_n hx hb d_Mo_share_158 rfl (lv_at hl 5 rfl) ?_
                      refine lv_bipush (v := nI 38) hx hb d_Mo_share_159 (by decide) ?_
                      refine lv_iload hx hb d_Mo_share_161 (lv_at hl 0 rfl) ?_
                      refine lv_iadd hx hb d_Mo_share_163 ?_
                      refine hw_ti (nI_add _ _) ?_
                      refine lv_lload hx hb d_Mo_share_164 (lv_at hl 1 rfl) ?_
                      refine hw_cV (As := [.int (nI (38 + t)), .long (lN S9)]) (rest := [.int (nI t), .ref (mr)]) S hI m_Mo_by w_904 (c_Mo_by l D t0 L _ _ mm mc ml mg mw mr (nI 0) y156 sn wt rr1 (38 + t) S9 hn (by omega) hSp (by omega)) hm.1 rfl hl.1 rfl rfl (Nat.le_of_ble_eq_true rfl) d_Mo_share_166 ⟨Nat.le_of_ble_eq_true rfl, Nat.le_of_ble_eq_true rfl⟩ ⟨Nat.le_of_ble_eq_true rfl, Nat.le_of_ble_eq_true rfl⟩ (fun v9 L9 f157 H locs hp hI => ?_)
                      refine W.cs (cells' := 0) (slots' := 0) rfl rfl ?_
                      obtain ⟨hv9, rfl, hn, hF9⟩ := hp
                      cases hv9
                      refine hw_stk (st' := [.long (lN (y156 (38 + t) % S9)), .int (nI t), .ref (mr)]) rfl ?_
                      have hF := hF.trans hF9
                      obtain ⟨y158, ey⟩ : ∃ z9, z9 = va_up y156 (38 + t) (y156 (38 + t) / S9) := ⟨_, rfl⟩
                      rw [← ey] at hn
                      have nkt : y158 (38 + t) = N * wt t / S9 := by rw [ey]; rw [hw_up_eq, kt]
                      have nk33 : y158 33 = sumN (fun j => N * wt j / S9) t := by rw [ey]; rw [hw_up_ne (by omega)]; exact k33
                      have npt : ∀ j, j < t → y158 (38 + j) = N * wt j / S9 := fun j hj => by rw [ey, hw_up_ne (by omega)]; exact hpt j hj
                      have nR : RM σ y158 sn := by rw [ey]; exact hR.up (by omega)
                      have kt := nkt
                      have k33 := nk33
                      have hpt := npt
                      have hR := nR
                      obtain ⟨cs, ns, hm, hc⟩ := id hn
                      refine hw_tl (show _ = lN (N * wt t % S9) from by rw [kr]) ?_
                      refine ar_st S hI hm.2.2.2.2.2 (by decide) (by omega) d_Mo_share_169 (fun f159 H locs hI hR9 hf159 => ?_)
                      have hm := hm.umr hf159 hR9
                      have hF := hF.umr hf159
                      have hn := (⟨_, _, hm, hc⟩ : Mn D L _ mm mc ml mg mw mr _ _ _ _ _)
                      have hdp : N * wt t / S9 ≤ N := Nat.div_le_of_le_mul (by rw [Nat.mul_comm]; exact Nat.mul_le_mul_right _ (by rw [hS9]; exact sum_ge (by omega)))
                      have hsm : sumN (fun j => N * wt j / S9) t ≤ t * N := sumN_le (fun q hq => Nat.div_le_of_le_mul (by rw [Nat.mul_comm]; exact Nat.mul_le_mul_right _ (by rw [hS9]; exact sum_ge (by omega))))
                      have hN10 : 10 * N < 10000 ^ 46 := by rw [Nat.pow_succ]; omega
                      have htN : t * N ≤ 10 * N := Nat.mul_le_mul_right _ (by omega)
                      refine lv_aload_n hx hb d_Mo_share_170 rfl (lv_at hl 5 rfl) ?_
                      refine lv_bipush (v := nI 33) hx hb d_Mo_share_171 (by decide) ?_
                      refine lv_bipush (v := nI 33) hx hb d_Mo_share_173 (by decide) ?_
                      refine lv_bipush (v := nI 38) hx hb d_Mo_share_175 (by decide) ?_
                      refine lv_iload hx hb d_Mo_share_177 (lv_at hl 0 rfl) ?_
                      refine lv_iadd hx hb d_Mo_share_179 ?_
                      refine hw_ti (nI_add _ _) ?_
                      refine hw_cV (As := [.int (nI 33), .int (nI 33), .int (nI (38 + t))]) (rest := []) S hI m_Mo_plus w_870 (c_Mo_plus l D t0 L _ _ mm mc ml mg mw mr (nI 0) y158 sn wt (va_up rr1 t (N * wt t % S9)) 33 33 (38 + t) hn (by decide) (by decide) (by omega) (by rw [k33]; exact p4 127 (show _ < 10000 ^ 46 by omega) (by decide)) (by rw [kt]; exact p4 127 (show _ < 10000 ^ 46 by omega) (by decide))) hm.1 rfl hl.1 rfl rfl (Nat.le_of_ble_eq_true rfl) d_Mo_share_180 ⟨Nat.le_of_ble_eq_true rfl, Nat.le_of_ble_eq_true rfl⟩ ⟨Nat.le_of_ble_eq_true rfl, Nat.le_of_ble_eq_true rfl⟩ (fun v9 L9 f160 H locs hp hI => ?_)
                      refine W.cs (cells' := 0) (slots' := 0) rfl rfl ?_
                      obtain ⟨hv9, rfl, hn, hF9⟩ := hp
                      cases hv9
                      refine hw_stk (st' := []) rfl ?_
                      have hF := hF.trans hF9
                      obtain ⟨y161, ey⟩ : ∃ z9, z9 = va_up y158 33 (y158 33 + y158 (38 + t)) := ⟨_, rfl⟩
                      rw [← ey] at hn
                      have nk33 : y161 33 = sumN (fun j => N * wt j / S9) (t + 1) := by rw [ey]; rw [hw_up_eq, k33, kt]; rfl
                      have nkt : y161 (38 + t) = N * wt t / S9 := by rw [ey]; rw [hw_up_ne (by omega)]; exact kt
                      have npt : ∀ j, j < t → y161 (38 + j) = N * wt j / S9 := fun j hj => by rw [ey, hw_up_ne (by omega)]; exact hpt j hj
                      have nR : RM σ y161 sn := by rw [ey]; exact hR.up (by omega)
                      have k33 := nk33
                      have kt := nkt
                      have hpt := npt
                      have hR := nR
                      obtain ⟨cs, ns, hm, hc⟩ := id hn
                      refine lv_iinc (v := nI (t + 1)) (lv' := [(6, .int (nI (t + 1))), (4, .long (lN S9)), (3, .int (nI k)), (2, .int (nI a)), (1, .int (nI r)), (0, .ref (mm))]) hx hb d_Mo_share_183 hl (k := 0) rfl (nI_1 _) (by decide) rfl (fun ls hl => ?_)
                      refine lv_goto (tgt := 117) hx hb d_Mo_share_186 (by decide) ?_
                      exact ih (t + 1) _ _ _ _ _ _ (by omega) k33 (fun j hj => by rcases Nat.eq_or_lt_of_le (Nat.le_of_lt_succ hj) with e | e; (rw [e]; exact kt); exact hpt j e) (fun j hj => by rcases Nat.eq_or_lt_of_le (Nat.le_of_lt_succ hj) with e | e; (rw [e, hw_up_eq]); (rw [hw_up_ne (by omega)]; exact hrr j e)) hR hn hF hI hl
                  exact loop2 10 0 _ _ _ _ _ _ (by decide) k33 (fun j hj => absurd hj (by omega)) (fun j hj => absurd hj (by omega)) hR hn hF hI hl
                · refine hw_ti (show _ = nI 0 from by rw [(hR a ha9).2.1, if_neg hw]) ?_
                  refine hw_if_ne (tgt := 95) hx hb d_Mo_share_88 (by decide) (by decide) (fun c9 => absurd c9 (by decide)) (fun _ => ?_)
                  have e9 : opShr σ wt (nI r) (nI a) (nI k) = (3, σ) := by unfold opShr; rw [if_pos hv, if_neg (by rw [← hS9]; exact hS0), if_neg (by rw [ix_nI (by omega)]; exact fun h => hw h.1)]
                  refine lv_iconst (v := nI 3) hx hb d_Mo_share_91 (by decide) ?_
                  refine lv_goto (tgt := 96) hx hb d_Mo_share_92 (by decide) ?_
                  refine ob_put S hI hm.1 (fs' := [.int (nI 3), .ref (mc), .ref (ml), .ref (mg), .ref (mw), .ref (mr)]) (C := R_Mo) (T := F_Mo) (N := 6) (ref := "WallFractionsModel") rfl i_Mo t_Mo t_Mo_ok n_Mo 0 (by decide) rfl w_771 rfl rfl rfl (by simp only [List.length]; decide) rfl d_Mo_share_96 (fun f126 H locs hI hO9 hf126 => ?_)
                  have hm := hm.umm hf126 hO9
                  have hF := hF.umm hf126
                  have hn := (⟨_, _, hm, hc⟩ : Mn D L _ mm mc ml mg mw mr _ _ _ _ _)
                  refine lv_aload_n hx hb d_Mo_share_99 rfl (lv_at hl 5 rfl) ?_
                  refine ob_get S hI hm.1 (C := R_Mo) (T := F_Mo) (N := 6) (ref := "WallFractionsModel") rfl i_Mo 0 (by decide) rfl w_771 rfl d_Mo_share_100 ?_
                  refine hw_if_le (tgt := 107) hx hb d_Mo_share_103 (by decide) (by decide) (fun c9 => absurd c9 (by decide)) (fun _ => ?_)
                  exact hw_vret hx hb hr hlocks hI d_Mo_share_106 ⟨rfl, rfl, by rw [e9]; exact ⟨_, _, _, hn, hR⟩, hF⟩
          · refine hw_cS (As := [.long ((k0).toInt64), .long (lN 0), .long (lN 9)]) (rest := [.ref (mm)]) S hI m_Mo_in w_843 (c_Mo_in l D t0 L _ _ k0 0 9 (by omega) (by omega)) hl.1 rfl rfl (Nat.le_of_ble_eq_true rfl) d_Mo_share_53 ⟨Nat.le_of_ble_eq_true rfl, Nat.le_of_ble_eq_true rfl⟩ ⟨Nat.le_of_ble_eq_true rfl, Nat.le_of_ble_eq_true rfl⟩ (fun v9 L9 f119 H locs hp hI => ?_)
            refine W.cs (cells' := 0) (slots' := 0) rfl rfl ?_
            obtain ⟨hv9, rfl, rfl⟩ := hp
            cases hv9
            refine hw_stk (st' := [.int (if inR k0 0 9 = true then nI 1 else nI 0), .ref (mm)]) rfl ?_
            refine hw_ti (show _ = nI 0 from by rw [if_neg hk0]) ?_
            refine hw_if_ne (tgt := 63) hx hb d_Mo_share_56 (by decide) (by decide) (fun c9 => absurd c9 (by decide)) (fun _ => ?_)
            have e9 : opShr σ wt r0 a0 k0 = (1, σ) := by unfold opShr; rw [if_neg (by simp [hk0])]
            refine lv_iconst (v := nI 1) hx hb d_Mo_share_59 (by decide) ?_
            refine lv_goto (tgt := 96) hx hb d_Mo_share_60 (by decide) ?_
            refine ob_put S hI hm.1 (fs' := [.int (nI 1), .ref (mc), .ref (ml), .ref (mg), .ref (mw), .ref (mr)]) (C := R_Mo) (T := F_Mo) (N := 6) (ref := "WallFractionsModel") rfl i_Mo t_Mo t_Mo_ok n_Mo 0 (by decide) rfl w_771 rfl rfl rfl (by simp only [List.length]; decide) rfl d_Mo_share_96 (fun f121 H locs hI hO9 hf121 => ?_)
            have hm := hm.umm hf121 hO9
            have hF := hF.umm hf121
            have hn := (⟨_, _, hm, hc⟩ : Mn D L _ mm mc ml mg mw mr _ _ _ _ _)
            refine lv_aload_n hx hb d_Mo_share_99 rfl (lv_at hl 5 rfl) ?_
            refine ob_get S hI hm.1 (C := R_Mo) (T := F_Mo) (N := 6) (ref := "WallFractionsModel") rfl i_Mo 0 (by decide) rfl w_771 rfl d_Mo_share_100 ?_
            refine hw_if_le (tgt := 107) hx hb d_Mo_share_103 (by decide) (by decide) (fun c9 => absurd c9 (by decide)) (fun _ => ?_)
            exact hw_vret hx hb hr hlocks hI d_Mo_share_106 ⟨rfl, rfl, by rw [e9]; exact ⟨_, _, _, hn, hR⟩, hF⟩
        · refine hw_cS (As := [.int (a0)]) (rest := [.ref (mm)]) S hI m_Mo_isRegister w_799 (c_Mo_isRegister l D t0 L _ _ a0) hl.1 rfl rfl (Nat.le_of_ble_eq_true rfl) d_Mo_share_41 ⟨Nat.le_of_ble_eq_true rfl, Nat.le_of_ble_eq_true rfl⟩ ⟨Nat.le_of_ble_eq_true rfl, Nat.le_of_ble_eq_true rfl⟩ (fun v9 L9 f116 H locs hp hI => ?_)
          refine W.cs (cells' := 0) (slots' := 0) rfl rfl ?_
          obtain ⟨hv9, rfl, rfl⟩ := hp
          cases hv9
          refine hw_stk (st' := [.int (if vr a0 = true then nI 1 else nI 0), .ref (mm)]) rfl ?_
          refine hw_ti (show _ = nI 0 from by rw [if_neg ha0]) ?_
          refine hw_if_eq (tgt := 59) hx hb d_Mo_share_44 (by decide) (by decide) (fun _ => ?_) (fun c9 => absurd c9 (by decide))
          have e9 : opShr σ wt r0 a0 k0 = (1, σ) := by unfold opShr; rw [if_neg (by simp [ha0])]
          refine lv_iconst (v := nI 1) hx hb d_Mo_share_59 (by decide) ?_
          refine lv_goto (tgt := 96) hx hb d_Mo_share_60 (by decide) ?_
          refine ob_put S hI hm.1 (fs' := [.int (nI 1), .ref (mc), .ref (ml), .ref (mg), .ref (mw), .ref (mr)]) (C := R_Mo) (T := F_Mo) (N := 6) (ref := "WallFractionsModel") rfl i_Mo t_Mo t_Mo_ok n_Mo 0 (by decide) rfl w_771 rfl rfl rfl (by simp only [List.length]; decide) rfl d_Mo_share_96 (fun f118 H locs hI hO9 hf118 => ?_)
          have hm := hm.umm hf118 hO9
          have hF := hF.umm hf118
          have hn := (⟨_, _, hm, hc⟩ : Mn D L _ mm mc ml mg mw mr _ _ _ _ _)
          refine lv_aload_n hx hb d_Mo_share_99 rfl (lv_at hl 5 rfl) ?_
          refine ob_get S hI hm.1 (C := R_Mo) (T := F_Mo) (N := 6) (ref := "WallFractionsModel") rfl i_Mo 0 (by decide) rfl w_771 rfl d_Mo_share_100 ?_
          refine hw_if_le (tgt := 107) hx hb d_Mo_share_103 (by decide) (by decide) (fun c9 => absurd c9 (by decide)) (fun _ => ?_)
          exact hw_vret hx hb hr hlocks hI d_Mo_share_106 ⟨rfl, rfl, by rw [e9]; exact ⟨_, _, _, hn, hR⟩, hF⟩
      · refine hw_cS (As := [.int (r0)]) (rest := [.ref (mm)]) S hI m_Mo_isRegister w_799 (c_Mo_isRegister l D t0 L _ _ r0) hl.1 rfl rfl (Nat.le_of_ble_eq_true rfl) d_Mo_share_34 ⟨Nat.le_of_ble_eq_true rfl, Nat.le_of_ble_eq_true rfl⟩ ⟨Nat.le_of_ble_eq_true rfl, Nat.le_of_ble_eq_true rfl⟩ (fun v9 L9 f113 H locs hp hI => ?_)
        refine W.cs (cells' := 0) (slots' := 0) rfl rfl ?_
        obtain ⟨hv9, rfl, rfl⟩ := hp
        cases hv9
        refine hw_stk (st' := [.int (if vr r0 = true then nI 1 else nI 0), .ref (mm)]) rfl ?_
        refine hw_ti (show _ = nI 0 from by rw [if_neg hr0]) ?_
        refine hw_if_eq (tgt := 59) hx hb d_Mo_share_37 (by decide) (by decide) (fun _ => ?_) (fun c9 => absurd c9 (by decide))
        have e9 : opShr σ wt r0 a0 k0 = (1, σ) := by unfold opShr; rw [if_neg (by simp [hr0])]
        refine lv_iconst (v := nI 1) hx hb d_Mo_share_59 (by decide) ?_
        refine lv_goto (tgt := 96) hx hb d_Mo_share_60 (by decide) ?_
        refine ob_put S hI hm.1 (fs' := [.int (nI 1), .ref (mc), .ref (ml), .ref (mg), .ref (mw), .ref (mr)]) (C := R_Mo) (T := F_Mo) (N := 6) (ref := "WallFractionsModel") rfl i_Mo t_Mo t_Mo_ok n_Mo 0 (by decide) rfl w_771 rfl rfl rfl (by simp only [List.length]; decide) rfl d_Mo_share_96 (fun f115 H locs hI hO9 hf115 => ?_)
        have hm := hm.umm hf115 hO9
        have hF := hF.umm hf115
        have hn := (⟨_, _, hm, hc⟩ : Mn D L _ mm mc ml mg mw mr _ _ _ _ _)
        refine lv_aload_n hx hb d_Mo_share_99 rfl (lv_at hl 5 rfl) ?_
        refine ob_get S hI hm.1 (C := R_Mo) (T := F_Mo) (N := 6) (ref := "WallFractionsModel") rfl i_Mo 0 (by decide) rfl w_771 rfl d_Mo_share_100 ?_
        refine hw_if_le (tgt := 107) hx hb d_Mo_share_103 (by decide) (by decide) (fun c9 => absurd c9 (by decide)) (fun _ => ?_)
        exact hw_vret hx hb hr hlocks hI d_Mo_share_106 ⟨rfl, rfl, by rw [e9]; exact ⟨_, _, _, hn, hR⟩, hF⟩
    | succ g ih =>
      intro t f9 H locs ls htg hf hI hl
      subst hf
      have hwt := hok.2 t (by omega)
      refine lv_iload hx hb d_Mo_share_6 (lv_at hl 0 rfl) ?_
      refine lv_bipush (v := nI 10) hx hb d_Mo_share_8 (by decide) ?_
      refine hw_icmp_ge (tgt := 32) hx hb d_Mo_share_10 (by decide) (by omega) (by omega) (fun c9 => absurd c9 (by omega)) (fun _ => ?_)
      refine lv_lload hx hb d_Mo_share_13 (lv_at hl 1 rfl) ?_
      refine lv_aload_n hx hb d_Mo_share_15 rfl (lv_at hl 5 rfl) ?_
      refine ob_get S hI hm.1 (C := R_Mo) (T := F_Mo) (N := 6) (ref := "WallFractionsModel") rfl i_Mo 4 (by decide) rfl w_775 rfl d_Mo_share_16 ?_
      refine lv_iload hx hb d_Mo_share_19 (lv_at hl 0 rfl) ?_
      refine ia_ld S hI hm.2.2.2.2.1 (by decide) (by omega) d_Mo_share_21 ?_
      refine lv_i2l (v := lN (wt t)) hx hb d_Mo_share_22 (nI_l (by omega)) ?_
      refine lv_ladd hx hb d_Mo_share_23 ?_
      refine hw_tl (lN_add _ _) ?_
      refine lv_lstore (lv' := [(4, .long (lN ((sumN wt t) + (wt t)))), (6, .int (nI t)), (3, .int (k0)), (2, .int (a0)), (1, .int (r0)), (0, .ref (mm))]) hx hb d_Mo_share_24 hl (by decide) rfl (fun ls hl => ?_)
      refine lv_iinc (v := nI (t + 1)) (lv' := [(6, .int (nI (t + 1))), (4, .long (lN ((sumN wt t) + (wt t)))), (3, .int (k0)), (2, .int (a0)), (1, .int (r0)), (0, .ref (mm))]) hx hb d_Mo_share_26 hl (k := 1) rfl (nI_1 _) (by decide) rfl (fun ls hl => ?_)
      refine lv_goto (tgt := 6) hx hb d_Mo_share_29 (by decide) ?_
      exact ih (t + 1) _ _ _ _ (by omega) rfl hI hl
  refine lv_lconst (v := lN 0) hx hb d_Mo_share_0 rfl ?_
  refine lv_lstore (lv' := [(4, .long (lN 0)), (0, .ref (mm)), (1, .int (r0)), (2, .int (a0)), (3, .int (k0))]) hx hb d_Mo_share_1 hl (by decide) rfl (fun ls hl => ?_)
  refine lv_iconst (v := nI 0) hx hb d_Mo_share_3 (by decide) ?_
  refine lv_istore (lv' := [(6, .int (nI 0)), (4, .long (lN 0)), (0, .ref (mm)), (1, .int (r0)), (2, .int (a0)), (3, .int (k0))]) hx hb d_Mo_share_4 hl (by decide) rfl (fun ls hl => ?_)
  exact loop 10 0 _ _ _ _ (by decide) rfl hI (lv_sub hl [0, 1, 5, 4, 3, 2] rfl)

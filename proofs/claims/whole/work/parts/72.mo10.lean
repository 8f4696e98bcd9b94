theorem dl_spec (n : Nat) : dlen (dl n) n := by
  refine Classical.epsilon_spec (p := fun T => dlen T n) ?_
  rcases Nat.eq_zero_or_pos n with e | e
  · subst e
    exact ⟨1, Nat.le_refl _, by decide, fun h => absurd h (by decide)⟩
  · obtain ⟨T, hT, hmin⟩ : ∃ T, n < 10 ^ T ∧ ∀ k, k < T → 10 ^ k ≤ n := by
      have key : ∀ m, n < 10 ^ m → ∃ T, n < 10 ^ T ∧ ∀ k, k < T → 10 ^ k ≤ n := by
        intro m
        induction m with
        | zero => exact fun h => ⟨0, h, fun k hk => absurd hk (by omega)⟩
        | succ m ih =>
          intro h
          rcases Nat.lt_or_ge n (10 ^ m) with q | q
          · exact ih q
          · exact ⟨m + 1, h, fun k hk => Nat.le_trans (Nat.pow_le_pow_right (by decide) (by omega)) q⟩
      exact key n (Nat.lt_pow_self (by decide))
    have hT0 : T ≠ 0 := fun h => by rw [h, Nat.pow_zero] at hT; omega
    exact ⟨T, by omega, hT, fun h => hmin (T - 1) (by omega)⟩
theorem dl_le {n k : Nat} (h : n < 10 ^ k) (hk : 1 ≤ k) : dl n ≤ k := by
  have h1 := dl_spec n
  rcases Nat.lt_or_ge k (dl n) with q | q
  · exfalso
    have h2 := h1.2.2 (by omega)
    have h3 : 10 ^ k ≤ 10 ^ (dl n - 1) := Nat.pow_le_pow_right (by decide) (by omega)
    omega
  · exact q
theorem m260 : (10000 : Nat) ^ 65 = 10 ^ 260 := by decide +kernel
theorem m132 {e : Nat} (h : e ≤ 130) : 10 ^ e < 10000 ^ 60 := Nat.lt_of_le_of_lt (Nat.pow_le_pow_right (by decide) h) (by decide +kernel)
theorem half_lt {a b C : Nat} (ha : a < C) (hb : b < C) : (a + b) / 2 < C := by omega
set_option maxHeartbeats 4000000 in
set_option maxRecDepth 100000 in
theorem c_Mo_takeRoot (l : Launch) (D : va_G) (t0 : Nat) (L : List Nat) (f : Nat → va_E) (sz : Nat) (mm mc ml mg mw mr : Nat) (th : Int32) (y : Nat → Nat) (sn : Nat → Int32) (wt rr : Nat → Nat) (hn : Mn D L f mm mc ml mg mw mr th y sn wt rr) (hy : y 32 < 10000 ^ 65) : Met l y_Mo_takeRoot (Cond.code y_Mo_takeRoot b_Mo_takeRoot 5 none :: TT) ({ frames := 3, cells := 0, slots := 0, locals := 83 } : Room) (hw_Pc t0 [.ref (mm)] D L f sz) (hw_Q D L sz (fun oc L' f' => oc = .returned none ∧ L = L' ∧ (∃ y', y' 32 = isq (y 32) ∧ (∀ k, k < 32 → y' k = y k) ∧ Mn D L f' mm mc ml mg mw mr th y' sn wt rr) ∧ Fo mm mc ml mg mw mr f f')) 0 0 (hw_A L sz) := by
  refine Met.ofW (cc := b_Mo_takeRoot) (maxL := 5) (ret := none) (by decide) rfl ?_
  intro p e s m args below meth c s₁ B hml hv
  obtain ⟨rfl, rfl, hI⟩ := hw_start hv
  clear hv
  have hx := B.exec
  have hb := B.bytes
  have hr := B.returns
  have hlocks := B.notSynchronized
  have hown : s.vm.findClass "WallFractionsModel" = some m.cls := findClass_of_methodNamed B.named
  have hT : ∀ w ∈ TT, w.before ([.ref (mm)]).toArray s = true := fun w h => atoms_spec (ws := (Cond.code y_Mo_takeRoot b_Mo_takeRoot 5 none :: TT)) B.pre w (List.mem_cons_of_mem _ h)
  have S : CallFix p m c b_Mo_takeRoot 5 s ([.ref (mm)]).toArray TT "WallFractionsModel" := ⟨hx, hb, hml, hown, hT⟩
  have hl := lv_entry ([.ref (mm)]) (n := 5) (Nat.le_of_ble_eq_true rfl)
  rw [lg_entry_eq]
  generalize (lg_sl ([.ref (mm)]) ++ List.replicate (5 - (lg_sl ([.ref (mm)])).length) Slot.unset).toArray = ls at hl ⊢
  have hl : lv_has ls 5 [(0, .ref (mm))] := hl
  skip
  have hF : Fo mm mc ml mg mw mr f f := Fo.refl
  obtain ⟨cs, ns, hm, hc⟩ := id hn
  obtain ⟨N, k32⟩ : ∃ z9, y 32 = z9 := ⟨_, rfl⟩
  rw [k32] at hy
  have K0 := k32
  have hrow : ∀ k, k < 32 → y k = y k := fun _ _ => rfl
  obtain ⟨s9, hs9⟩ : ∃ z9, z9 = isq N := ⟨_, rfl⟩
  obtain ⟨q1, q2⟩ := isq_spec N
  rw [← hs9] at q1 q2
  refine lv_aload_n hx hb d_Mo_takeRoot_0 rfl (lv_at hl 0 rfl) ?_
  refine lv_bipush (v := nI 32) hx hb d_Mo_takeRoot_1 (by decide) ?_
  refine hw_cV (As := [.int (nI 32)]) (rest := []) S hI m_Mo_isZero w_814 (c_Mo_isZero l D t0 L _ _ mm mc ml mg mw mr th y sn wt rr 32 hn (by decide)) hm.1 rfl hl.1 rfl rfl (Nat.le_of_ble_eq_true rfl) d_Mo_takeRoot_3 ⟨Nat.le_of_ble_eq_true rfl, Nat.le_of_ble_eq_true rfl⟩ ⟨Nat.le_of_ble_eq_true rfl, Nat.le_of_ble_eq_true rfl⟩ (fun v9 L9 f101 H locs hp hI => ?_)
  refine W.cs (cells' := 0) (slots' := 0) rfl rfl ?_
  obtain ⟨hv9, rfl, rfl⟩ := hp
  cases hv9
  refine hw_stk (st' := [.int (if y 32 = 0 then nI 1 else nI 0)]) rfl ?_
  by_cases h0 : N = 0
  · refine hw_ti (show _ = nI 1 from by rw [k32, if_pos h0]) ?_
    refine hw_if_eq (tgt := 10) hx hb d_Mo_takeRoot_6 (by decide) (by decide) (fun c9 => absurd c9 (by decide)) (fun _ => ?_)
    have hs0 : s9 = 0 := by rw [h0] at q1; rcases Nat.eq_zero_or_pos s9 with e | e; exact e; have := Nat.mul_pos e e; omega
    exact hw_vret hx hb hr hlocks hI d_Mo_takeRoot_9 ⟨rfl, rfl, ⟨_, by rw [K0, ← hs9, hs0]; exact h0, hrow, hn⟩, hF⟩
  · refine hw_ti (show _ = nI 0 from by rw [k32, if_neg h0]) ?_
    refine hw_if_eq (tgt := 10) hx hb d_Mo_takeRoot_6 (by decide) (by decide) (fun _ => ?_) (fun c9 => absurd c9 (by decide))
    have hs1 : 1 ≤ s9 := by rcases Nat.eq_zero_or_pos s9 with e | e; (rw [e] at q2; omega); exact e
    refine lv_aload_n hx hb d_Mo_takeRoot_10 rfl (lv_at hl 0 rfl) ?_
    refine lv_bipush (v := nI 32) hx hb d_Mo_takeRoot_11 (by decide) ?_
    refine hw_cV (As := [.int (nI 32)]) (rest := []) S hI m_Mo_digitsIn w_935 (c_Mo_digitsIn l D t0 L _ _ mm mc ml mg mw mr th y sn wt rr 32 hn (by decide)) hm.1 rfl hl.1 rfl rfl (Nat.le_of_ble_eq_true rfl) d_Mo_takeRoot_13 ⟨Nat.le_of_ble_eq_true rfl, Nat.le_of_ble_eq_true rfl⟩ ⟨Nat.le_of_ble_eq_true rfl, Nat.le_of_ble_eq_true rfl⟩ (fun v9 L9 f102 H locs hp hI => ?_)
    refine W.cs (cells' := 0) (slots' := 0) rfl rfl ?_
    obtain ⟨hv9, rfl, rfl⟩ := hp
    cases hv9
    refine hw_stk (st' := [.int (nI (dl (y 32)))]) rfl ?_
    refine hw_ti (show _ = nI (dl N) from by rw [k32]) ?_
    have hd1 := dl_spec N
    have hd2 : dl N ≤ 260 := dl_le (by rw [← m260]; exact hy) (by decide)
    refine lv_istore_n (lv' := [(1, .int (nI (dl N))), (0, .ref (mm))]) hx hb d_Mo_takeRoot_16 rfl hl (by decide) rfl (fun ls hl => ?_)
    refine lv_aload_n hx hb d_Mo_takeRoot_17 rfl (lv_at hl 1 rfl) ?_
    refine lv_bipush (v := nI 33) hx hb d_Mo_takeRoot_18 (by decide) ?_
    refine lv_lconst (v := lN 1) hx hb d_Mo_takeRoot_20 rfl ?_
    refine hw_cV (As := [.int (nI 33), .long (lN 1)]) (rest := []) S hI m_Mo_setLong w_766 (c_Mo_setLong l D t0 L _ _ mm mc ml mg mw mr th y sn wt rr 33 1 hn (by decide) (by decide)) hm.1 rfl hl.1 rfl rfl (Nat.le_of_ble_eq_true rfl) d_Mo_takeRoot_21 ⟨Nat.le_of_ble_eq_true rfl, Nat.le_of_ble_eq_true rfl⟩ ⟨Nat.le_of_ble_eq_true rfl, Nat.le_of_ble_eq_true rfl⟩ (fun v9 L9 f103 H locs hp hI => ?_)
    refine W.cs (cells' := 0) (slots' := 0) rfl rfl ?_
    obtain ⟨hv9, rfl, hn, hF9⟩ := hp
    cases hv9
    refine hw_stk (st' := []) rfl ?_
    have hF := hF.trans hF9
    obtain ⟨y104, ey⟩ : ∃ z9, z9 = va_up y 33 1 := ⟨_, rfl⟩
    rw [← ey] at hn
    have q33 : y104 33 = 1 := by rw [ey]; rw [hw_up_eq]
    have q32 : y104 32 = N := by rw [ey, hw_up_ne (by decide)]; exact k32
    have k33 := q33
    have k32 := q32
    obtain ⟨cs, ns, hm, hc⟩ := id hn
    have hrow : ∀ k, k < 32 → y104 k = y k := fun k hk => (show y104 k = y k by rw [ey, hw_up_ne (by omega)]).trans (hrow k hk)
    refine lv_aload_n hx hb d_Mo_takeRoot_24 rfl (lv_at hl 1 rfl) ?_
    refine lv_bipush (v := nI 33) hx hb d_Mo_takeRoot_25 (by decide) ?_
    refine lv_iload_n hx hb d_Mo_takeRoot_27 rfl (lv_at hl 0 rfl) ?_
    refine lv_iconst (v := nI 1) hx hb d_Mo_takeRoot_28 (by decide) ?_
    refine lv_iadd hx hb d_Mo_takeRoot_29 ?_
    refine hw_ti (nI_add _ _) ?_
    refine lv_iconst (v := nI 2) hx hb d_Mo_takeRoot_30 (by decide) ?_
    refine lv_idiv hx hb d_Mo_takeRoot_31 (by decide) ?_
    refine hw_ti (pk_div (by omega) (by omega) (by omega)) ?_
    refine hw_cV (As := [.int (nI 33), .int (nI (((dl N) + 1) / 2))]) (rest := []) S hI m_Mo_tens w_914 (c_Mo_tens l D t0 L _ _ mm mc ml mg mw mr th y104 sn wt rr 33 ((dl N + 1) / 2) hn (by decide) (by omega) (by rw [k33, Nat.one_mul]; exact p4 125 (m132 (by omega)) (by decide))) hm.1 rfl hl.1 rfl rfl (Nat.le_of_ble_eq_true rfl) d_Mo_takeRoot_32 ⟨Nat.le_of_ble_eq_true rfl, Nat.le_of_ble_eq_true rfl⟩ ⟨Nat.le_of_ble_eq_true rfl, Nat.le_of_ble_eq_true rfl⟩ (fun v9 L9 f105 H locs hp hI => ?_)
    refine W.cs (cells' := 0) (slots' := 0) rfl rfl ?_
    obtain ⟨hv9, rfl, hn, hF9⟩ := hp
    cases hv9
    refine hw_stk (st' := []) rfl ?_
    have hF := hF.trans hF9
    obtain ⟨y106, ey⟩ : ∃ z9, z9 = va_up y104 33 (y104 33 * 10 ^ ((dl N + 1) / 2)) := ⟨_, rfl⟩
    rw [← ey] at hn
    have q33 : y106 33 = 10 ^ ((dl N + 1) / 2) := by rw [ey]; rw [hw_up_eq, k33, Nat.one_mul]
    have q32 : y106 32 = N := by rw [ey, hw_up_ne (by decide)]; exact k32
    have k33 := q33
    have k32 := q32
    obtain ⟨cs, ns, hm, hc⟩ := id hn
    have hrow : ∀ k, k < 32 → y106 k = y k := fun k hk => (show y106 k = y104 k by rw [ey, hw_up_ne (by omega)]).trans (hrow k hk)
    refine lv_iconst (v := nI 1) hx hb d_Mo_takeRoot_35 (by decide) ?_
    refine lv_istore_n (lv' := [(2, .int (nI 1)), (1, .int (nI (dl N))), (0, .ref (mm))]) hx hb d_Mo_takeRoot_36 rfl hl (by decide) rfl (fun ls hl => ?_)
    have loop : ∀ (g v : Nat) (y1 : Nat → Nat) (f1 : Nat → va_E) (H : Heap) (locs : List Loc) (ls : Array Slot), v ≤ g → y1 32 = N → y1 33 = v → s9 ≤ v → v < 10000 ^ 60 → (∀ k, k < 32 → y1 k = y k) → Mn D L f1 mm mc ml mg mw mr th y1 sn wt rr → Fo mm mc ml mg mw mr f f1 → hw_I D t0 (hw_A L s.heap.size) s L f1 H locs → lv_has ls 5 [(2, .int (nI 1)), (0, .ref (mm))] → W p l e (headSpec (Cond.code y_Mo_takeRoot b_Mo_takeRoot 5 none :: TT) ({ frames := 3, cells := 0, slots := 0, locals := 83 } : Room)).room s m ([.ref (mm)]).toArray below meth c H locs 0 0 (MQ below (hw_Q D L s.heap.size (fun oc L' f' => oc = .returned none ∧ L = L' ∧ (∃ y', y' 32 = isq (y 32) ∧ (∀ k, k < 32 → y' k = y k) ∧ Mn D L f' mm mc ml mg mw mr th y' sn wt rr) ∧ Fo mm mc ml mg mw mr f f')) ([.ref (mm)]).toArray s 0 0 (hw_A L s.heap.size)) (F0 m 37 ls []) := by
      intro g
      induction g with
      | zero =>
        intro v y1 f1 H locs ls hg k32 k33 hsv hvl hrow hn hF hI hl
        obtain ⟨cs, ns, hm, hc⟩ := id hn
        exact absurd hg (by omega)
      | succ g ih =>
        intro v y1 f1 H locs ls hg k32 k33 hsv hvl hrow hn hF hI hl
        obtain ⟨cs, ns, hm, hc⟩ := id hn
        refine lv_iload_n hx hb d_Mo_takeRoot_37 rfl (lv_at hl 0 rfl) ?_
        refine hw_if_eq (tgt := 111) hx hb d_Mo_takeRoot_38 (by decide) (by decide) (fun c9 => absurd c9 (by decide)) (fun _ => ?_)
        have hdl := Nat.div_le_self N v
        refine lv_aload_n hx hb d_Mo_takeRoot_41 rfl (lv_at hl 1 rfl) ?_
        refine lv_bipush (v := nI 35) hx hb d_Mo_takeRoot_42 (by decide) ?_
        refine lv_bipush (v := nI 32) hx hb d_Mo_takeRoot_44 (by decide) ?_
        refine hw_cV (As := [.int (nI 35), .int (nI 32)]) (rest := []) S hI m_Mo_copy w_810 (c_Mo_copy l D t0 L _ _ mm mc ml mg mw mr th y1 sn wt rr 35 32 hn (by decide) (by decide)) hm.1 rfl hl.1 rfl rfl (Nat.le_of_ble_eq_true rfl) d_Mo_takeRoot_46 ⟨Nat.le_of_ble_eq_true rfl, Nat.le_of_ble_eq_true rfl⟩ ⟨Nat.le_of_ble_eq_true rfl, Nat.le_of_ble_eq_true rfl⟩ (fun v9 L9 f107 H locs hp hI => ?_)
        refine W.cs (cells' := 0) (slots' := 0) rfl rfl ?_
        obtain ⟨hv9, rfl, hn, hF9⟩ := hp
        cases hv9
        refine hw_stk (st' := []) rfl ?_
        have hF := hF.trans hF9
        obtain ⟨y108, ey⟩ : ∃ z9, z9 = va_up y1 35 (y1 32) := ⟨_, rfl⟩
        rw [← ey] at hn
        have q35 : y108 35 = N := by rw [ey]; rw [hw_up_eq]; exact k32
        have q32 : y108 32 = N := by rw [ey, hw_up_ne (by decide)]; exact k32
        have q33 : y108 33 = v := by rw [ey, hw_up_ne (by decide)]; exact k33
        have k35 := q35
        have k32 := q32
        have k33 := q33
        obtain ⟨cs, ns, hm, hc⟩ := id hn
        have hrow : ∀ k, k < 32 → y108 k = y k := fun k hk => (show y108 k = y1 k by rw [ey, hw_up_ne (by omega)]).trans (hrow k hk)
        refine lv_aload_n hx hb d_Mo_takeRoot_49 rfl (lv_at hl 1 rfl) ?_
        refine lv_bipush (v := nI 35) hx hb d_Mo_takeRoot_50 (by decide) ?_
        refine lv_bipush (v := nI 33) hx hb d_Mo_takeRoot_52 (by decide) ?_
        refine lv_bipush (v := nI 37) hx hb d_Mo_takeRoot_54 (by decide) ?_
        refine hw_cV (As := [.int (nI 35), .int (nI 33), .int (nI 37)]) (rest := []) S hI m_Mo_part w_818 (c_Mo_part l D t0 L _ _ mm mc ml mg mw mr th y108 sn wt rr 35 33 37 hn (by decide) (by omega) (by decide) (by omega) (by decide) (by omega) (by rw [k33]; omega)) hm.1 rfl hl.1 rfl rfl (Nat.le_of_ble_eq_true rfl) d_Mo_takeRoot_56 ⟨Nat.le_of_ble_eq_true rfl, Nat.le_of_ble_eq_true rfl⟩ ⟨Nat.le_of_ble_eq_true rfl, Nat.le_of_ble_eq_true rfl⟩ (fun v9 L9 f109 H locs hp hI => ?_)
        refine W.cs (cells' := 0) (slots' := 0) rfl rfl ?_
        obtain ⟨hv9, rfl, hn, hF9⟩ := hp
        cases hv9
        refine hw_stk (st' := []) rfl ?_
        have hF := hF.trans hF9
        obtain ⟨y110, ey⟩ : ∃ z9, z9 = va_up (va_up y108 35 (y108 35 % y108 33)) 37 (y108 35 / y108 33) := ⟨_, rfl⟩
        rw [← ey] at hn
        have q35 : y110 35 = N % v := by rw [ey]; rw [hw_up_ne (by decide), hw_up_eq, k35, k33]
        have q37 : y110 37 = N / v := by rw [ey]; rw [hw_up_eq, k35, k33]
        have q32 : y110 32 = N := by rw [ey, hw_up_ne (by decide), hw_up_ne (by decide)]; exact k32
        have q33 : y110 33 = v := by rw [ey, hw_up_ne (by decide), hw_up_ne (by decide)]; exact k33
        have k35 := q35
        have k37 := q37
        have k32 := q32
        have k33 := q33
        obtain ⟨cs, ns, hm, hc⟩ := id hn
        have hrow : ∀ k, k < 32 → y110 k = y k := fun k hk => (show y110 k = y108 k by rw [ey, hw_up_ne (by omega), hw_up_ne (by omega)]).trans (hrow k hk)
        refine lv_aload_n hx hb d_Mo_takeRoot_59 rfl (lv_at hl 1 rfl) ?_
        refine lv_bipush (v := nI 37) hx hb d_Mo_takeRoot_60 (by decide) ?_
        refine lv_bipush (v := nI 37) hx hb d_Mo_takeRoot_62 (by decide) ?_
        refine lv_bipush (v := nI 33) hx hb d_Mo_takeRoot_64 (by decide) ?_
        refine hw_cV (As := [.int (nI 37), .int (nI 37), .int (nI 33)]) (rest := []) S hI m_Mo_plus w_870 (c_Mo_plus l D t0 L _ _ mm mc ml mg mw mr th y110 sn wt rr 37 37 33 hn (by decide) (by decide) (by decide) (by rw [k37]; exact p4 127 (Nat.lt_of_le_of_lt hdl hy) (by decide)) (by rw [k33]; exact p4 127 hvl (by decide))) hm.1 rfl hl.1 rfl rfl (Nat.le_of_ble_eq_true rfl) d_Mo_takeRoot_66 ⟨Nat.le_of_ble_eq_true rfl, Nat.le_of_ble_eq_true rfl⟩ ⟨Nat.le_of_ble_eq_true rfl, Nat.le_of_ble_eq_true rfl⟩ (fun v9 L9 f111 H locs hp hI => ?_)
        refine W.cs (cells' := 0) (slots' := 0) rfl rfl ?_
        obtain ⟨hv9, rfl, hn, hF9⟩ := hp
        cases hv9
        refine hw_stk (st' := []) rfl ?_
        have hF := hF.trans hF9
        obtain ⟨y112, ey⟩ : ∃ z9, z9 = va_up y110 37 (y110 37 + y110 33) := ⟨_, rfl⟩
        rw [← ey] at hn
        have q37 : y112 37 = N / v + v := by rw [ey]; rw [hw_up_eq, k37, k33]
        have q35 : y112 35 = N % v := by rw [ey, hw_up_ne (by decide)]; exact k35
        have q32 : y112 32 = N := by rw [ey, hw_up_ne (by decide)]; exact k32
        have q33 : y112 33 = v := by rw [ey, hw_up_ne (by decide)]; exact k33
        have k37 := q37
        have k35 := q35
        have k32 := q32
        have k33 := q33
        obtain ⟨cs, ns, hm, hc⟩ := id hn
        have hrow : ∀ k, k < 32 → y112 k = y k := fun k hk => (show y112 k = y110 k by rw [ey, hw_up_ne (by omega)]).trans (hrow k hk)
        refine lv_aload_n hx hb d_Mo_takeRoot_69 rfl (lv_at hl 1 rfl) ?_
        refine lv_bipush (v := nI 37) hx hb d_Mo_takeRoot_70 (by decide) ?_
        refine hw_ldc2 (v := lN 2) hx hb hown (hT _ w_913) d_Mo_takeRoot_72 ?_
        refine hw_cV (As := [.int (nI 37), .long (lN 2)]) (rest := []) S hI m_Mo_by w_904 (c_Mo_by l D t0 L _ _ mm mc ml mg mw mr th y112 sn wt rr 37 2 hn (by decide) (by decide) (by decide)) hm.1 rfl hl.1 rfl rfl (Nat.le_of_ble_eq_true rfl) d_Mo_takeRoot_75 ⟨Nat.le_of_ble_eq_true rfl, Nat.le_of_ble_eq_true rfl⟩ ⟨Nat.le_of_ble_eq_true rfl, Nat.le_of_ble_eq_true rfl⟩ (fun v9 L9 f113 H locs hp hI => ?_)
        refine W.cs (cells' := 0) (slots' := 0) rfl rfl ?_
        obtain ⟨hv9, rfl, hn, hF9⟩ := hp
        cases hv9
        refine hw_stk (st' := [.long (lN (y112 37 % 2))]) rfl ?_
        have hF := hF.trans hF9
        obtain ⟨y114, ey⟩ : ∃ z9, z9 = va_up y112 37 (y112 37 / 2) := ⟨_, rfl⟩
        rw [← ey] at hn
        have q37 : y114 37 = (N / v + v) / 2 := by rw [ey]; rw [hw_up_eq, k37]
        have q35 : y114 35 = N % v := by rw [ey, hw_up_ne (by decide)]; exact k35
        have q32 : y114 32 = N := by rw [ey, hw_up_ne (by decide)]; exact k32
        have q33 : y114 33 = v := by rw [ey, hw_up_ne (by decide)]; exact k33
        have k37 := q37
        have k35 := q35
        have k32 := q32
        have k33 := q33
        obtain ⟨cs, ns, hm, hc⟩ := id hn
        have hrow : ∀ k, k < 32 → y114 k = y k := fun k hk => (show y114 k = y112 k by rw [ey, hw_up_ne (by omega)]).trans (hrow k hk)
        refine lv_lstore_n (lv' := [(3, .long (lN (y112 37 % 2))), (2, .int (nI 1)), (0, .ref (mm))]) hx hb d_Mo_takeRoot_78 rfl hl (by decide) rfl (fun ls hl => ?_)
        refine lv_aload_n hx hb d_Mo_takeRoot_79 rfl (lv_at hl 2 rfl) ?_
        refine lv_bipush (v := nI 37) hx hb d_Mo_takeRoot_80 (by decide) ?_
        refine lv_bipush (v := nI 33) hx hb d_Mo_takeRoot_82 (by decide) ?_
        refine hw_cV (As := [.int (nI 37), .int (nI 33)]) (rest := []) S hI m_Mo_order w_874 (c_Mo_order l D t0 L _ _ mm mc ml mg mw mr th y114 sn wt rr 37 33 hn (by decide) (by decide)) hm.1 rfl hl.1 rfl rfl (Nat.le_of_ble_eq_true rfl) d_Mo_takeRoot_84 ⟨Nat.le_of_ble_eq_true rfl, Nat.le_of_ble_eq_true rfl⟩ ⟨Nat.le_of_ble_eq_true rfl, Nat.le_of_ble_eq_true rfl⟩ (fun v9 L9 f115 H locs hp hI => ?_)
        refine W.cs (cells' := 0) (slots' := 0) rfl rfl ?_
        obtain ⟨hv9, rfl, rfl⟩ := hp
        cases hv9
        refine hw_stk (st' := [.int (cmpN (y114 37) (y114 33))]) rfl ?_
        refine hw_ti (show _ = cmpN ((N / v + v) / 2) v from by rw [k37, k33]) ?_
        refine lv_if_ge (tgt := 94) hx hb d_Mo_takeRoot_87 (by decide) (fun c116 => ?_) (fun c116 => ?_)
        · have hge : v ≤ (N / v + v) / 2 := Nat.not_lt.mp (fun h => absurd (cmpN_neg.mpr h) (Int32.not_lt.mpr c116))
          have hend : v = s9 := nw_end q1 q2 hsv (by omega) hge
          refine lv_iconst (v := nI 0) hx hb d_Mo_takeRoot_94 (by decide) ?_
          refine lv_istore_n (lv' := [(2, .int (nI 0)), (3, .long (lN (y112 37 % 2))), (0, .ref (mm))]) hx hb d_Mo_takeRoot_95 rfl hl (by decide) rfl (fun ls hl => ?_)
          refine lv_iload_n hx hb d_Mo_takeRoot_96 rfl (lv_at hl 0 rfl) ?_
          refine hw_if_eq (tgt := 108) hx hb d_Mo_takeRoot_97 (by decide) (by decide) (fun _ => ?_) (fun c9 => absurd c9 (by decide))
          refine lv_goto (tgt := 37) hx hb d_Mo_takeRoot_108 (by decide) ?_
          refine lv_iload_n hx hb d_Mo_takeRoot_37 rfl (lv_at hl 0 rfl) ?_
          refine hw_if_eq (tgt := 111) hx hb d_Mo_takeRoot_38 (by decide) (by decide) (fun _ => ?_) (fun c9 => absurd c9 (by decide))
          refine lv_aload_n hx hb d_Mo_takeRoot_111 rfl (lv_at hl 2 rfl) ?_
          refine lv_bipush (v := nI 32) hx hb d_Mo_takeRoot_112 (by decide) ?_
          refine lv_bipush (v := nI 33) hx hb d_Mo_takeRoot_114 (by decide) ?_
          refine hw_cV (As := [.int (nI 32), .int (nI 33)]) (rest := []) S hI m_Mo_copy w_810 (c_Mo_copy l D t0 L _ _ mm mc ml mg mw mr th y114 sn wt rr 32 33 hn (by decide) (by decide)) hm.1 rfl hl.1 rfl rfl (Nat.le_of_ble_eq_true rfl) d_Mo_takeRoot_116 ⟨Nat.le_of_ble_eq_true rfl, Nat.le_of_ble_eq_true rfl⟩ ⟨Nat.le_of_ble_eq_true rfl, Nat.le_of_ble_eq_true rfl⟩ (fun v9 L9 f117 H locs hp hI => ?_)
          refine W.cs (cells' := 0) (slots' := 0) rfl rfl ?_
          obtain ⟨hv9, rfl, hn, hF9⟩ := hp
          cases hv9
          refine hw_stk (st' := []) rfl ?_
          have hF := hF.trans hF9
          obtain ⟨y118, ey⟩ : ∃ z9, z9 = va_up y114 32 (y114 33) := ⟨_, rfl⟩
          rw [← ey] at hn
          have q32 : y118 32 = v := by rw [ey]; rw [hw_up_eq]; exact k33
          have q37 : y118 37 = (N / v + v) / 2 := by rw [ey, hw_up_ne (by decide)]; exact k37
          have q35 : y118 35 = N % v := by rw [ey, hw_up_ne (by decide)]; exact k35
          have q33 : y118 33 = v := by rw [ey, hw_up_ne (by decide)]; exact k33
          have k32 := q32
          have k37 := q37
          have k35 := q35
          have k33 := q33
          obtain ⟨cs, ns, hm, hc⟩ := id hn
          have hrow : ∀ k, k < 32 → y118 k = y k := fun k hk => (show y118 k = y114 k by rw [ey, hw_up_ne (by omega)]).trans (hrow k hk)
          exact hw_vret hx hb hr hlocks hI d_Mo_takeRoot_119 ⟨rfl, rfl, ⟨_, by rw [k32, K0, hend, hs9], hrow, hn⟩, hF⟩
        · have hlt : (N / v + v) / 2 < v := cmpN_neg.mp (Int32.not_le.mp c116)
          have hge := nw_ge (g := v) q1 (by omega)
          refine lv_iconst (v := nI 1) hx hb d_Mo_takeRoot_90 (by decide) ?_
          refine lv_goto (tgt := 95) hx hb d_Mo_takeRoot_91 (by decide) ?_
          refine lv_istore_n (lv' := [(2, .int (nI 1)), (3, .long (lN (y112 37 % 2))), (0, .ref (mm))]) hx hb d_Mo_takeRoot_95 rfl hl (by decide) rfl (fun ls hl => ?_)
          refine lv_iload_n hx hb d_Mo_takeRoot_96 rfl (lv_at hl 0 rfl) ?_
          refine hw_if_eq (tgt := 108) hx hb d_Mo_takeRoot_97 (by decide) (by decide) (fun c9 => absurd c9 (by decide)) (fun _ => ?_)
          refine lv_aload_n hx hb d_Mo_takeRoot_100 rfl (lv_at hl 2 rfl) ?_
          refine lv_bipush (v := nI 33) hx hb d_Mo_takeRoot_101 (by decide) ?_
          refine lv_bipush (v := nI 37) hx hb d_Mo_takeRoot_103 (by decide) ?_
          refine hw_cV (As := [.int (nI 33), .int (nI 37)]) (rest := []) S hI m_Mo_copy w_810 (c_Mo_copy l D t0 L _ _ mm mc ml mg mw mr th y114 sn wt rr 33 37 hn (by decide) (by decide)) hm.1 rfl hl.1 rfl rfl (Nat.le_of_ble_eq_true rfl) d_Mo_takeRoot_105 ⟨Nat.le_of_ble_eq_true rfl, Nat.le_of_ble_eq_true rfl⟩ ⟨Nat.le_of_ble_eq_true rfl, Nat.le_of_ble_eq_true rfl⟩ (fun v9 L9 f119 H locs hp hI => ?_)
          refine W.cs (cells' := 0) (slots' := 0) rfl rfl ?_
          obtain ⟨hv9, rfl, hn, hF9⟩ := hp
          cases hv9
          refine hw_stk (st' := []) rfl ?_
          have hF := hF.trans hF9
          obtain ⟨y120, ey⟩ : ∃ z9, z9 = va_up y114 33 (y114 37) := ⟨_, rfl⟩
          rw [← ey] at hn
          have q33 : y120 33 = (N / v + v) / 2 := by rw [ey]; rw [hw_up_eq]; exact k37
          have q37 : y120 37 = (N / v + v) / 2 := by rw [ey, hw_up_ne (by decide)]; exact k37
          have q35 : y120 35 = N % v := by rw [ey, hw_up_ne (by decide)]; exact k35
          have q32 : y120 32 = N := by rw [ey, hw_up_ne (by decide)]; exact k32
          have k33 := q33
          have k37 := q37
          have k35 := q35
          have k32 := q32
          obtain ⟨cs, ns, hm, hc⟩ := id hn
          have hrow : ∀ k, k < 32 → y120 k = y k := fun k hk => (show y120 k = y114 k by rw [ey, hw_up_ne (by omega)]).trans (hrow k hk)
          refine lv_goto (tgt := 37) hx hb d_Mo_takeRoot_108 (by decide) ?_
          exact ih _ _ _ _ _ _ (by omega) k32 k33 hge (by omega) hrow hn hF hI (lv_sub hl [0, 2] rfl)
    exact loop _ _ _ _ _ _ _ (Nat.le_refl _) k32 k33 (rt_start hd1.2.1 q1) (m132 (by omega)) hrow hn hF hI (lv_sub hl [0, 2] rfl)
set_option maxHeartbeats 4000000 in
set_option maxRecDepth 100000 in
theorem c_Mo_root (l : Launch) (D : va_G) (t0 : Nat) (L : List Nat) (f : Nat → va_E) (sz : Nat) (mm mc ml mg mw mr : Nat) (th : Int32) (σ : Sg) (wt : Nat → Nat) (r0 a0 d0 : Int32) (hM : Mg D L f mm mc ml mg mw mr th σ wt) (hok : Ok σ wt) : Met l y_Mo_root (Cond.code y_Mo_root b_Mo_root 4 none :: TT) ({ frames := 6, cells := 0, slots := 0, locals := 154 } : Room) (hw_Pc t0 [.ref (mm), .int (r0), .int (a0), .int (d0)] D L f sz) (hw_Q D L sz (fun oc L' f' => oc = .returned none ∧ L = L' ∧ Mg D L f' mm mc ml mg mw mr (nI (opRoot σ r0 a0 d0).1) (opRoot σ r0 a0 d0).2 wt ∧ Fo mm mc ml mg mw mr f f')) 0 0 (hw_A L sz) := by
  refine Met.ofW (cc := b_Mo_root) (maxL := 4) (ret := none) (by decide) rfl ?_
  intro p e s m args below meth c s₁ B hml hv
  obtain ⟨rfl, rfl, hI⟩ := hw_start hv
  clear hv
  have hx := B.exec
  have hb := B.bytes
  have hr := B.returns
  have hlocks := B.notSynchronized
  have hown : s.vm.findClass "WallFractionsModel" = some m.cls := findClass_of_methodNamed B.named
  have hT : ∀ w ∈ TT, w.before ([.ref (mm), .int (r0), .int (a0), .int (d0)]).toArray s = true := fun w h => atoms_spec (ws := (Cond.code y_Mo_root b_Mo_root 4 none :: TT)) B.pre w (List.mem_cons_of_mem _ h)
  have S : CallFix p m c b_Mo_root 4 s ([.ref (mm), .int (r0), .int (a0), .int (d0)]).toArray TT "WallFractionsModel" := ⟨hx, hb, hml, hown, hT⟩
  have hl := lv_entry ([.ref (mm), .int (r0), .int (a0), .int (d0)]) (n := 4) (Nat.le_of_ble_eq_true rfl)
  rw [lg_entry_eq]
  generalize (lg_sl ([.ref (mm), .int (r0), .int (a0), .int (d0)]) ++ List.replicate (4 - (lg_sl ([.ref (mm), .int (r0), .int (a0), .int (d0)])).length) Slot.unset).toArray = ls at hl ⊢
  have hl : lv_has ls 4 [(0, .ref (mm)), (1, .int (r0)), (2, .int (a0)), (3, .int (d0))] := hl
  skip
  obtain ⟨y, sn, rr, hn, hR⟩ := hM
  have hF : Fo mm mc ml mg mw mr f f := Fo.refl
  obtain ⟨cs, ns, hm, hc⟩ := id hn
  refine lv_aload_n hx hb d_Mo_root_0 rfl (lv_at hl 0 rfl) ?_
  refine lv_iload_n hx hb d_Mo_root_1 rfl (lv_at hl 1 rfl) ?_
  by_cases hr0 : vr r0 = true
  · refine hw_cS (As := [.int (r0)]) (rest := [.ref (mm)]) S hI m_Mo_isRegister w_799 (c_Mo_isRegister l D t0 L _ _ r0) hl.1 rfl rfl (Nat.le_of_ble_eq_true rfl) d_Mo_root_2 ⟨Nat.le_of_ble_eq_true rfl, Nat.le_of_ble_eq_true rfl⟩ ⟨Nat.le_of_ble_eq_true rfl, Nat.le_of_ble_eq_true rfl⟩ (fun v9 L9 f122 H locs hp hI => ?_)
    refine W.cs (cells' := 0) (slots' := 0) rfl rfl ?_
    obtain ⟨hv9, rfl, rfl⟩ := hp
    cases hv9
    refine hw_stk (st' := [.int (if vr r0 = true then nI 1 else nI 0), .ref (mm)]) rfl ?_
    refine hw_ti (show _ = nI 1 from by rw [if_pos hr0]) ?_
    refine hw_if_eq (tgt := 27) hx hb d_Mo_root_5 (by decide) (by decide) (fun c9 => absurd c9 (by decide)) (fun _ => ?_)
    refine lv_iload_n hx hb d_Mo_root_8 rfl (lv_at hl 2 rfl) ?_
    by_cases ha0 : vr a0 = true
    · refine hw_cS (As := [.int (a0)]) (rest := [.ref (mm)]) S hI m_Mo_isRegister w_799 (c_Mo_isRegister l D t0 L _ _ a0) hl.1 rfl rfl (Nat.le_of_ble_eq_true rfl) d_Mo_root_9 ⟨Nat.le_of_ble_eq_true rfl, Nat.le_of_ble_eq_true rfl⟩ ⟨Nat.le_of_ble_eq_true rfl, Nat.le_of_ble_eq_true rfl⟩ (fun v9 L9 f125 H locs hp hI => ?_)
      refine W.cs (cells' := 0) (slots' := 0) rfl rfl ?_
      obtain ⟨hv9, rfl, rfl⟩ := hp
      cases hv9
      refine hw_stk (st' := [.int (if vr a0 = true then nI 1 else nI 0), .ref (mm)]) rfl ?_
      refine hw_ti (show _ = nI 1 from by rw [if_pos ha0]) ?_
      refine hw_if_eq (tgt := 27) hx hb d_Mo_root_12 (by decide) (by decide) (fun c9 => absurd c9 (by decide)) (fun _ => ?_)
      refine lv_iload_n hx hb d_Mo_root_15 rfl (lv_at hl 3 rfl) ?_
      refine lv_i2l hx hb d_Mo_root_16 rfl ?_
      refine lv_lconst (v := lN 0) hx hb d_Mo_root_17 rfl ?_
      refine hw_ldc2 (v := lN 40) hx hb hown (hT _ w_912) d_Mo_root_18 ?_
      by_cases hd0 : inR d0 0 40 = true
      · refine hw_cS (As := [.long ((d0).toInt64), .long (lN 0), .long (lN 40)]) (rest := [.ref (mm)]) S hI m_Mo_in w_843 (c_Mo_in l D t0 L _ _ d0 0 40 (by omega) (by omega)) hl.1 rfl rfl (Nat.le_of_ble_eq_true rfl) d_Mo_root_21 ⟨Nat.le_of_ble_eq_true rfl, Nat.le_of_ble_eq_true rfl⟩ ⟨Nat.le_of_ble_eq_true rfl, Nat.le_of_ble_eq_true rfl⟩ (fun v9 L9 f128 H locs hp hI => ?_)
        refine W.cs (cells' := 0) (slots' := 0) rfl rfl ?_
        obtain ⟨hv9, rfl, rfl⟩ := hp
        cases hv9
        refine hw_stk (st' := [.int (if inR d0 0 40 = true then nI 1 else nI 0), .ref (mm)]) rfl ?_
        refine hw_ti (show _ = nI 1 from by rw [if_pos hd0]) ?_
        refine hw_if_ne (tgt := 31) hx hb d_Mo_root_24 (by decide) (by decide) (fun _ => ?_) (fun c9 => absurd c9 (by decide))
        have hv : (vr r0 && vr a0 && inR d0 0 40) = true := by simp [hr0, ha0, hd0]
        obtain ⟨r, hr9, rfl⟩ := vr_nat hr0
        obtain ⟨a, ha9, rfl⟩ := vr_nat ha0
        obtain ⟨d, _, hd9, rfl⟩ := inR_nat hd0 (by decide) (by decide)
        have oka := hok.1 a ha9
        have lta := oka.lt4
        have hng := sgI_neg oka.2.2.2.2
        refine lv_aload_n hx hb d_Mo_root_31 rfl (lv_at hl 0 rfl) ?_
        refine ob_get S hI hm.1 (C := R_Mo) (T := F_Mo) (N := 6) (ref := "WallFractionsModel") rfl i_Mo 3 (by decide) rfl w_774 rfl d_Mo_root_32 ?_
        refine lv_iload_n hx hb d_Mo_root_35 rfl (lv_at hl 2 rfl) ?_
        refine ia_ldR S hI hm.2.2.2.1 (by decide) (by omega) d_Mo_root_36 ?_
        refine hw_ti (show _ = sgI (σ a) from (hR a ha9).2.2) ?_
        refine lv_if_ge (tgt := 44) hx hb d_Mo_root_37 (by decide) (fun c130 => ?_) (fun c130 => ?_)
        · have hs9 : (σ a).2.2 = false := by cases e9 : (σ a).2.2; rfl; exact absurd (hng.mpr e9) (Int32.not_lt.mpr c130)
          refine lv_iconst (v := nI 0) hx hb d_Mo_root_44 (by decide) ?_
          refine ob_put S hI hm.1 (fs' := [.int (nI 0), .ref (mc), .ref (ml), .ref (mg), .ref (mw), .ref (mr)]) (C := R_Mo) (T := F_Mo) (N := 6) (ref := "WallFractionsModel") rfl i_Mo t_Mo t_Mo_ok n_Mo 0 (by decide) rfl w_771 rfl rfl rfl (by simp only [List.length]; decide) rfl d_Mo_root_45 (fun f132 H locs hI hO9 hf132 => ?_)
          have hm := hm.umm hf132 hO9
          have hF := hF.umm hf132
          have hn := (⟨_, _, hm, hc⟩ : Mn D L _ mm mc ml mg mw mr _ _ _ _ _)
          refine lv_aload_n hx hb d_Mo_root_48 rfl (lv_at hl 0 rfl) ?_
          refine ob_get S hI hm.1 (C := R_Mo) (T := F_Mo) (N := 6) (ref := "WallFractionsModel") rfl i_Mo 0 (by decide) rfl w_771 rfl d_Mo_root_49 ?_
          refine hw_if_le (tgt := 56) hx hb d_Mo_root_52 (by decide) (by decide) (fun _ => ?_) (fun c9 => absurd c9 (by decide))
          obtain ⟨N, hN⟩ : ∃ z9, z9 = (σ a).1 * 10 ^ (2 * d) := ⟨_, rfl⟩
          obtain ⟨Bd, hB⟩ : ∃ z9, z9 = (σ a).2.1 := ⟨_, rfl⟩
          have hNl : N < 10000 ^ 65 := by rw [hN]; exact ten40 lta.1 (by omega)
          have hB0 : 0 < Bd := by rw [hB]; exact oka.2.2.1
          refine lv_aload_n hx hb d_Mo_root_56 rfl (lv_at hl 0 rfl) ?_
          refine lv_bipush (v := nI 32) hx hb d_Mo_root_57 (by decide) ?_
          refine lv_iload_n hx hb d_Mo_root_59 rfl (lv_at hl 2 rfl) ?_
          refine hw_cV (As := [.int (nI 32), .int (nI a)]) (rest := []) S hI m_Mo_copy w_810 (c_Mo_copy l D t0 L _ _ mm mc ml mg mw mr (nI 0) y sn wt rr 32 a hn (by decide) (by omega)) hm.1 rfl hl.1 rfl rfl (Nat.le_of_ble_eq_true rfl) d_Mo_root_60 ⟨Nat.le_of_ble_eq_true rfl, Nat.le_of_ble_eq_true rfl⟩ ⟨Nat.le_of_ble_eq_true rfl, Nat.le_of_ble_eq_true rfl⟩ (fun v9 L9 f133 H locs hp hI => ?_)
          refine W.cs (cells' := 0) (slots' := 0) rfl rfl ?_
          obtain ⟨hv9, rfl, hn, hF9⟩ := hp
          cases hv9
          refine hw_stk (st' := []) rfl ?_
          have hF := hF.trans hF9
          obtain ⟨y134, ey⟩ : ∃ z9, z9 = va_up y 32 (y a) := ⟨_, rfl⟩
          rw [← ey] at hn
          have q32 : y134 32 = (σ a).1 := by rw [ey]; rw [hw_up_eq]; exact (hR a ha9).1
          have k32 := q32
          have hR : RM σ y134 sn := by rw [ey]; exact hR.up (by decide)
          obtain ⟨cs, ns, hm, hc⟩ := id hn
          refine lv_aload_n hx hb d_Mo_root_63 rfl (lv_at hl 0 rfl) ?_
          refine lv_bipush (v := nI 32) hx hb d_Mo_root_64 (by decide) ?_
          refine lv_iconst (v := nI 2) hx hb d_Mo_root_66 (by decide) ?_
          refine lv_iload_n hx hb d_Mo_root_67 rfl (lv_at hl 3 rfl) ?_
          refine lv_imul hx hb d_Mo_root_68 ?_
          refine hw_ti (pk_mul _ _) ?_
          refine hw_cV (As := [.int (nI 32), .int (nI (2 * d))]) (rest := []) S hI m_Mo_tens w_914 (c_Mo_tens l D t0 L _ _ mm mc ml mg mw mr (nI 0) y134 sn wt rr 32 (2 * d) hn (by decide) (by omega) (by rw [k32]; exact p4 125 (ten40 lta.1 (by omega)) (by decide))) hm.1 rfl hl.1 rfl rfl (Nat.le_of_ble_eq_true rfl) d_Mo_root_69 ⟨Nat.le_of_ble_eq_true rfl, Nat.le_of_ble_eq_true rfl⟩ ⟨Nat.le_of_ble_eq_true rfl, Nat.le_of_ble_eq_true rfl⟩ (fun v9 L9 f135 H locs hp hI => ?_)
          refine W.cs (cells' := 0) (slots' := 0) rfl rfl ?_
          obtain ⟨hv9, rfl, hn, hF9⟩ := hp
          cases hv9
          refine hw_stk (st' := []) rfl ?_
          have hF := hF.trans hF9
          obtain ⟨y136, ey⟩ : ∃ z9, z9 = va_up y134 32 (y134 32 * 10 ^ (2 * d)) := ⟨_, rfl⟩
          rw [← ey] at hn
          have q32 : y136 32 = N := by rw [ey]; rw [hw_up_eq, k32, hN]
          have k32 := q32
          have hR : RM σ y136 sn := by rw [ey]; exact hR.up (by decide)
          obtain ⟨cs, ns, hm, hc⟩ := id hn
          refine lv_aload_n hx hb d_Mo_root_72 rfl (lv_at hl 0 rfl) ?_
          refine lv_bipush (v := nI 34) hx hb d_Mo_root_73 (by decide) ?_
          refine lv_bipush (v := nI 16) hx hb d_Mo_root_75 (by decide) ?_
          refine lv_iload_n hx hb d_Mo_root_77 rfl (lv_at hl 2 rfl) ?_
          refine lv_iadd hx hb d_Mo_root_78 ?_
          refine hw_ti (nI_add _ _) ?_
          refine hw_cV (As := [.int (nI 34), .int (nI (16 + a))]) (rest := []) S hI m_Mo_copy w_810 (c_Mo_copy l D t0 L _ _ mm mc ml mg mw mr (nI 0) y136 sn wt rr 34 (16 + a) hn (by decide) (by omega)) hm.1 rfl hl.1 rfl rfl (Nat.le_of_ble_eq_true rfl) d_Mo_root_79 ⟨Nat.le_of_ble_eq_true rfl, Nat.le_of_ble_eq_true rfl⟩ ⟨Nat.le_of_ble_eq_true rfl, Nat.le_of_ble_eq_true rfl⟩ (fun v9 L9 f137 H locs hp hI => ?_)
          refine W.cs (cells' := 0) (slots' := 0) rfl rfl ?_
          obtain ⟨hv9, rfl, hn, hF9⟩ := hp
          cases hv9
          refine hw_stk (st' := []) rfl ?_
          have hF := hF.trans hF9
          obtain ⟨y138, ey⟩ : ∃ z9, z9 = va_up y136 34 (y136 (16 + a)) := ⟨_, rfl⟩
          rw [← ey] at hn
          have q34 : y138 34 = Bd := by rw [ey]; rw [hw_up_eq]; exact (hR a ha9).2.1.trans hB.symm
          have q32 : y138 32 = N := by rw [ey, hw_up_ne (by decide)]; exact k32
          have k34 := q34
          have k32 := q32
          have hR : RM σ y138 sn := by rw [ey]; exact hR.up (by decide)
          obtain ⟨cs, ns, hm, hc⟩ := id hn
          refine lv_aload_n hx hb d_Mo_root_82 rfl (lv_at hl 0 rfl) ?_
          refine lv_iconst (v := nI 1) hx hb d_Mo_root_83 (by decide) ?_
          refine lv_iconst (v := nI 0) hx hb d_Mo_root_84 (by decide) ?_
          refine hw_cV (As := [.int (nI 1), .int (nI 0)]) (rest := []) S hI m_Mo_floor w_919 (c_Mo_floor l D t0 L _ _ mm mc ml mg mw mr (nI 0) y138 sn wt rr (nI 1) 0 hn (by decide) (by rw [k34]; exact hB0) (by rw [k32]; exact p4 120 hNl (by decide))) hm.1 rfl hl.1 rfl rfl (Nat.le_of_ble_eq_true rfl) d_Mo_root_85 ⟨Nat.le_of_ble_eq_true rfl, Nat.le_of_ble_eq_true rfl⟩ ⟨Nat.le_of_ble_eq_true rfl, Nat.le_of_ble_eq_true rfl⟩ (fun v9 L9 f139 H locs hp hI => ?_)
          refine W.cs (cells' := 0) (slots' := 0) rfl rfl ?_
          obtain ⟨hv9, rfl, ⟨y8, e32, hrow, hn⟩, hF9⟩ := hp
          cases hv9
          refine hw_stk (st' := []) rfl ?_
          have hF := hF.trans hF9
          rw [k32, k34] at e32
          have hR : RM σ y8 sn := hR.of hrow
          obtain ⟨cs, ns, hm, hc⟩ := id hn
          rw [if_neg (fun h => absurd h.1 (by decide)), Nat.add_zero] at e32
          refine lv_aload_n hx hb d_Mo_root_88 rfl (lv_at hl 0 rfl) ?_
          refine hw_cV (As := []) (rest := []) S hI m_Mo_takeRoot w_931 (c_Mo_takeRoot l D t0 L _ _ mm mc ml mg mw mr (nI 0) y8 sn wt rr hn (by rw [e32]; exact Nat.lt_of_le_of_lt (Nat.div_le_self _ _) hNl)) hm.1 rfl hl.1 rfl rfl (Nat.le_of_ble_eq_true rfl) d_Mo_root_89 ⟨Nat.le_of_ble_eq_true rfl, Nat.le_of_ble_eq_true rfl⟩ ⟨Nat.le_of_ble_eq_true rfl, Nat.le_of_ble_eq_true rfl⟩ (fun v9 L9 f140 H locs hp hI => ?_)
          refine W.cs (cells' := 0) (slots' := 0) rfl rfl ?_
          obtain ⟨hv9, rfl, ⟨y7, e7, hrow, hn⟩, hF9⟩ := hp
          cases hv9
          refine hw_stk (st' := []) rfl ?_
          have hF := hF.trans hF9
          rw [e32] at e7
          have hR : RM σ y7 sn := hR.of hrow
          obtain ⟨y8, ey8⟩ : ∃ z9, z9 = y7 := ⟨_, rfl⟩
          rw [← ey8] at e7 hR hn
          obtain ⟨cs, ns, hm, hc⟩ := id hn
          have k32 : y8 32 = isq (N / Bd) := e7
          refine lv_aload_n hx hb d_Mo_root_92 rfl (lv_at hl 0 rfl) ?_
          refine lv_aload_n hx hb d_Mo_root_93 rfl (lv_at hl 0 rfl) ?_
          refine lv_iload_n hx hb d_Mo_root_94 rfl (lv_at hl 1 rfl) ?_
          refine lv_iconst (v := nI 1) hx hb d_Mo_root_95 (by decide) ?_
          refine lv_iload_n hx hb d_Mo_root_96 rfl (lv_at hl 3 rfl) ?_
          refine hw_cV (As := [.int (nI r), .int (nI 1), .int (nI d)]) (rest := [.ref (mm)]) S hI m_Mo_units w_923 (c_Mo_units l D t0 L _ _ mm mc ml mg mw mr (nI 0) y8 sn wt rr σ r (nI 1) d false hn hR hr9 (by omega) (by rw [k32]; exact (fun _ => rfl))) hm.1 rfl hl.1 rfl rfl (Nat.le_of_ble_eq_true rfl) d_Mo_root_97 ⟨Nat.le_of_ble_eq_true rfl, Nat.le_of_ble_eq_true rfl⟩ ⟨Nat.le_of_ble_eq_true rfl, Nat.le_of_ble_eq_true rfl⟩ (fun v9 L9 f141 H locs hp hI => ?_)
          refine W.cs (cells' := 0) (slots' := 0) rfl rfl ?_
          obtain ⟨hv9, rfl, ⟨y9, sn9, hn, hR⟩, hF9⟩ := hp
          cases hv9
          refine hw_stk (st' := [.int (if fitR (lows (y8 32) (10 ^ d) false) = true then nI 1 else nI 0), .ref (mm)]) rfl ?_
          have hF := hF.trans hF9
          rw [k32] at hR
          obtain ⟨cs, ns, hm, hc⟩ := id hn
          by_cases hfit : fitR (lows (isq (N / Bd)) (10 ^ d) false) = true
          · refine hw_ti (show _ = nI 1 from by rw [k32, if_pos hfit]) ?_
            rw [if_pos hfit] at hR
            refine hw_if_eq (tgt := 107) hx hb d_Mo_root_100 (by decide) (by decide) (fun c9 => absurd c9 (by decide)) (fun _ => ?_)
            refine lv_iconst (v := nI 0) hx hb d_Mo_root_103 (by decide) ?_
            refine lv_goto (tgt := 108) hx hb d_Mo_root_104 (by decide) ?_
            refine ob_put S hI hm.1 (fs' := [.int (nI 0), .ref (mc), .ref (ml), .ref (mg), .ref (mw), .ref (mr)]) (C := R_Mo) (T := F_Mo) (N := 6) (ref := "WallFractionsModel") rfl i_Mo t_Mo t_Mo_ok n_Mo 0 (by decide) rfl w_771 rfl rfl rfl (by simp only [List.length]; decide) rfl d_Mo_root_108 (fun f142 H locs hI hO9 hf142 => ?_)
            have hm := hm.umm hf142 hO9
            have hF := hF.umm hf142
            have hn := (⟨_, _, hm, hc⟩ : Mn D L _ mm mc ml mg mw mr _ _ _ _ _)
            exact hw_vret hx hb hr hlocks hI d_Mo_root_111 ⟨rfl, rfl, by rw [show opRoot σ (nI r) (nI a) (nI d) = (0, va_up σ r (lows (isq (N / Bd)) (10 ^ d) false)) from by unfold opRoot; rw [if_pos hv, if_neg (by rw [ix_nI (by omega), hs9]; decide), putR_eq, ix_nI (by omega), ix_nI (by omega), nI_clamp (by omega), ← hN, ← hB, if_pos hfit]]; exact ⟨_, _, _, hn, hR⟩, hF⟩
          · refine hw_ti (show _ = nI 0 from by rw [k32, if_neg hfit]) ?_
            rw [if_neg hfit] at hR
            refine hw_if_eq (tgt := 107) hx hb d_Mo_root_100 (by decide) (by decide) (fun _ => ?_) (fun c9 => absurd c9 (by decide))
            refine lv_iconst (v := nI 3) hx hb d_Mo_root_107 (by decide) ?_
            refine ob_put S hI hm.1 (fs' := [.int (nI 3), .ref (mc), .ref (ml), .ref (mg), .ref (mw), .ref (mr)]) (C := R_Mo) (T := F_Mo) (N := 6) (ref := "WallFractionsModel") rfl i_Mo t_Mo t_Mo_ok n_Mo 0 (by decide) rfl w_771 rfl rfl rfl (by simp only [List.length]; decide) rfl d_Mo_root_108 (fun f143 H locs hI hO9 hf143 => ?_)
            have hm := hm.umm hf143 hO9
            have hF := hF.umm hf143
            have hn := (⟨_, _, hm, hc⟩ : Mn D L _ mm mc ml mg mw mr _ _ _ _ _)
            exact hw_vret hx hb hr hlocks hI d_Mo_root_111 ⟨rfl, rfl, by rw [show opRoot σ (nI r) (nI a) (nI d) = (3, σ) from by unfold opRoot; rw [if_pos hv, if_neg (by rw [ix_nI (by omega), hs9]; decide), putR_eq, ix_nI (by omega), ix_nI (by omega), nI_clamp (by omega), ← hN, ← hB, if_neg hfit]]; exact ⟨_, _, _, hn, hR⟩, hF⟩
        · have hs9 : (σ a).2.2 = true := hng.mp (Int32.not_le.mp c130)
          have e9 : opRoot σ (nI r) (nI a) (nI d) = (2, σ) := by unfold opRoot; rw [if_pos hv, if_pos (by rw [ix_nI (by omega)]; exact hs9)]
          refine lv_iconst (v := nI 2) hx hb d_Mo_root_40 (by decide) ?_
          refine lv_goto (tgt := 45) hx hb d_Mo_root_41 (by decide) ?_
          refine ob_put S hI hm.1 (fs' := [.int (nI 2), .ref (mc), .ref (ml), .ref (mg), .ref (mw), .ref (mr)]) (C := R_Mo) (T := F_Mo) (N := 6) (ref := "WallFractionsModel") rfl i_Mo t_Mo t_Mo_ok n_Mo 0 (by decide) rfl w_771 rfl rfl rfl (by simp only [List.length]; decide) rfl d_Mo_root_45 (fun f131 H locs hI hO9 hf131 => ?_)
          have hm := hm.umm hf131 hO9
          have hF := hF.umm hf131
          have hn := (⟨_, _, hm, hc⟩ : Mn D L _ mm mc ml mg mw mr _ _ _ _ _)
          refine lv_aload_n hx hb d_Mo_root_48 rfl (lv_at hl 0 rfl) ?_
          refine ob_get S hI hm.1 (C := R_Mo) (T := F_Mo) (N := 6) (ref := "WallFractionsModel") rfl i_Mo 0 (by decide) rfl w_771 rfl d_Mo_root_49 ?_
          refine hw_if_le (tgt := 56) hx hb d_Mo_root_52 (by decide) (by decide) (fun c9 => absurd c9 (by decide)) (fun _ => ?_)
          exact hw_vret hx hb hr hlocks hI d_Mo_root_55 ⟨rfl, rfl, by rw [e9]; exact ⟨_, _, _, hn, hR⟩, hF⟩
      · refine hw_cS (As := [.long ((d0).toInt64), .long (lN 0), .long (lN 40)]) (rest := [.ref (mm)]) S hI m_Mo_in w_843 (c_Mo_in l D t0 L _ _ d0 0 40 (by omega) (by omega)) hl.1 rfl rfl (Nat.le_of_ble_eq_true rfl) d_Mo_root_21 ⟨Nat.le_of_ble_eq_true rfl, Nat.le_of_ble_eq_true rfl⟩ ⟨Nat.le_of_ble_eq_true rfl, Nat.le_of_ble_eq_true rfl⟩ (fun v9 L9 f127 H locs hp hI => ?_)
        refine W.cs (cells' := 0) (slots' := 0) rfl rfl ?_
        obtain ⟨hv9, rfl, rfl⟩ := hp
        cases hv9
        refine hw_stk (st' := [.int (if inR d0 0 40 = true then nI 1 else nI 0), .ref (mm)]) rfl ?_
        refine hw_ti (show _ = nI 0 from by rw [if_neg hd0]) ?_
        refine hw_if_ne (tgt := 31) hx hb d_Mo_root_24 (by decide) (by decide) (fun c9 => absurd c9 (by decide)) (fun _ => ?_)
        have e9 : opRoot σ r0 a0 d0 = (1, σ) := by unfold opRoot; rw [if_neg (by simp [hd0])]
        refine lv_iconst (v := nI 1) hx hb d_Mo_root_27 (by decide) ?_
        refine lv_goto (tgt := 45) hx hb d_Mo_root_28 (by decide) ?_
        refine ob_put S hI hm.1 (fs' := [.int (nI 1), .ref (mc), .ref (ml), .ref (mg), .ref (mw), .ref (mr)]) (C := R_Mo) (T := F_Mo) (N := 6) (ref := "WallFractionsModel") rfl i_Mo t_Mo t_Mo_ok n_Mo 0 (by decide) rfl w_771 rfl rfl rfl (by simp only [List.length]; decide) rfl d_Mo_root_45 (fun f129 H locs hI hO9 hf129 => ?_)
        have hm := hm.umm hf129 hO9
        have hF := hF.umm hf129
        have hn := (⟨_, _, hm, hc⟩ : Mn D L _ mm mc ml mg mw mr _ _ _ _ _)
        refine lv_aload_n hx hb d_Mo_root_48 rfl (lv_at hl 0 rfl) ?_
        refine ob_get S hI hm.1 (C := R_Mo) (T := F_Mo) (N := 6) (ref := "WallFractionsModel") rfl i_Mo 0 (by decide) rfl w_771 rfl d_Mo_root_49 ?_
        refine hw_if_le (tgt := 56) hx hb d_Mo_root_52 (by decide) (by decide) (fun c9 => absurd c9 (by decide)) (fun _ => ?_)
        exact hw_vret hx hb hr hlocks hI d_Mo_root_55 ⟨rfl, rfl, by rw [e9]; exact ⟨_, _, _, hn, hR⟩, hF⟩
    · refine hw_cS (As := [.int (a0)]) (rest := [.ref (mm)]) S hI m_Mo_isRegister w_799 (c_Mo_isRegister l D t0 L _ _ a0) hl.1 rfl rfl (Nat.le_of_ble_eq_true rfl) d_Mo_root_9 ⟨Nat.le_of_ble_eq_true rfl, Nat.le_of_ble_eq_true rfl⟩ ⟨Nat.le_of_ble_eq_true rfl, Nat.le_of_ble_eq_true rfl⟩ (fun v9 L9 f124 H locs hp hI => ?_)
      refine W.cs (cells' := 0) (slots' := 0) rfl rfl ?_
      obtain ⟨hv9, rfl, rfl⟩ := hp
      cases hv9
      refine hw_stk (st' := [.int (if vr a0 = true then nI 1 else nI 0), .ref (mm)]) rfl ?_
      refine hw_ti (show _ = nI 0 from by rw [if_neg ha0]) ?_
      refine hw_if_eq (tgt := 27) hx hb d_Mo_root_12 (by decide) (by decide) (fun _ => ?_) (fun c9 => absurd c9 (by decide))
      have e9 : opRoot σ r0 a0 d0 = (1, σ) := by unfold opRoot; rw [if_neg (by simp [ha0])]
      refine lv_iconst (v := nI 1) hx hb d_Mo_root_27 (by decide) ?_
      refine lv_goto (tgt := 45) hx hb d_Mo_root_28 (by decide) ?_
      refine ob_put S hI hm.1 (fs' := [.int (nI 1), .ref (mc), .ref (ml), .ref (mg), .ref (mw), .ref (mr)]) (C := R_Mo) (T := F_Mo) (N := 6) (ref := "WallFractionsModel") rfl i_Mo t_Mo t_Mo_ok n_Mo 0 (by decide) rfl w_771 rfl rfl rfl (by simp only [List.length]; decide) rfl d_Mo_root_45 (fun f126 H locs hI hO9 hf126 => ?_)
      have hm := hm.umm hf126 hO9
      have hF := hF.umm hf126
      have hn := (⟨_, _, hm, hc⟩ : Mn D L _ mm mc ml mg mw mr _ _ _ _ _)
      refine lv_aload_n hx hb d_Mo_root_48 rfl (lv_at hl 0 rfl) ?_
      refine ob_get S hI hm.1 (C := R_Mo) (T := F_Mo) (N := 6) (ref := "WallFractionsModel") rfl i_Mo 0 (by decide) rfl w_771 rfl d_Mo_root_49 ?_
      refine hw_if_le (tgt := 56) hx hb d_Mo_root_52 (by decide) (by decide) (fun c9 => absurd c9 (by decide)) (fun _ => ?_)
      exact hw_vret hx hb hr hlocks hI d_Mo_root_55 ⟨rfl, rfl, by rw [e9]; exact ⟨_, _, _, hn, hR⟩, hF⟩
  · refine hw_cS (As := [.int (r0)]) (rest := [.ref (mm)]) S hI m_Mo_isRegister w_799 (c_Mo_isRegister l D t0 L _ _ r0) hl.1 rfl rfl (Nat.le_of_ble_eq_true rfl) d_Mo_root_2 ⟨Nat.le_of_ble_eq_true rfl, Nat.le_of_ble_eq_true rfl⟩ ⟨Nat.le_of_ble_eq_true rfl, Nat.le_of_ble_eq_true rfl⟩ (fun v9 L9 f121 H locs hp hI => ?_)
    refine W.cs (cells' := 0) (slots' := 0) rfl rfl ?_
    obtain ⟨hv9, rfl, rfl⟩ := hp
    cases hv9
    refine hw_stk (st' := [.int (if vr r0 = true then nI 1 else nI 0), .ref (mm)]) rfl ?_
    refine hw_ti (show _ = nI 0 from by rw [if_neg hr0]) ?_
    refine hw_if_eq (tgt := 27) hx hb d_Mo_root_5 (by decide) (by decide) (fun _ => ?_) (fun c9 => absurd c9 (by decide))
    have e9 : opRoot σ r0 a0 d0 = (1, σ) := by unfold opRoot; rw [if_neg (by simp [hr0])]
    refine lv_iconst (v := nI 1) hx hb d_Mo_root_27 (by decide) ?_
    refine lv_goto (tgt := 45) hx hb d_Mo_root_28 (by decide) ?_
    refine ob_put S hI hm.1 (fs' := [.int (nI 1), .ref (mc), .ref (ml), .ref (mg), .ref (mw), .ref (mr)]) (C := R_Mo) (T := F_Mo) (N := 6) (ref := "WallFractionsModel") rfl i_Mo t_Mo t_Mo_ok n_Mo 0 (by decide) rfl w_771 rfl rfl rfl (by simp only [List.length]; decide) rfl d_Mo_root_45 (fun f123 H locs hI hO9 hf123 => ?_)
    have hm := hm.umm hf123 hO9
    have hF := hF.umm hf123
    have hn := (⟨_, _, hm, hc⟩ : Mn D L _ mm mc ml mg mw mr _ _ _ _ _)
    refine lv_aload_n hx hb d_Mo_root_48 rfl (lv_at hl 0 rfl) ?_
    refine ob_get S hI hm.1 (C := R_Mo) (T := F_Mo) (N := 6) (ref := "WallFractionsModel") rfl i_Mo 0 (by decide) rfl w_771 rfl d_Mo_root_49 ?_
    refine hw_if_le (tgt := 56) hx hb d_Mo_root_52 (by decide) (by decide) (fun c9 => absurd c9 (by decide)) (fun _ => ?_)
    exact hw_vret hx hb hr hlocks hI d_Mo_root_55 ⟨rfl, rfl, by rw [e9]; exact ⟨_, _, _, hn, hR⟩, hF⟩

theorem upF_0 {r d : Nat} {s : Bool} : upF 0 r d s = (s && decide (r ≠ 0)) := rfl
theorem upF_1 {r d : Nat} {s : Bool} : upF 1 r d s = decide (if s then d < 2 * r else d ≤ 2 * r) := rfl
theorem upF_2 {r d : Nat} {s : Bool} : upF 2 r d s = false := rfl
theorem rndQ_0 {u : Rg} {d : Nat} : rndQ u d 0 = u.1 * 10 ^ d / u.2.1 + (if 1 = 1 ∧ u.1 * 10 ^ d % u.2.1 ≠ 0 ∧ u.2.2 = true then 1 else 0) := by
  unfold rndQ
  rw [upF_0]
  congr 1
  by_cases h1 : u.1 * 10 ^ d % u.2.1 = 0
  · rw [if_neg (by simp [h1]), if_neg (by simp [h1])]
  · cases h2 : u.2.2
    · rw [if_neg (by simp), if_neg (by simp)]
    · rw [if_pos (by simp [h1]), if_pos (by simp [h1])]
theorem rndQ_2 {u : Rg} {d : Nat} : rndQ u d 2 = u.1 * 10 ^ d / u.2.1 := by
  unfold rndQ
  rw [upF_2]
  rfl
theorem rndQ_1p {u : Rg} {d : Nat} (hD : 0 < u.2.1) (hs : u.2.2 = false) : rndQ u d 1 = (u.1 * 10 ^ d * 2 + u.2.1) / (u.2.1 * 2) := by
  unfold rndQ
  rw [rnd_pos hD, upF_1, hs]
  congr 1
  by_cases h : u.2.1 ≤ 2 * (u.1 * 10 ^ d % u.2.1)
  · rw [if_pos h, if_pos (by simp [h])]
  · rw [if_neg h, if_neg (by simp; omega)]
theorem rndQ_1n {u : Rg} {d : Nat} (hD : 0 < u.2.1) (hs : u.2.2 = true) (h2 : u.2.1 < u.1 * 10 ^ d * 2) : rndQ u d 1 = (u.1 * 10 ^ d * 2 - u.2.1) / (u.2.1 * 2) + (if (u.1 * 10 ^ d * 2 - u.2.1) % (u.2.1 * 2) ≠ 0 then 1 else 0) := by
  rw [rnd_neg hD h2]
  unfold rndQ
  rw [upF_1, hs]
  congr 1
  by_cases h : u.2.1 < 2 * (u.1 * 10 ^ d % u.2.1)
  · rw [if_pos h, if_pos (by simp [h])]
  · rw [if_neg h, if_neg (by simp; omega)]
theorem rndQ_1z {u : Rg} {d : Nat} (hD : 0 < u.2.1) (hs : u.2.2 = true) (h2 : u.1 * 10 ^ d * 2 ≤ u.2.1) : rndQ u d 1 = 0 ∧ (u.2.1 - u.1 * 10 ^ d * 2) / (u.2.1 * 2) = 0 := by
  obtain ⟨h3, h4⟩ := rnd_low hD h2
  refine ⟨?_, h3⟩
  unfold rndQ
  rw [upF_1, hs]
  have e9 : (if decide (if true = true then u.2.1 < 2 * (u.1 * 10 ^ d % u.2.1) else u.2.1 ≤ 2 * (u.1 * 10 ^ d % u.2.1)) = true then 1 else 0) = (if u.2.1 < 2 * (u.1 * 10 ^ d % u.2.1) then 1 else 0) := by
    by_cases h : u.2.1 < 2 * (u.1 * 10 ^ d % u.2.1)
    · rw [if_pos h, if_pos (by simp [h])]
    · rw [if_neg h, if_neg (by simp; omega)]
  rw [e9]
  exact h4
theorem cmpN_pos {a b : Nat} : cmpN a b ≤ 0 ↔ a ≤ b := by
  rcases Nat.lt_trichotomy a b with h | h | h
  · rw [cmpN_lt h]; exact ⟨fun _ => by omega, fun _ => by decide⟩
  · rw [cmpN_eq h]; exact ⟨fun _ => by omega, fun _ => by decide⟩
  · rw [cmpN_gt h]; exact ⟨fun q => absurd q (by decide), fun q => by omega⟩
set_option maxHeartbeats 4000000 in
set_option maxRecDepth 100000 in
theorem c_Mo_floor (l : Launch) (D : va_G) (t0 : Nat) (L : List Nat) (f : Nat → va_E) (sz : Nat) (mm mc ml mg mw mr : Nat) (th : Int32) (y : Nat → Nat) (sn : Nat → Int32) (wt rr : Nat → Nat) (sg : Int32) (dn : Nat) (hn : Mn D L f mm mc ml mg mw mr th y sn wt rr) (hdn : dn ≤ 1) (h34 : 0 < y 34) (hy : y 32 < 10000 ^ 120) : Met l y_Mo_floor (Cond.code y_Mo_floor b_Mo_floor 4 none :: TT) ({ frames := 3, cells := 0, slots := 0, locals := 83 } : Room) (hw_Pc t0 [.ref (mm), .int (sg), .int (nI dn)] D L f sz) (hw_Q D L sz (fun oc L' f' => oc = .returned none ∧ L = L' ∧ (∃ y', y' 32 = y 32 / y 34 + (if dn = 1 ∧ y 32 % y 34 ≠ 0 ∧ sg < 0 then 1 else 0) ∧ (∀ k, k < 32 → y' k = y k) ∧ Mn D L f' mm mc ml mg mw mr th y' sn wt rr) ∧ Fo mm mc ml mg mw mr f f')) 0 0 (hw_A L sz) := by
  refine Met.ofW (cc := b_Mo_floor) (maxL := 4) (ret := none) (by decide) rfl ?_
  intro p e s m args below meth c s₁ B hml hv
  obtain ⟨rfl, rfl, hI⟩ := hw_start hv
  clear hv
  have hx := B.exec
  have hb := B.bytes
  have hr := B.returns
  have hlocks := B.notSynchronized
  have hown : s.vm.findClass "WallFractionsModel" = some m.cls := findClass_of_methodNamed B.named
  have hT : ∀ w ∈ TT, w.before ([.ref (mm), .int (sg), .int (nI dn)]).toArray s = true := fun w h => atoms_spec (ws := (Cond.code y_Mo_floor b_Mo_floor 4 none :: TT)) B.pre w (List.mem_cons_of_mem _ h)
  have S : CallFix p m c b_Mo_floor 4 s ([.ref (mm), .int (sg), .int (nI dn)]).toArray TT "WallFractionsModel" := ⟨hx, hb, hml, hown, hT⟩
  have hl := lv_entry ([.ref (mm), .int (sg), .int (nI dn)]) (n := 4) (Nat.le_of_ble_eq_true rfl)
  rw [lg_entry_eq]
  generalize (lg_sl ([.ref (mm), .int (sg), .int (nI dn)]) ++ List.replicate (4 - (lg_sl ([.ref (mm), .int (sg), .int (nI dn)])).length) Slot.unset).toArray = ls at hl ⊢
  have hl : lv_has ls 4 [(0, .ref (mm)), (1, .int (sg)), (2, .int (nI dn))] := hl
  skip
  have hF : Fo mm mc ml mg mw mr f f := Fo.refl
  obtain ⟨cs, ns, hm, hc⟩ := id hn
  obtain ⟨N, k32⟩ : ∃ z9, y 32 = z9 := ⟨_, rfl⟩
  obtain ⟨Bd, k34⟩ : ∃ z9, y 34 = z9 := ⟨_, rfl⟩
  rw [k34] at h34
  rw [k32] at hy
  rw [k32, k34]
  have hrow : ∀ k, k < 32 → y k = y k := fun _ _ => rfl
  refine lv_aload_n hx hb d_Mo_floor_0 rfl (lv_at hl 0 rfl) ?_
  refine lv_bipush (v := nI 32) hx hb d_Mo_floor_1 (by decide) ?_
  refine lv_bipush (v := nI 34) hx hb d_Mo_floor_3 (by decide) ?_
  refine lv_bipush (v := nI 37) hx hb d_Mo_floor_5 (by decide) ?_
  refine hw_cV (As := [.int (nI 32), .int (nI 34), .int (nI 37)]) (rest := []) S hI m_Mo_part w_818 (c_Mo_part l D t0 L _ _ mm mc ml mg mw mr th y sn wt rr 32 34 37 hn (by decide) (by omega) (by decide) (by omega) (by decide) (by omega) (by rw [k34]; exact h34)) hm.1 rfl hl.1 rfl rfl (Nat.le_of_ble_eq_true rfl) d_Mo_floor_7 ⟨Nat.le_of_ble_eq_true rfl, Nat.le_of_ble_eq_true rfl⟩ ⟨Nat.le_of_ble_eq_true rfl, Nat.le_of_ble_eq_true rfl⟩ (fun v9 L9 f101 H locs hp hI => ?_)
  refine W.cs (cells' := 0) (slots' := 0) rfl rfl ?_
  obtain ⟨hv9, rfl, hn, hF9⟩ := hp
  cases hv9
  refine hw_stk (st' := []) rfl ?_
  have hF := hF.trans hF9
  obtain ⟨y102, ey⟩ : ∃ z9, z9 = va_up (va_up y 32 (y 32 % y 34)) 37 (y 32 / y 34) := ⟨_, rfl⟩
  rw [← ey] at hn
  have q32 : y102 32 = N % Bd := by rw [ey]; rw [hw_up_ne (by decide), hw_up_eq, k32, k34]
  have q37 : y102 37 = N / Bd := by rw [ey]; rw [hw_up_eq, k32, k34]
  have q34 : y102 34 = Bd := by rw [ey, hw_up_ne (by decide), hw_up_ne (by decide)]; exact k34
  have k32 := q32
  have k37 := q37
  have k34 := q34
  obtain ⟨cs, ns, hm, hc⟩ := id hn
  have hrow : ∀ k, k < 32 → y102 k = y k := fun k hk => (show y102 k = y k by rw [ey, hw_up_ne (by omega), hw_up_ne (by omega)]).trans (hrow k hk)
  refine lv_aload_n hx hb d_Mo_floor_10 rfl (lv_at hl 0 rfl) ?_
  refine lv_bipush (v := nI 32) hx hb d_Mo_floor_11 (by decide) ?_
  refine hw_cV (As := [.int (nI 32)]) (rest := []) S hI m_Mo_isZero w_814 (c_Mo_isZero l D t0 L _ _ mm mc ml mg mw mr th y102 sn wt rr 32 hn (by decide)) hm.1 rfl hl.1 rfl rfl (Nat.le_of_ble_eq_true rfl) d_Mo_floor_13 ⟨Nat.le_of_ble_eq_true rfl, Nat.le_of_ble_eq_true rfl⟩ ⟨Nat.le_of_ble_eq_true rfl, Nat.le_of_ble_eq_true rfl⟩ (fun v9 L9 f103 H locs hp hI => ?_)
  refine W.cs (cells' := 0) (slots' := 0) rfl rfl ?_
  obtain ⟨hv9, rfl, rfl⟩ := hp
  cases hv9
  refine hw_stk (st' := [.int (if y102 32 = 0 then nI 1 else nI 0)]) rfl ?_
  by_cases h0 : N % Bd = 0
  · refine hw_ti (show _ = nI 1 from by rw [k32, if_pos h0]) ?_
    refine hw_if_ne (tgt := 23) hx hb d_Mo_floor_16 (by decide) (by decide) (fun _ => ?_) (fun c9 => absurd c9 (by decide))
    refine lv_iconst (v := nI 0) hx hb d_Mo_floor_23 (by decide) ?_
    refine lv_istore_n (lv' := [(3, .int (nI 0)), (0, .ref (mm)), (1, .int (sg)), (2, .int (nI dn))]) hx hb d_Mo_floor_24 rfl hl (by decide) rfl (fun ls hl => ?_)
    refine lv_aload_n hx hb d_Mo_floor_25 rfl (lv_at hl 1 rfl) ?_
    refine lv_bipush (v := nI 32) hx hb d_Mo_floor_26 (by decide) ?_
    refine lv_bipush (v := nI 37) hx hb d_Mo_floor_28 (by decide) ?_
    refine hw_cV (As := [.int (nI 32), .int (nI 37)]) (rest := []) S hI m_Mo_copy w_810 (c_Mo_copy l D t0 L _ _ mm mc ml mg mw mr th y102 sn wt rr 32 37 hn (by decide) (by decide)) hm.1 rfl hl.1 rfl rfl (Nat.le_of_ble_eq_true rfl) d_Mo_floor_30 ⟨Nat.le_of_ble_eq_true rfl, Nat.le_of_ble_eq_true rfl⟩ ⟨Nat.le_of_ble_eq_true rfl, Nat.le_of_ble_eq_true rfl⟩ (fun v9 L9 f104 H locs hp hI => ?_)
    refine W.cs (cells' := 0) (slots' := 0) rfl rfl ?_
    obtain ⟨hv9, rfl, hn, hF9⟩ := hp
    cases hv9
    refine hw_stk (st' := []) rfl ?_
    have hF := hF.trans hF9
    obtain ⟨y105, ey⟩ : ∃ z9, z9 = va_up y102 32 (y102 37) := ⟨_, rfl⟩
    rw [← ey] at hn
    have q32 : y105 32 = N / Bd := by rw [ey]; rw [hw_up_eq]; exact k37
    have q37 : y105 37 = N / Bd := by rw [ey, hw_up_ne (by decide)]; exact k37
    have q34 : y105 34 = Bd := by rw [ey, hw_up_ne (by decide)]; exact k34
    have k32 := q32
    have k37 := q37
    have k34 := q34
    obtain ⟨cs, ns, hm, hc⟩ := id hn
    have hrow : ∀ k, k < 32 → y105 k = y k := fun k hk => (show y105 k = y102 k by rw [ey, hw_up_ne (by omega)]).trans (hrow k hk)
    refine lv_iload_n hx hb d_Mo_floor_33 rfl (lv_at hl 3 rfl) ?_
    rcases (show dn = 0 ∨ dn = 1 by omega) with rfl | rfl
    · refine hw_if_eq (tgt := 53) hx hb d_Mo_floor_34 (by decide) (by decide) (fun _ => ?_) (fun c9 => absurd c9 (by decide))
      exact hw_vret hx hb hr hlocks hI d_Mo_floor_53 ⟨rfl, rfl, ⟨_, by rw [k32, if_neg (fun h => absurd h.1 (by decide)), Nat.add_zero], hrow, hn⟩, hF⟩
    · refine hw_if_eq (tgt := 53) hx hb d_Mo_floor_34 (by decide) (by decide) (fun c9 => absurd c9 (by decide)) (fun _ => ?_)
      refine lv_iload_n hx hb d_Mo_floor_37 rfl (lv_at hl 0 rfl) ?_
      refine hw_if_eq (tgt := 53) hx hb d_Mo_floor_38 (by decide) (by decide) (fun _ => ?_) (fun c9 => absurd c9 (by decide))
      exact hw_vret hx hb hr hlocks hI d_Mo_floor_53 ⟨rfl, rfl, ⟨_, by rw [k32, if_neg (fun h => h.2.1 h0), Nat.add_zero], hrow, hn⟩, hF⟩
  · refine hw_ti (show _ = nI 0 from by rw [k32, if_neg h0]) ?_
    refine hw_if_ne (tgt := 23) hx hb d_Mo_floor_16 (by decide) (by decide) (fun c9 => absurd c9 (by decide)) (fun _ => ?_)
    refine lv_iconst (v := nI 1) hx hb d_Mo_floor_19 (by decide) ?_
    refine lv_goto (tgt := 24) hx hb d_Mo_floor_20 (by decide) ?_
    refine lv_istore_n (lv' := [(3, .int (nI 1)), (0, .ref (mm)), (1, .int (sg)), (2, .int (nI dn))]) hx hb d_Mo_floor_24 rfl hl (by decide) rfl (fun ls hl => ?_)
    refine lv_aload_n hx hb d_Mo_floor_25 rfl (lv_at hl 1 rfl) ?_
    refine lv_bipush (v := nI 32) hx hb d_Mo_floor_26 (by decide) ?_
    refine lv_bipush (v := nI 37) hx hb d_Mo_floor_28 (by decide) ?_
    refine hw_cV (As := [.int (nI 32), .int (nI 37)]) (rest := []) S hI m_Mo_copy w_810 (c_Mo_copy l D t0 L _ _ mm mc ml mg mw mr th y102 sn wt rr 32 37 hn (by decide) (by decide)) hm.1 rfl hl.1 rfl rfl (Nat.le_of_ble_eq_true rfl) d_Mo_floor_30 ⟨Nat.le_of_ble_eq_true rfl, Nat.le_of_ble_eq_true rfl⟩ ⟨Nat.le_of_ble_eq_true rfl, Nat.le_of_ble_eq_true rfl⟩ (fun v9 L9 f106 H locs hp hI => ?_)
    refine W.cs (cells' := 0) (slots' := 0) rfl rfl ?_
    obtain ⟨hv9, rfl, hn, hF9⟩ := hp
    cases hv9
    refine hw_stk (st' := []) rfl ?_
    have hF := hF.trans hF9
    obtain ⟨y107, ey⟩ : ∃ z9, z9 = va_up y102 32 (y102 37) := ⟨_, rfl⟩
    rw [← ey] at hn
    have q32 : y107 32 = N / Bd := by rw [ey]; rw [hw_up_eq]; exact k37
    have q37 : y107 37 = N / Bd := by rw [ey, hw_up_ne (by decide)]; exact k37
    have q34 : y107 34 = Bd := by rw [ey, hw_up_ne (by decide)]; exact k34
    have k32 := q32
    have k37 := q37
    have k34 := q34
    obtain ⟨cs, ns, hm, hc⟩ := id hn
    have hrow : ∀ k, k < 32 → y107 k = y k := fun k hk => (show y107 k = y102 k by rw [ey, hw_up_ne (by omega)]).trans (hrow k hk)
    refine lv_iload_n hx hb d_Mo_floor_33 rfl (lv_at hl 3 rfl) ?_
    rcases (show dn = 0 ∨ dn = 1 by omega) with rfl | rfl
    · refine hw_if_eq (tgt := 53) hx hb d_Mo_floor_34 (by decide) (by decide) (fun _ => ?_) (fun c9 => absurd c9 (by decide))
      exact hw_vret hx hb hr hlocks hI d_Mo_floor_53 ⟨rfl, rfl, ⟨_, by rw [k32, if_neg (fun h => absurd h.1 (by decide)), Nat.add_zero], hrow, hn⟩, hF⟩
    · refine hw_if_eq (tgt := 53) hx hb d_Mo_floor_34 (by decide) (by decide) (fun c9 => absurd c9 (by decide)) (fun _ => ?_)
      refine lv_iload_n hx hb d_Mo_floor_37 rfl (lv_at hl 0 rfl) ?_
      refine hw_if_eq (tgt := 53) hx hb d_Mo_floor_38 (by decide) (by decide) (fun c9 => absurd c9 (by decide)) (fun _ => ?_)
      refine lv_iload_n hx hb d_Mo_floor_41 rfl (lv_at hl 2 rfl) ?_
      refine lv_if_ge (tgt := 53) hx hb d_Mo_floor_42 (by decide) (fun c108 => ?_) (fun c108 => ?_)
      · exact hw_vret hx hb hr hlocks hI d_Mo_floor_53 ⟨rfl, rfl, ⟨_, by rw [k32, if_neg (fun h => absurd h.2.2 (Int32.not_lt.mpr c108)), Nat.add_zero], hrow, hn⟩, hF⟩
      · have hdl := Nat.div_le_self N Bd
        refine lv_aload_n hx hb d_Mo_floor_45 rfl (lv_at hl 1 rfl) ?_
        refine lv_bipush (v := nI 32) hx hb d_Mo_floor_46 (by decide) ?_
        refine lv_lconst (v := lN 1) hx hb d_Mo_floor_48 rfl ?_
        refine lv_lconst (v := lN 1) hx hb d_Mo_floor_49 rfl ?_
        refine hw_cV (As := [.int (nI 32), .long (lN 1), .long (lN 1)]) (rest := []) S hI m_Mo_times w_851 (c_Mo_times l D t0 L _ _ mm mc ml mg mw mr th y107 sn wt rr 32 1 1 hn (by decide) (by rw [k32]; exact p4 125 (Nat.lt_of_le_of_lt hdl hy) (by decide)) (by decide) (by decide)) hm.1 rfl hl.1 rfl rfl (Nat.le_of_ble_eq_true rfl) d_Mo_floor_50 ⟨Nat.le_of_ble_eq_true rfl, Nat.le_of_ble_eq_true rfl⟩ ⟨Nat.le_of_ble_eq_true rfl, Nat.le_of_ble_eq_true rfl⟩ (fun v9 L9 f109 H locs hp hI => ?_)
        refine W.cs (cells' := 0) (slots' := 0) rfl rfl ?_
        obtain ⟨hv9, rfl, hn, hF9⟩ := hp
        cases hv9
        refine hw_stk (st' := []) rfl ?_
        have hF := hF.trans hF9
        obtain ⟨y110, ey⟩ : ∃ z9, z9 = va_up y107 32 (y107 32 * 1 + 1) := ⟨_, rfl⟩
        rw [← ey] at hn
        have q32 : y110 32 = N / Bd * 1 + 1 := by rw [ey]; rw [hw_up_eq, k32]
        have q37 : y110 37 = N / Bd := by rw [ey, hw_up_ne (by decide)]; exact k37
        have q34 : y110 34 = Bd := by rw [ey, hw_up_ne (by decide)]; exact k34
        have k32 := q32
        have k37 := q37
        have k34 := q34
        obtain ⟨cs, ns, hm, hc⟩ := id hn
        have hrow : ∀ k, k < 32 → y110 k = y k := fun k hk => (show y110 k = y107 k by rw [ey, hw_up_ne (by omega)]).trans (hrow k hk)
        exact hw_vret hx hb hr hlocks hI d_Mo_floor_53 ⟨rfl, rfl, ⟨_, by rw [k32, Nat.mul_one, if_pos ⟨rfl, h0, Int32.not_le.mp c108⟩], hrow, hn⟩, hF⟩
set_option maxHeartbeats 4000000 in
set_option maxRecDepth 100000 in
theorem c_Mo_units (l : Launch) (D : va_G) (t0 : Nat) (L : List Nat) (f : Nat → va_E) (sz : Nat) (mm mc ml mg mw mr : Nat) (th : Int32) (y : Nat → Nat) (sn : Nat → Int32) (wt rr : Nat → Nat) (σ : Sg) (r : Nat) (sg : Int32) (d : Nat) (s0 : Bool) (hn : Mn D L f mm mc ml mg mw mr th y sn wt rr) (hR : RM σ y sn) (hr9 : r < 16) (hd9 : d ≤ 40) (hsg : y 32 ≠ 0 → sg = if s0 then -1 else nI 1) : Met l y_Mo_units (Cond.code y_Mo_units b_Mo_units 4 (some .boolean) :: TT) ({ frames := 5, cells := 0, slots := 0, locals := 131 } : Room) (hw_Pc t0 [.ref (mm), .int (nI r), .int (sg), .int (nI d)] D L f sz) (hw_Q D L sz (fun oc L' f' => oc = .returned (some (.int (if fitR (lows (y 32) (10 ^ d) s0) = true then nI 1 else nI 0))) ∧ L = L' ∧ (∃ y' sn', Mn D L f' mm mc ml mg mw mr th y' sn' wt rr ∧ RM (if fitR (lows (y 32) (10 ^ d) s0) = true then va_up σ r (lows (y 32) (10 ^ d) s0) else σ) y' sn') ∧ Fo mm mc ml mg mw mr f f')) 0 0 (hw_A L sz) := by
  refine Met.ofW (cc := b_Mo_units) (maxL := 4) (ret := (some .boolean)) (by decide) rfl ?_
  intro p e s m args below meth c s₁ B hml hv
  obtain ⟨rfl, rfl, hI⟩ := hw_start hv
  clear hv
  have hx := B.exec
  have hb := B.bytes
  have hr := B.returns
  have hlocks := B.notSynchronized
  have hown : s.vm.findClass "WallFractionsModel" = some m.cls := findClass_of_methodNamed B.named
  have hT : ∀ w ∈ TT, w.before ([.ref (mm), .int (nI r), .int (sg), .int (nI d)]).toArray s = true := fun w h => atoms_spec (ws := (Cond.code y_Mo_units b_Mo_units 4 (some .boolean) :: TT)) B.pre w (List.mem_cons_of_mem _ h)
  have S : CallFix p m c b_Mo_units 4 s ([.ref (mm), .int (nI r), .int (sg), .int (nI d)]).toArray TT "WallFractionsModel" := ⟨hx, hb, hml, hown, hT⟩
  have hl := lv_entry ([.ref (mm), .int (nI r), .int (sg), .int (nI d)]) (n := 4) (Nat.le_of_ble_eq_true rfl)
  rw [lg_entry_eq]
  generalize (lg_sl ([.ref (mm), .int (nI r), .int (sg), .int (nI d)]) ++ List.replicate (4 - (lg_sl ([.ref (mm), .int (nI r), .int (sg), .int (nI d)])).length) Slot.unset).toArray = ls at hl ⊢
  have hl : lv_has ls 4 [(0, .ref (mm)), (1, .int (nI r)), (2, .int (sg)), (3, .int (nI d))] := hl
  skip
  have hF : Fo mm mc ml mg mw mr f f := Fo.refl
  obtain ⟨cs, ns, hm, hc⟩ := id hn
  obtain ⟨N, k32⟩ : ∃ z9, y 32 = z9 := ⟨_, rfl⟩
  rw [k32] at hsg
  rw [k32]
  refine lv_aload_n hx hb d_Mo_units_0 rfl (lv_at hl 0 rfl) ?_
  refine lv_bipush (v := nI 34) hx hb d_Mo_units_1 (by decide) ?_
  refine lv_lconst (v := lN 1) hx hb d_Mo_units_3 rfl ?_
  refine hw_cV (As := [.int (nI 34), .long (lN 1)]) (rest := []) S hI m_Mo_setLong w_766 (c_Mo_setLong l D t0 L _ _ mm mc ml mg mw mr th y sn wt rr 34 1 hn (by decide) (by decide)) hm.1 rfl hl.1 rfl rfl (Nat.le_of_ble_eq_true rfl) d_Mo_units_4 ⟨Nat.le_of_ble_eq_true rfl, Nat.le_of_ble_eq_true rfl⟩ ⟨Nat.le_of_ble_eq_true rfl, Nat.le_of_ble_eq_true rfl⟩ (fun v9 L9 f111 H locs hp hI => ?_)
  refine W.cs (cells' := 0) (slots' := 0) rfl rfl ?_
  obtain ⟨hv9, rfl, hn, hF9⟩ := hp
  cases hv9
  refine hw_stk (st' := []) rfl ?_
  have hF := hF.trans hF9
  obtain ⟨y112, ey⟩ : ∃ z9, z9 = va_up y 34 1 := ⟨_, rfl⟩
  rw [← ey] at hn
  have q34 : y112 34 = 1 := by rw [ey]; rw [hw_up_eq]
  have q32 : y112 32 = N := by rw [ey, hw_up_ne (by decide)]; exact k32
  have k34 := q34
  have k32 := q32
  have hR : RM σ y112 sn := by rw [ey]; exact hR.up (by decide)
  obtain ⟨cs, ns, hm, hc⟩ := id hn
  refine lv_aload_n hx hb d_Mo_units_7 rfl (lv_at hl 0 rfl) ?_
  refine lv_bipush (v := nI 34) hx hb d_Mo_units_8 (by decide) ?_
  refine lv_iload_n hx hb d_Mo_units_10 rfl (lv_at hl 3 rfl) ?_
  refine hw_cV (As := [.int (nI 34), .int (nI d)]) (rest := []) S hI m_Mo_tens w_914 (c_Mo_tens l D t0 L _ _ mm mc ml mg mw mr th y112 sn wt rr 34 d hn (by decide) (by omega) (by rw [k34]; exact p4 125 (ten40 (d := d) (by decide) (by omega)) (by decide))) hm.1 rfl hl.1 rfl rfl (Nat.le_of_ble_eq_true rfl) d_Mo_units_11 ⟨Nat.le_of_ble_eq_true rfl, Nat.le_of_ble_eq_true rfl⟩ ⟨Nat.le_of_ble_eq_true rfl, Nat.le_of_ble_eq_true rfl⟩ (fun v9 L9 f113 H locs hp hI => ?_)
  refine W.cs (cells' := 0) (slots' := 0) rfl rfl ?_
  obtain ⟨hv9, rfl, hn, hF9⟩ := hp
  cases hv9
  refine hw_stk (st' := []) rfl ?_
  have hF := hF.trans hF9
  obtain ⟨y114, ey⟩ : ∃ z9, z9 = va_up y112 34 (y112 34 * 10 ^ d) := ⟨_, rfl⟩
  rw [← ey] at hn
  have q34 : y114 34 = 10 ^ d := by rw [ey]; rw [hw_up_eq, k34, Nat.one_mul]
  have q32 : y114 32 = N := by rw [ey, hw_up_ne (by decide)]; exact k32
  have k34 := q34
  have k32 := q32
  have hR : RM σ y114 sn := by rw [ey]; exact hR.up (by decide)
  obtain ⟨cs, ns, hm, hc⟩ := id hn
  refine lv_aload_n hx hb d_Mo_units_14 rfl (lv_at hl 0 rfl) ?_
  refine lv_iload_n hx hb d_Mo_units_15 rfl (lv_at hl 1 rfl) ?_
  refine lv_iload_n hx hb d_Mo_units_16 rfl (lv_at hl 2 rfl) ?_
  refine hw_cV (As := [.int (nI r), .int (sg)]) (rest := []) S hI m_Mo_finish w_802 (c_Mo_finish l D t0 L _ _ mm mc ml mg mw mr th y114 sn wt rr σ r sg s0 hn hR hr9 (by rw [k34]; exact Nat.pow_pos (by decide)) (by rw [k32]; exact hsg)) hm.1 rfl hl.1 rfl rfl (Nat.le_of_ble_eq_true rfl) d_Mo_units_17 ⟨Nat.le_of_ble_eq_true rfl, Nat.le_of_ble_eq_true rfl⟩ ⟨Nat.le_of_ble_eq_true rfl, Nat.le_of_ble_eq_true rfl⟩ (fun v9 L9 f115 H locs hp hI => ?_)
  refine W.cs (cells' := 0) (slots' := 0) rfl rfl ?_
  obtain ⟨hv9, rfl, ⟨y9, sn9, hn, hR⟩, hF9⟩ := hp
  cases hv9
  refine hw_stk (st' := [.int (if fitR (lows (y114 32) (y114 34) s0) = true then nI 1 else nI 0)]) rfl ?_
  rw [k32, k34] at hR
  refine hw_ti (show _ = if fitR (lows N (10 ^ d) s0) = true then nI 1 else nI 0 from by rw [k32, k34]) ?_
  exact hw_zret hx hb hr hlocks hI (by split <;> rfl) d_Mo_units_20 ⟨rfl, rfl, ⟨_, _, hn, hR⟩, hF.trans hF9⟩
set_option maxHeartbeats 4000000 in
set_option maxRecDepth 100000 in
theorem c_Mo_round (l : Launch) (D : va_G) (t0 : Nat) (L : List Nat) (f : Nat → va_E) (sz : Nat) (mm mc ml mg mw mr : Nat) (th : Int32) (σ : Sg) (wt : Nat → Nat) (r0 a0 d0 h0 : Int32) (hM : Mg D L f mm mc ml mg mw mr th σ wt) (hok : Ok σ wt) : Met l y_Mo_round (Cond.code y_Mo_round b_Mo_round 6 none :: TT) ({ frames := 6, cells := 0, slots := 0, locals := 154 } : Room) (hw_Pc t0 [.ref (mm), .int (r0), .int (a0), .int (d0), .int (h0)] D L f sz) (hw_Q D L sz (fun oc L' f' => oc = .returned none ∧ L = L' ∧ Mg D L f' mm mc ml mg mw mr (nI (opRnd σ r0 a0 d0 h0).1) (opRnd σ r0 a0 d0 h0).2 wt ∧ Fo mm mc ml mg mw mr f f')) 0 0 (hw_A L sz) := by
  refine Met.ofW (cc := b_Mo_round) (maxL := 6) (ret := none) (by decide) rfl ?_
  intro p e s m args below meth c s₁ B hml hv
  obtain ⟨rfl, rfl, hI⟩ := hw_start hv
  clear hv
  have hx := B.exec
  have hb := B.bytes
  have hr := B.returns
  have hlocks := B.notSynchronized
  have hown : s.vm.findClass "WallFractionsModel" = some m.cls := findClass_of_methodNamed B.named
  have hT : ∀ w ∈ TT, w.before ([.ref (mm), .int (r0), .int (a0), .int (d0), .int (h0)]).toArray s = true := fun w h => atoms_spec (ws := (Cond.code y_Mo_round b_Mo_round 6 none :: TT)) B.pre w (List.mem_cons_of_mem _ h)
  have S : CallFix p m c b_Mo_round 6 s ([.ref (mm), .int (r0), .int (a0), .int (d0), .int (h0)]).toArray TT "WallFractionsModel" := ⟨hx, hb, hml, hown, hT⟩
  have hl := lv_entry ([.ref (mm), .int (r0), .int (a0), .int (d0), .int (h0)]) (n := 6) (Nat.le_of_ble_eq_true rfl)
  rw [lg_entry_eq]
  generalize (lg_sl ([.ref (mm), .int (r0), .int (a0), .int (d0), .int (h0)]) ++ List.replicate (6 - (lg_sl ([.ref (mm), .int (r0), .int (a0), .int (d0), .int (h0)])).length) Slot.unset).toArray = ls at hl ⊢
  have hl : lv_has ls 6 [(0, .ref (mm)), (1, .int (r0)), (2, .int (a0)), (3, .int (d0)), (4, .int (h0))] := hl
  skip
  obtain ⟨y, sn, rr, hn, hR⟩ := hM
  have hF : Fo mm mc ml mg mw mr f f := Fo.refl
  obtain ⟨cs, ns, hm, hc⟩ := id hn
  refine lv_aload_n hx hb d_Mo_round_0 rfl (lv_at hl 0 rfl) ?_
  refine lv_iload_n hx hb d_Mo_round_1 rfl (lv_at hl 1 rfl) ?_
  by_cases hr0 : vr r0 = true
  · refine hw_cS (As := [.int (r0)]) (rest := [.ref (mm)]) S hI m_Mo_isRegister w_799 (c_Mo_isRegister l D t0 L _ _ r0) hl.1 rfl rfl (Nat.le_of_ble_eq_true rfl) d_Mo_round_2 ⟨Nat.le_of_ble_eq_true rfl, Nat.le_of_ble_eq_true rfl⟩ ⟨Nat.le_of_ble_eq_true rfl, Nat.le_of_ble_eq_true rfl⟩ (fun v9 L9 f117 H locs hp hI => ?_)
    refine W.cs (cells' := 0) (slots' := 0) rfl rfl ?_
    obtain ⟨hv9, rfl, rfl⟩ := hp
    cases hv9
    refine hw_stk (st' := [.int (if vr r0 = true then nI 1 else nI 0), .ref (mm)]) rfl ?_
    refine hw_ti (show _ = nI 1 from by rw [if_pos hr0]) ?_
    refine hw_if_eq (tgt := 44) hx hb d_Mo_round_5 (by decide) (by decide) (fun c9 => absurd c9 (by decide)) (fun _ => ?_)
    refine lv_iload_n hx hb d_Mo_round_8 rfl (lv_at hl 2 rfl) ?_
    by_cases ha0 : vr a0 = true
    · refine hw_cS (As := [.int (a0)]) (rest := [.ref (mm)]) S hI m_Mo_isRegister w_799 (c_Mo_isRegister l D t0 L _ _ a0) hl.1 rfl rfl (Nat.le_of_ble_eq_true rfl) d_Mo_round_9 ⟨Nat.le_of_ble_eq_true rfl, Nat.le_of_ble_eq_true rfl⟩ ⟨Nat.le_of_ble_eq_true rfl, Nat.le_of_ble_eq_true rfl⟩ (fun v9 L9 f120 H locs hp hI => ?_)
      refine W.cs (cells' := 0) (slots' := 0) rfl rfl ?_
      obtain ⟨hv9, rfl, rfl⟩ := hp
      cases hv9
      refine hw_stk (st' := [.int (if vr a0 = true then nI 1 else nI 0), .ref (mm)]) rfl ?_
      refine hw_ti (show _ = nI 1 from by rw [if_pos ha0]) ?_
      refine hw_if_eq (tgt := 44) hx hb d_Mo_round_12 (by decide) (by decide) (fun c9 => absurd c9 (by decide)) (fun _ => ?_)
      refine lv_iload_n hx hb d_Mo_round_15 rfl (lv_at hl 3 rfl) ?_
      refine lv_i2l hx hb d_Mo_round_16 rfl ?_
      refine lv_lconst (v := lN 0) hx hb d_Mo_round_17 rfl ?_
      refine hw_ldc2 (v := lN 40) hx hb hown (hT _ w_912) d_Mo_round_18 ?_
      by_cases hd0 : inR d0 0 40 = true
      · refine hw_cS (As := [.long ((d0).toInt64), .long (lN 0), .long (lN 40)]) (rest := [.ref (mm)]) S hI m_Mo_in w_843 (c_Mo_in l D t0 L _ _ d0 0 40 (by omega) (by omega)) hl.1 rfl rfl (Nat.le_of_ble_eq_true rfl) d_Mo_round_21 ⟨Nat.le_of_ble_eq_true rfl, Nat.le_of_ble_eq_true rfl⟩ ⟨Nat.le_of_ble_eq_true rfl, Nat.le_of_ble_eq_true rfl⟩ (fun v9 L9 f123 H locs hp hI => ?_)
        refine W.cs (cells' := 0) (slots' := 0) rfl rfl ?_
        obtain ⟨hv9, rfl, rfl⟩ := hp
        cases hv9
        refine hw_stk (st' := [.int (if inR d0 0 40 = true then nI 1 else nI 0), .ref (mm)]) rfl ?_
        refine hw_ti (show _ = nI 1 from by rw [if_pos hd0]) ?_
        refine hw_if_eq (tgt := 44) hx hb d_Mo_round_24 (by decide) (by decide) (fun c9 => absurd c9 (by decide)) (fun _ => ?_)
        refine lv_iload hx hb d_Mo_round_27 (lv_at hl 4 rfl) ?_
        refine lv_i2l hx hb d_Mo_round_29 rfl ?_
        refine lv_lconst (v := lN 0) hx hb d_Mo_round_30 rfl ?_
        refine hw_ldc2 (v := lN 2) hx hb hown (hT _ w_913) d_Mo_round_31 ?_
        by_cases hh0 : inR h0 0 2 = true
        · refine hw_cS (As := [.long ((h0).toInt64), .long (lN 0), .long (lN 2)]) (rest := [.ref (mm)]) S hI m_Mo_in w_843 (c_Mo_in l D t0 L _ _ h0 0 2 (by omega) (by omega)) hl.1 rfl rfl (Nat.le_of_ble_eq_true rfl) d_Mo_round_34 ⟨Nat.le_of_ble_eq_true rfl, Nat.le_of_ble_eq_true rfl⟩ ⟨Nat.le_of_ble_eq_true rfl, Nat.le_of_ble_eq_true rfl⟩ (fun v9 L9 f126 H locs hp hI => ?_)
          refine W.cs (cells' := 0) (slots' := 0) rfl rfl ?_
          obtain ⟨hv9, rfl, rfl⟩ := hp
          cases hv9
          refine hw_stk (st' := [.int (if inR h0 0 2 = true then nI 1 else nI 0), .ref (mm)]) rfl ?_
          refine hw_ti (show _ = nI 1 from by rw [if_pos hh0]) ?_
          refine hw_if_eq (tgt := 44) hx hb d_Mo_round_37 (by decide) (by decide) (fun c9 => absurd c9 (by decide)) (fun _ => ?_)
          have hv : (vr r0 && vr a0 && inR d0 0 40 && inR h0 0 2) = true := by simp [hr0, ha0, hd0, hh0]
          refine lv_iconst (v := nI 0) hx hb d_Mo_round_40 (by decide) ?_
          refine lv_goto (tgt := 45) hx hb d_Mo_round_41 (by decide) ?_
          refine ob_put S hI hm.1 (fs' := [.int (nI 0), .ref (mc), .ref (ml), .ref (mg), .ref (mw), .ref (mr)]) (C := R_Mo) (T := F_Mo) (N := 6) (ref := "WallFractionsModel") rfl i_Mo t_Mo t_Mo_ok n_Mo 0 (by decide) rfl w_771 rfl rfl rfl (by simp only [List.length]; decide) rfl d_Mo_round_45 (fun f128 H locs hI hO9 hf128 => ?_)
          have hm := hm.umm hf128 hO9
          have hF := hF.umm hf128
          have hn := (⟨_, _, hm, hc⟩ : Mn D L _ mm mc ml mg mw mr _ _ _ _ _)
          refine lv_aload_n hx hb d_Mo_round_48 rfl (lv_at hl 0 rfl) ?_
          refine ob_get S hI hm.1 (C := R_Mo) (T := F_Mo) (N := 6) (ref := "WallFractionsModel") rfl i_Mo 0 (by decide) rfl w_771 rfl d_Mo_round_49 ?_
          refine hw_if_le (tgt := 56) hx hb d_Mo_round_52 (by decide) (by decide) (fun _ => ?_) (fun c9 => absurd c9 (by decide))
          obtain ⟨r, hr9, rfl⟩ := vr_nat hr0
          obtain ⟨a, ha9, rfl⟩ := vr_nat ha0
          obtain ⟨d, _, hd9, rfl⟩ := inR_nat hd0 (by decide) (by decide)
          obtain ⟨h, _, hh9, rfl⟩ := inR_nat hh0 (by decide) (by decide)
          have oka := hok.1 a ha9
          have lta := oka.lt4
          obtain ⟨N, hN⟩ : ∃ z9, z9 = (σ a).1 * 10 ^ d := ⟨_, rfl⟩
          obtain ⟨Bd, hB⟩ : ∃ z9, z9 = (σ a).2.1 := ⟨_, rfl⟩
          have hNl : N < 10000 ^ 65 := by rw [hN]; exact ten40 lta.1 (by omega)
          have hBl : Bd < 10000 ^ 45 := by rw [hB]; exact lta.2
          have hB0 : 0 < Bd := by rw [hB]; exact oka.2.2.1
          have hng := sgI_neg oka.2.2.2.2
          refine lv_aload_n hx hb d_Mo_round_56 rfl (lv_at hl 0 rfl) ?_
          refine ob_get S hI hm.1 (C := R_Mo) (T := F_Mo) (N := 6) (ref := "WallFractionsModel") rfl i_Mo 3 (by decide) rfl w_774 rfl d_Mo_round_57 ?_
          refine lv_iload_n hx hb d_Mo_round_60 rfl (lv_at hl 2 rfl) ?_
          refine ia_ldR S hI hm.2.2.2.1 (by decide) (by omega) d_Mo_round_61 ?_
          refine hw_ti (show _ = sgI (σ a) from (hR a ha9).2.2) ?_
          refine lv_istore (lv' := [(5, .int (sgI (σ a))), (0, .ref (mm)), (1, .int (nI r)), (2, .int (nI a)), (3, .int (nI d)), (4, .int (nI h))]) hx hb d_Mo_round_62 hl (by decide) rfl (fun ls hl => ?_)
          refine lv_aload_n hx hb d_Mo_round_64 rfl (lv_at hl 1 rfl) ?_
          refine lv_bipush (v := nI 32) hx hb d_Mo_round_65 (by decide) ?_
          refine lv_iload_n hx hb d_Mo_round_67 rfl (lv_at hl 3 rfl) ?_
          refine hw_cV (As := [.int (nI 32), .int (nI a)]) (rest := []) S hI m_Mo_copy w_810 (c_Mo_copy l D t0 L _ _ mm mc ml mg mw mr (nI 0) y sn wt rr 32 a hn (by decide) (by omega)) hm.1 rfl hl.1 rfl rfl (Nat.le_of_ble_eq_true rfl) d_Mo_round_68 ⟨Nat.le_of_ble_eq_true rfl, Nat.le_of_ble_eq_true rfl⟩ ⟨Nat.le_of_ble_eq_true rfl, Nat.le_of_ble_eq_true rfl⟩ (fun v9 L9 f129 H locs hp hI => ?_)
          refine W.cs (cells' := 0) (slots' := 0) rfl rfl ?_
          obtain ⟨hv9, rfl, hn, hF9⟩ := hp
          cases hv9
          refine hw_stk (st' := []) rfl ?_
          have hF := hF.trans hF9
          obtain ⟨y130, ey⟩ : ∃ z9, z9 = va_up y 32 (y a) := ⟨_, rfl⟩
          rw [← ey] at hn
          have q32 : y130 32 = (σ a).1 := by rw [ey]; rw [hw_up_eq]; exact (hR a ha9).1
          have k32 := q32
          have hR : RM σ y130 sn := by rw [ey]; exact hR.up (by decide)
          obtain ⟨cs, ns, hm, hc⟩ := id hn
          refine lv_aload_n hx hb d_Mo_round_71 rfl (lv_at hl 1 rfl) ?_
          refine lv_bipush (v := nI 32) hx hb d_Mo_round_72 (by decide) ?_
          refine lv_iload_n hx hb d_Mo_round_74 rfl (lv_at hl 4 rfl) ?_
          refine hw_cV (As := [.int (nI 32), .int (nI d)]) (rest := []) S hI m_Mo_tens w_914 (c_Mo_tens l D t0 L _ _ mm mc ml mg mw mr (nI 0) y130 sn wt rr 32 d hn (by decide) (by omega) (by rw [k32]; exact p4 125 (ten40 lta.1 (by omega)) (by decide))) hm.1 rfl hl.1 rfl rfl (Nat.le_of_ble_eq_true rfl) d_Mo_round_75 ⟨Nat.le_of_ble_eq_true rfl, Nat.le_of_ble_eq_true rfl⟩ ⟨Nat.le_of_ble_eq_true rfl, Nat.le_of_ble_eq_true rfl⟩ (fun v9 L9 f131 H locs hp hI => ?_)
          refine W.cs (cells' := 0) (slots' := 0) rfl rfl ?_
          obtain ⟨hv9, rfl, hn, hF9⟩ := hp
          cases hv9
          refine hw_stk (st' := []) rfl ?_
          have hF := hF.trans hF9
          obtain ⟨y132, ey⟩ : ∃ z9, z9 = va_up y130 32 (y130 32 * 10 ^ d) := ⟨_, rfl⟩
          rw [← ey] at hn
          have q32 : y132 32 = N := by rw [ey]; rw [hw_up_eq, k32, hN]
          have k32 := q32
          have hR : RM σ y132 sn := by rw [ey]; exact hR.up (by decide)
          obtain ⟨cs, ns, hm, hc⟩ := id hn
          refine lv_aload_n hx hb d_Mo_round_78 rfl (lv_at hl 1 rfl) ?_
          refine lv_bipush (v := nI 34) hx hb d_Mo_round_79 (by decide) ?_
          refine lv_bipush (v := nI 16) hx hb d_Mo_round_81 (by decide) ?_
          refine lv_iload_n hx hb d_Mo_round_83 rfl (lv_at hl 3 rfl) ?_
          refine lv_iadd hx hb d_Mo_round_84 ?_
          refine hw_ti (nI_add _ _) ?_
          refine hw_cV (As := [.int (nI 34), .int (nI (16 + a))]) (rest := []) S hI m_Mo_copy w_810 (c_Mo_copy l D t0 L _ _ mm mc ml mg mw mr (nI 0) y132 sn wt rr 34 (16 + a) hn (by decide) (by omega)) hm.1 rfl hl.1 rfl rfl (Nat.le_of_ble_eq_true rfl) d_Mo_round_85 ⟨Nat.le_of_ble_eq_true rfl, Nat.le_of_ble_eq_true rfl⟩ ⟨Nat.le_of_ble_eq_true rfl, Nat.le_of_ble_eq_true rfl⟩ (fun v9 L9 f133 H locs hp hI => ?_)
          refine W.cs (cells' := 0) (slots' := 0) rfl rfl ?_
          obtain ⟨hv9, rfl, hn, hF9⟩ := hp
          cases hv9
          refine hw_stk (st' := []) rfl ?_
          have hF := hF.trans hF9
          obtain ⟨y134, ey⟩ : ∃ z9, z9 = va_up y132 34 (y132 (16 + a)) := ⟨_, rfl⟩
          rw [← ey] at hn
          have q34 : y134 34 = Bd := by rw [ey]; rw [hw_up_eq]; exact (hR a ha9).2.1.trans hB.symm
          have q32 : y134 32 = N := by rw [ey, hw_up_ne (by decide)]; exact k32
          have k34 := q34
          have k32 := q32
          have hR : RM σ y134 sn := by rw [ey]; exact hR.up (by decide)
          obtain ⟨cs, ns, hm, hc⟩ := id hn
          rcases (show h = 0 ∨ h = 1 ∨ h = 2 by omega) with rfl | rfl | rfl
          · have hz0 : (σ a).1 = 0 → rndQ (σ a) d 0 = 0 := fun q => by unfold rndQ upF; rw [q, oka.2.2.2.2 q, Nat.zero_mul, Nat.zero_div, Nat.zero_mod]; rfl
            refine lv_iload hx hb d_Mo_round_88 (lv_at hl 5 rfl) ?_
            refine lv_iconst (v := nI 1) hx hb d_Mo_round_90 (by decide) ?_
            refine hw_icmp_ne (tgt := 180) hx hb d_Mo_round_91 (by decide) (by omega) (by omega) (fun _ => ?_) (fun c9 => absurd c9 (by decide))
            refine lv_aload_n hx hb d_Mo_round_180 rfl (lv_at hl 1 rfl) ?_
            refine lv_iload hx hb d_Mo_round_181 (lv_at hl 0 rfl) ?_
            refine lv_iload hx hb d_Mo_round_183 (lv_at hl 5 rfl) ?_
            refine lv_iconst (v := nI 2) hx hb d_Mo_round_185 (by decide) ?_
            refine hw_icmp_ge (tgt := 193) hx hb d_Mo_round_186 (by decide) (by omega) (by omega) (fun c9 => absurd c9 (by decide)) (fun _ => ?_)
            refine lv_iconst (v := nI 1) hx hb d_Mo_round_189 (by decide) ?_
            refine lv_goto (tgt := 194) hx hb d_Mo_round_190 (by decide) ?_
            refine hw_cV (As := [.int (sgI (σ a)), .int (nI 1)]) (rest := []) S hI m_Mo_floor w_919 (c_Mo_floor l D t0 L _ _ mm mc ml mg mw mr (nI 0) y134 sn wt rr (sgI (σ a)) 1 hn (by decide) (by rw [k34]; exact hB0) (by rw [k32]; exact p4 120 hNl (by decide))) hm.1 rfl hl.1 rfl rfl (Nat.le_of_ble_eq_true rfl) d_Mo_round_194 ⟨Nat.le_of_ble_eq_true rfl, Nat.le_of_ble_eq_true rfl⟩ ⟨Nat.le_of_ble_eq_true rfl, Nat.le_of_ble_eq_true rfl⟩ (fun v9 L9 f135 H locs hp hI => ?_)
            refine W.cs (cells' := 0) (slots' := 0) rfl rfl ?_
            obtain ⟨hv9, rfl, ⟨y8, e32, hrow, hn⟩, hF9⟩ := hp
            cases hv9
            refine hw_stk (st' := []) rfl ?_
            have hF := hF.trans hF9
            rw [k32, k34] at e32
            have hR : RM σ y8 sn := hR.of hrow
            obtain ⟨cs, ns, hm, hc⟩ := id hn
            have k32 : y8 32 = rndQ (σ a) d 0 := by rw [e32, rndQ_0, ← hN, ← hB]; congr 1; simp only [hng]
            refine lv_aload_n hx hb d_Mo_round_197 rfl (lv_at hl 1 rfl) ?_
            refine lv_aload_n hx hb d_Mo_round_198 rfl (lv_at hl 1 rfl) ?_
            refine lv_iload_n hx hb d_Mo_round_199 rfl (lv_at hl 2 rfl) ?_
            refine lv_iload hx hb d_Mo_round_200 (lv_at hl 0 rfl) ?_
            refine lv_iload_n hx hb d_Mo_round_202 rfl (lv_at hl 4 rfl) ?_
            refine hw_cV (As := [.int (nI r), .int (sgI (σ a)), .int (nI d)]) (rest := [.ref (mm)]) S hI m_Mo_units w_923 (c_Mo_units l D t0 L _ _ mm mc ml mg mw mr (nI 0) y8 sn wt rr σ r (sgI (σ a)) d (σ a).2.2 hn hR hr9 (by omega) (by rw [k32]; exact (fun h => sgI_ne (fun q => h (by rw [hz0 q]))))) hm.1 rfl hl.1 rfl rfl (Nat.le_of_ble_eq_true rfl) d_Mo_round_203 ⟨Nat.le_of_ble_eq_true rfl, Nat.le_of_ble_eq_true rfl⟩ ⟨Nat.le_of_ble_eq_true rfl, Nat.le_of_ble_eq_true rfl⟩ (fun v9 L9 f136 H locs hp hI => ?_)
            refine W.cs (cells' := 0) (slots' := 0) rfl rfl ?_
            obtain ⟨hv9, rfl, ⟨y9, sn9, hn, hR⟩, hF9⟩ := hp
            cases hv9
            refine hw_stk (st' := [.int (if fitR (lows (y8 32) (10 ^ d) (σ a).2.2) = true then nI 1 else nI 0), .ref (mm)]) rfl ?_
            have hF := hF.trans hF9
            rw [k32] at hR
            obtain ⟨cs, ns, hm, hc⟩ := id hn
            by_cases hfit : fitR (lows (rndQ (σ a) d 0) (10 ^ d) (σ a).2.2) = true
            · refine hw_ti (show _ = nI 1 from by rw [k32, if_pos hfit]) ?_
              rw [if_pos hfit] at hR
              refine hw_if_eq (tgt := 213) hx hb d_Mo_round_206 (by decide) (by decide) (fun c9 => absurd c9 (by decide)) (fun _ => ?_)
              refine lv_iconst (v := nI 0) hx hb d_Mo_round_209 (by decide) ?_
              refine lv_goto (tgt := 214) hx hb d_Mo_round_210 (by decide) ?_
              refine ob_put S hI hm.1 (fs' := [.int (nI 0), .ref (mc), .ref (ml), .ref (mg), .ref (mw), .ref (mr)]) (C := R_Mo) (T := F_Mo) (N := 6) (ref := "WallFractionsModel") rfl i_Mo t_Mo t_Mo_ok n_Mo 0 (by decide) rfl w_771 rfl rfl rfl (by simp only [List.length]; decide) rfl d_Mo_round_214 (fun f137 H locs hI hO9 hf137 => ?_)
              have hm := hm.umm hf137 hO9
              have hF := hF.umm hf137
              have hn := (⟨_, _, hm, hc⟩ : Mn D L _ mm mc ml mg mw mr _ _ _ _ _)
              exact hw_vret hx hb hr hlocks hI d_Mo_round_217 ⟨rfl, rfl, by rw [show opRnd σ (nI r) (nI a) (nI d) (nI 0) = (0, va_up σ r (lows (rndQ (σ a) d 0) (10 ^ d) (σ a).2.2)) from by unfold opRnd; rw [if_pos hv, putR_eq, ix_nI (by omega), ix_nI (by omega), nI_clamp (by omega), nI_clamp (by omega), if_pos hfit]]; exact ⟨_, _, _, hn, hR⟩, hF⟩
            · refine hw_ti (show _ = nI 0 from by rw [k32, if_neg hfit]) ?_
              rw [if_neg hfit] at hR
              refine hw_if_eq (tgt := 213) hx hb d_Mo_round_206 (by decide) (by decide) (fun _ => ?_) (fun c9 => absurd c9 (by decide))
              refine lv_iconst (v := nI 2) hx hb d_Mo_round_213 (by decide) ?_
              refine ob_put S hI hm.1 (fs' := [.int (nI 2), .ref (mc), .ref (ml), .ref (mg), .ref (mw), .ref (mr)]) (C := R_Mo) (T := F_Mo) (N := 6) (ref := "WallFractionsModel") rfl i_Mo t_Mo t_Mo_ok n_Mo 0 (by decide) rfl w_771 rfl rfl rfl (by simp only [List.length]; decide) rfl d_Mo_round_214 (fun f138 H locs hI hO9 hf138 => ?_)
              have hm := hm.umm hf138 hO9
              have hF := hF.umm hf138
              have hn := (⟨_, _, hm, hc⟩ : Mn D L _ mm mc ml mg mw mr _ _ _ _ _)
              exact hw_vret hx hb hr hlocks hI d_Mo_round_217 ⟨rfl, rfl, by rw [show opRnd σ (nI r) (nI a) (nI d) (nI 0) = (2, σ) from by unfold opRnd; rw [if_pos hv, putR_eq, ix_nI (by omega), ix_nI (by omega), nI_clamp (by omega), nI_clamp (by omega), if_neg hfit]]; exact ⟨_, _, _, hn, hR⟩, hF⟩
          · have hz0 : (σ a).1 = 0 → rndQ (σ a) d 1 = 0 := fun q => by unfold rndQ upF; rw [q, oka.2.2.2.2 q, Nat.zero_mul, Nat.zero_div, Nat.zero_mod]; have := oka.2.2.1; simp; omega
            refine lv_iload hx hb d_Mo_round_88 (lv_at hl 5 rfl) ?_
            refine lv_iconst (v := nI 1) hx hb d_Mo_round_90 (by decide) ?_
            refine hw_icmp_ne (tgt := 180) hx hb d_Mo_round_91 (by decide) (by omega) (by omega) (fun c9 => absurd c9 (by decide)) (fun _ => ?_)
            refine lv_aload_n hx hb d_Mo_round_94 rfl (lv_at hl 1 rfl) ?_
            refine lv_bipush (v := nI 32) hx hb d_Mo_round_95 (by decide) ?_
            refine hw_ldc2 (v := lN 2) hx hb hown (hT _ w_913) d_Mo_round_97 ?_
            refine lv_lconst (v := lN 0) hx hb d_Mo_round_100 rfl ?_
            refine hw_cV (As := [.int (nI 32), .long (lN 2), .long (lN 0)]) (rest := []) S hI m_Mo_times w_851 (c_Mo_times l D t0 L _ _ mm mc ml mg mw mr (nI 0) y134 sn wt rr 32 2 0 hn (by decide) (by rw [k32]; exact p4 125 hNl (by decide)) (by decide) (by decide)) hm.1 rfl hl.1 rfl rfl (Nat.le_of_ble_eq_true rfl) d_Mo_round_101 ⟨Nat.le_of_ble_eq_true rfl, Nat.le_of_ble_eq_true rfl⟩ ⟨Nat.le_of_ble_eq_true rfl, Nat.le_of_ble_eq_true rfl⟩ (fun v9 L9 f139 H locs hp hI => ?_)
            refine W.cs (cells' := 0) (slots' := 0) rfl rfl ?_
            obtain ⟨hv9, rfl, hn, hF9⟩ := hp
            cases hv9
            refine hw_stk (st' := []) rfl ?_
            have hF := hF.trans hF9
            obtain ⟨y140, ey⟩ : ∃ z9, z9 = va_up y134 32 (y134 32 * 2 + 0) := ⟨_, rfl⟩
            rw [← ey] at hn
            have q32 : y140 32 = N * 2 + 0 := by rw [ey]; rw [hw_up_eq, k32]
            have q34 : y140 34 = Bd := by rw [ey, hw_up_ne (by decide)]; exact k34
            have k32 := q32
            have k34 := q34
            have hR : RM σ y140 sn := by rw [ey]; exact hR.up (by decide)
            obtain ⟨cs, ns, hm, hc⟩ := id hn
            rw [Nat.add_zero] at k32
            have hN2 : N * 2 < 10000 ^ 66 := by rw [Nat.pow_succ]; omega
            refine lv_iload hx hb d_Mo_round_104 (lv_at hl 0 rfl) ?_
            refine lv_if_lt (tgt := 125) hx hb d_Mo_round_106 (by decide) (fun c141 => ?_) (fun c141 => ?_)
            · have hs9 : (σ a).2.2 = true := hng.mp c141
              refine lv_aload_n hx hb d_Mo_round_125 rfl (lv_at hl 1 rfl) ?_
              refine lv_bipush (v := nI 32) hx hb d_Mo_round_126 (by decide) ?_
              refine lv_bipush (v := nI 34) hx hb d_Mo_round_128 (by decide) ?_
              refine hw_cV (As := [.int (nI 32), .int (nI 34)]) (rest := []) S hI m_Mo_order w_874 (c_Mo_order l D t0 L _ _ mm mc ml mg mw mr (nI 0) y140 sn wt rr 32 34 hn (by decide) (by decide)) hm.1 rfl hl.1 rfl rfl (Nat.le_of_ble_eq_true rfl) d_Mo_round_130 ⟨Nat.le_of_ble_eq_true rfl, Nat.le_of_ble_eq_true rfl⟩ ⟨Nat.le_of_ble_eq_true rfl, Nat.le_of_ble_eq_true rfl⟩ (fun v9 L9 f150 H locs hp hI => ?_)
              refine W.cs (cells' := 0) (slots' := 0) rfl rfl ?_
              obtain ⟨hv9, rfl, rfl⟩ := hp
              cases hv9
              refine hw_stk (st' := [.int (cmpN (y140 32) (y140 34))]) rfl ?_
              refine hw_ti (show _ = cmpN (N * 2) Bd from by rw [k32, k34]) ?_
              refine lv_if_le (tgt := 149) hx hb d_Mo_round_133 (by decide) (fun c151 => ?_) (fun c151 => ?_)
              · have hle9 : N * 2 ≤ Bd := cmpN_pos.mp c151
                refine lv_aload_n hx hb d_Mo_round_149 rfl (lv_at hl 1 rfl) ?_
                refine lv_bipush (v := nI 35) hx hb d_Mo_round_150 (by decide) ?_
                refine lv_bipush (v := nI 34) hx hb d_Mo_round_152 (by decide) ?_
                refine lv_bipush (v := nI 32) hx hb d_Mo_round_154 (by decide) ?_
                refine hw_cV (As := [.int (nI 35), .int (nI 34), .int (nI 32)]) (rest := []) S hI m_Mo_less w_878 (c_Mo_less l D t0 L _ _ mm mc ml mg mw mr (nI 0) y140 sn wt rr 35 34 32 hn (by decide) (by decide) (by decide) (by rw [k32, k34]; omega)) hm.1 rfl hl.1 rfl rfl (Nat.le_of_ble_eq_true rfl) d_Mo_round_156 ⟨Nat.le_of_ble_eq_true rfl, Nat.le_of_ble_eq_true rfl⟩ ⟨Nat.le_of_ble_eq_true rfl, Nat.le_of_ble_eq_true rfl⟩ (fun v9 L9 f160 H locs hp hI => ?_)
                refine W.cs (cells' := 0) (slots' := 0) rfl rfl ?_
                obtain ⟨hv9, rfl, hn, hF9⟩ := hp
                cases hv9
                refine hw_stk (st' := []) rfl ?_
                have hF := hF.trans hF9
                obtain ⟨y161, ey⟩ : ∃ z9, z9 = va_up y140 35 (y140 34 - y140 32) := ⟨_, rfl⟩
                rw [← ey] at hn
                have q35 : y161 35 = Bd - N * 2 := by rw [ey]; rw [hw_up_eq, k34, k32]
                have q32 : y161 32 = N * 2 := by rw [ey, hw_up_ne (by decide)]; exact k32
                have q34 : y161 34 = Bd := by rw [ey, hw_up_ne (by decide)]; exact k34
                have k35 := q35
                have k32 := q32
                have k34 := q34
                have hR : RM σ y161 sn := by rw [ey]; exact hR.up (by decide)
                obtain ⟨cs, ns, hm, hc⟩ := id hn
                refine lv_aload_n hx hb d_Mo_round_159 rfl (lv_at hl 1 rfl) ?_
                refine lv_bipush (v := nI 32) hx hb d_Mo_round_160 (by decide) ?_
                refine lv_bipush (v := nI 35) hx hb d_Mo_round_162 (by decide) ?_
                refine hw_cV (As := [.int (nI 32), .int (nI 35)]) (rest := []) S hI m_Mo_copy w_810 (c_Mo_copy l D t0 L _ _ mm mc ml mg mw mr (nI 0) y161 sn wt rr 32 35 hn (by decide) (by decide)) hm.1 rfl hl.1 rfl rfl (Nat.le_of_ble_eq_true rfl) d_Mo_round_164 ⟨Nat.le_of_ble_eq_true rfl, Nat.le_of_ble_eq_true rfl⟩ ⟨Nat.le_of_ble_eq_true rfl, Nat.le_of_ble_eq_true rfl⟩ (fun v9 L9 f162 H locs hp hI => ?_)
                refine W.cs (cells' := 0) (slots' := 0) rfl rfl ?_
                obtain ⟨hv9, rfl, hn, hF9⟩ := hp
                cases hv9
                refine hw_stk (st' := []) rfl ?_
                have hF := hF.trans hF9
                obtain ⟨y163, ey⟩ : ∃ z9, z9 = va_up y161 32 (y161 35) := ⟨_, rfl⟩
                rw [← ey] at hn
                have q32 : y163 32 = Bd - N * 2 := by rw [ey]; rw [hw_up_eq]; exact k35
                have q35 : y163 35 = Bd - N * 2 := by rw [ey, hw_up_ne (by decide)]; exact k35
                have q34 : y163 34 = Bd := by rw [ey, hw_up_ne (by decide)]; exact k34
                have k32 := q32
                have k35 := q35
                have k34 := q34
                have hR : RM σ y163 sn := by rw [ey]; exact hR.up (by decide)
                obtain ⟨cs, ns, hm, hc⟩ := id hn
                refine lv_iconst (v := nI 1) hx hb d_Mo_round_167 (by decide) ?_
                refine lv_istore (lv' := [(5, .int (nI 1)), (0, .ref (mm)), (1, .int (nI r)), (2, .int (nI a)), (3, .int (nI d)), (4, .int (nI 1))]) hx hb d_Mo_round_168 hl (by decide) rfl (fun ls hl => ?_)
                refine lv_aload_n hx hb d_Mo_round_170 rfl (lv_at hl 1 rfl) ?_
                refine lv_bipush (v := nI 34) hx hb d_Mo_round_171 (by decide) ?_
                refine hw_ldc2 (v := lN 2) hx hb hown (hT _ w_913) d_Mo_round_173 ?_
                refine lv_lconst (v := lN 0) hx hb d_Mo_round_176 rfl ?_
                refine hw_cV (As := [.int (nI 34), .long (lN 2), .long (lN 0)]) (rest := []) S hI m_Mo_times w_851 (c_Mo_times l D t0 L _ _ mm mc ml mg mw mr (nI 0) y163 sn wt rr 34 2 0 hn (by decide) (by rw [k34]; exact p4 125 hBl (by decide)) (by decide) (by decide)) hm.1 rfl hl.1 rfl rfl (Nat.le_of_ble_eq_true rfl) d_Mo_round_177 ⟨Nat.le_of_ble_eq_true rfl, Nat.le_of_ble_eq_true rfl⟩ ⟨Nat.le_of_ble_eq_true rfl, Nat.le_of_ble_eq_true rfl⟩ (fun v9 L9 f164 H locs hp hI => ?_)
                refine W.cs (cells' := 0) (slots' := 0) rfl rfl ?_
                obtain ⟨hv9, rfl, hn, hF9⟩ := hp
                cases hv9
                refine hw_stk (st' := []) rfl ?_
                have hF := hF.trans hF9
                obtain ⟨y165, ey⟩ : ∃ z9, z9 = va_up y163 34 (y163 34 * 2 + 0) := ⟨_, rfl⟩
                rw [← ey] at hn
                have q34 : y165 34 = Bd * 2 + 0 := by rw [ey]; rw [hw_up_eq, k34]
                have q32 : y165 32 = Bd - N * 2 := by rw [ey, hw_up_ne (by decide)]; exact k32
                have q35 : y165 35 = Bd - N * 2 := by rw [ey, hw_up_ne (by decide)]; exact k35
                have k34 := q34
                have k32 := q32
                have k35 := q35
                have hR : RM σ y165 sn := by rw [ey]; exact hR.up (by decide)
                obtain ⟨cs, ns, hm, hc⟩ := id hn
                rw [Nat.add_zero] at k34
                refine lv_aload_n hx hb d_Mo_round_180 rfl (lv_at hl 1 rfl) ?_
                refine lv_iload hx hb d_Mo_round_181 (lv_at hl 0 rfl) ?_
                refine lv_iload hx hb d_Mo_round_183 (lv_at hl 5 rfl) ?_
                refine lv_iconst (v := nI 2) hx hb d_Mo_round_185 (by decide) ?_
                refine hw_icmp_ge (tgt := 193) hx hb d_Mo_round_186 (by decide) (by omega) (by omega) (fun c9 => absurd c9 (by decide)) (fun _ => ?_)
                refine lv_iconst (v := nI 1) hx hb d_Mo_round_189 (by decide) ?_
                refine lv_goto (tgt := 194) hx hb d_Mo_round_190 (by decide) ?_
                refine hw_cV (As := [.int (nI 1), .int (nI 1)]) (rest := []) S hI m_Mo_floor w_919 (c_Mo_floor l D t0 L _ _ mm mc ml mg mw mr (nI 0) y165 sn wt rr (nI 1) 1 hn (by decide) (by rw [k34]; omega) (by rw [k32]; exact p4 120 (Nat.lt_of_le_of_lt (Nat.sub_le _ _) hBl) (by decide))) hm.1 rfl hl.1 rfl rfl (Nat.le_of_ble_eq_true rfl) d_Mo_round_194 ⟨Nat.le_of_ble_eq_true rfl, Nat.le_of_ble_eq_true rfl⟩ ⟨Nat.le_of_ble_eq_true rfl, Nat.le_of_ble_eq_true rfl⟩ (fun v9 L9 f166 H locs hp hI => ?_)
                refine W.cs (cells' := 0) (slots' := 0) rfl rfl ?_
                obtain ⟨hv9, rfl, ⟨y8, e32, hrow, hn⟩, hF9⟩ := hp
                cases hv9
                refine hw_stk (st' := []) rfl ?_
                have hF := hF.trans hF9
                rw [k32, k34] at e32
                have hR : RM σ y8 sn := hR.of hrow
                obtain ⟨cs, ns, hm, hc⟩ := id hn
                obtain ⟨z1, z2⟩ := rndQ_1z (d := d) (show 0 < (σ a).2.1 by rw [← hB]; exact hB0) hs9 (by rw [← hN, ← hB]; exact hle9)
                rw [← hN, ← hB] at z2
                have k32 : y8 32 = rndQ (σ a) d 1 := by rw [e32, z1, z2, if_neg (fun h => absurd h.2.2 (by decide))]
                refine lv_aload_n hx hb d_Mo_round_197 rfl (lv_at hl 1 rfl) ?_
                refine lv_aload_n hx hb d_Mo_round_198 rfl (lv_at hl 1 rfl) ?_
                refine lv_iload_n hx hb d_Mo_round_199 rfl (lv_at hl 2 rfl) ?_
                refine lv_iload hx hb d_Mo_round_200 (lv_at hl 0 rfl) ?_
                refine lv_iload_n hx hb d_Mo_round_202 rfl (lv_at hl 4 rfl) ?_
                refine hw_cV (As := [.int (nI r), .int (nI 1), .int (nI d)]) (rest := [.ref (mm)]) S hI m_Mo_units w_923 (c_Mo_units l D t0 L _ _ mm mc ml mg mw mr (nI 0) y8 sn wt rr σ r (nI 1) d (σ a).2.2 hn hR hr9 (by omega) (by rw [k32]; exact (fun h => absurd z1 h))) hm.1 rfl hl.1 rfl rfl (Nat.le_of_ble_eq_true rfl) d_Mo_round_203 ⟨Nat.le_of_ble_eq_true rfl, Nat.le_of_ble_eq_true rfl⟩ ⟨Nat.le_of_ble_eq_true rfl, Nat.le_of_ble_eq_true rfl⟩ (fun v9 L9 f167 H locs hp hI => ?_)
                refine W.cs (cells' := 0) (slots' := 0) rfl rfl ?_
                obtain ⟨hv9, rfl, ⟨y9, sn9, hn, hR⟩, hF9⟩ := hp
                cases hv9
                refine hw_stk (st' := [.int (if fitR (lows (y8 32) (10 ^ d) (σ a).2.2) = true then nI 1 else nI 0), .ref (mm)]) rfl ?_
                have hF := hF.trans hF9
                rw [k32] at hR
                obtain ⟨cs, ns, hm, hc⟩ := id hn
                by_cases hfit : fitR (lows (rndQ (σ a) d 1) (10 ^ d) (σ a).2.2) = true
                · refine hw_ti (show _ = nI 1 from by rw [k32, if_pos hfit]) ?_
                  rw [if_pos hfit] at hR
                  refine hw_if_eq (tgt := 213) hx hb d_Mo_round_206 (by decide) (by decide) (fun c9 => absurd c9 (by decide)) (fun _ => ?_)
                  refine lv_iconst (v := nI 0) hx hb d_Mo_round_209 (by decide) ?_
                  refine lv_goto (tgt := 214) hx hb d_Mo_round_210 (by decide) ?_
                  refine ob_put S hI hm.1 (fs' := [.int (nI 0), .ref (mc), .ref (ml), .ref (mg), .ref (mw), .ref (mr)]) (C := R_Mo) (T := F_Mo) (N := 6) (ref := "WallFractionsModel") rfl i_Mo t_Mo t_Mo_ok n_Mo 0 (by decide) rfl w_771 rfl rfl rfl (by simp only [List.length]; decide) rfl d_Mo_round_214 (fun f168 H locs hI hO9 hf168 => ?_)
                  have hm := hm.umm hf168 hO9
                  have hF := hF.umm hf168
                  have hn := (⟨_, _, hm, hc⟩ : Mn D L _ mm mc ml mg mw mr _ _ _ _ _)
                  exact hw_vret hx hb hr hlocks hI d_Mo_round_217 ⟨rfl, rfl, by rw [show opRnd σ (nI r) (nI a) (nI d) (nI 1) = (0, va_up σ r (lows (rndQ (σ a) d 1) (10 ^ d) (σ a).2.2)) from by unfold opRnd; rw [if_pos hv, putR_eq, ix_nI (by omega), ix_nI (by omega), nI_clamp (by omega), nI_clamp (by omega), if_pos hfit]]; exact ⟨_, _, _, hn, hR⟩, hF⟩
                · refine hw_ti (show _ = nI 0 from by rw [k32, if_neg hfit]) ?_
                  rw [if_neg hfit] at hR
                  refine hw_if_eq (tgt := 213) hx hb d_Mo_round_206 (by decide) (by decide) (fun _ => ?_) (fun c9 => absurd c9 (by decide))
                  refine lv_iconst (v := nI 2) hx hb d_Mo_round_213 (by decide) ?_
                  refine ob_put S hI hm.1 (fs' := [.int (nI 2), .ref (mc), .ref (ml), .ref (mg), .ref (mw), .ref (mr)]) (C := R_Mo) (T := F_Mo) (N := 6) (ref := "WallFractionsModel") rfl i_Mo t_Mo t_Mo_ok n_Mo 0 (by decide) rfl w_771 rfl rfl rfl (by simp only [List.length]; decide) rfl d_Mo_round_214 (fun f169 H locs hI hO9 hf169 => ?_)
                  have hm := hm.umm hf169 hO9
                  have hF := hF.umm hf169
                  have hn := (⟨_, _, hm, hc⟩ : Mn D L _ mm mc ml mg mw mr _ _ _ _ _)
                  exact hw_vret hx hb hr hlocks hI d_Mo_round_217 ⟨rfl, rfl, by rw [show opRnd σ (nI r) (nI a) (nI d) (nI 1) = (2, σ) from by unfold opRnd; rw [if_pos hv, putR_eq, ix_nI (by omega), ix_nI (by omega), nI_clamp (by omega), nI_clamp (by omega), if_neg hfit]]; exact ⟨_, _, _, hn, hR⟩, hF⟩
              · have hlt9 : Bd < N * 2 := Nat.not_le.mp (fun h => c151 (cmpN_pos.mpr h))
                refine lv_aload_n hx hb d_Mo_round_136 rfl (lv_at hl 1 rfl) ?_
                refine lv_bipush (v := nI 32) hx hb d_Mo_round_137 (by decide) ?_
                refine lv_bipush (v := nI 32) hx hb d_Mo_round_139 (by decide) ?_
                refine lv_bipush (v := nI 34) hx hb d_Mo_round_141 (by decide) ?_
                refine hw_cV (As := [.int (nI 32), .int (nI 32), .int (nI 34)]) (rest := []) S hI m_Mo_less w_878 (c_Mo_less l D t0 L _ _ mm mc ml mg mw mr (nI 0) y140 sn wt rr 32 32 34 hn (by decide) (by decide) (by decide) (by rw [k32, k34]; omega)) hm.1 rfl hl.1 rfl rfl (Nat.le_of_ble_eq_true rfl) d_Mo_round_143 ⟨Nat.le_of_ble_eq_true rfl, Nat.le_of_ble_eq_true rfl⟩ ⟨Nat.le_of_ble_eq_true rfl, Nat.le_of_ble_eq_true rfl⟩ (fun v9 L9 f152 H locs hp hI => ?_)
                refine W.cs (cells' := 0) (slots' := 0) rfl rfl ?_
                obtain ⟨hv9, rfl, hn, hF9⟩ := hp
                cases hv9
                refine hw_stk (st' := []) rfl ?_
                have hF := hF.trans hF9
                obtain ⟨y153, ey⟩ : ∃ z9, z9 = va_up y140 32 (y140 32 - y140 34) := ⟨_, rfl⟩
                rw [← ey] at hn
                have q32 : y153 32 = N * 2 - Bd := by rw [ey]; rw [hw_up_eq, k32, k34]
                have q34 : y153 34 = Bd := by rw [ey, hw_up_ne (by decide)]; exact k34
                have k32 := q32
                have k34 := q34
                have hR : RM σ y153 sn := by rw [ey]; exact hR.up (by decide)
                obtain ⟨cs, ns, hm, hc⟩ := id hn
                refine lv_goto (tgt := 170) hx hb d_Mo_round_146 (by decide) ?_
                refine lv_aload_n hx hb d_Mo_round_170 rfl (lv_at hl 1 rfl) ?_
                refine lv_bipush (v := nI 34) hx hb d_Mo_round_171 (by decide) ?_
                refine hw_ldc2 (v := lN 2) hx hb hown (hT _ w_913) d_Mo_round_173 ?_
                refine lv_lconst (v := lN 0) hx hb d_Mo_round_176 rfl ?_
                refine hw_cV (As := [.int (nI 34), .long (lN 2), .long (lN 0)]) (rest := []) S hI m_Mo_times w_851 (c_Mo_times l D t0 L _ _ mm mc ml mg mw mr (nI 0) y153 sn wt rr 34 2 0 hn (by decide) (by rw [k34]; exact p4 125 hBl (by decide)) (by decide) (by decide)) hm.1 rfl hl.1 rfl rfl (Nat.le_of_ble_eq_true rfl) d_Mo_round_177 ⟨Nat.le_of_ble_eq_true rfl, Nat.le_of_ble_eq_true rfl⟩ ⟨Nat.le_of_ble_eq_true rfl, Nat.le_of_ble_eq_true rfl⟩ (fun v9 L9 f154 H locs hp hI => ?_)
                refine W.cs (cells' := 0) (slots' := 0) rfl rfl ?_
                obtain ⟨hv9, rfl, hn, hF9⟩ := hp
                cases hv9
                refine hw_stk (st' := []) rfl ?_
                have hF := hF.trans hF9
                obtain ⟨y155, ey⟩ : ∃ z9, z9 = va_up y153 34 (y153 34 * 2 + 0) := ⟨_, rfl⟩
                rw [← ey] at hn
                have q34 : y155 34 = Bd * 2 + 0 := by rw [ey]; rw [hw_up_eq, k34]
                have q32 : y155 32 = N * 2 - Bd := by rw [ey, hw_up_ne (by decide)]; exact k32
                have k34 := q34
                have k32 := q32
                have hR : RM σ y155 sn := by rw [ey]; exact hR.up (by decide)
                obtain ⟨cs, ns, hm, hc⟩ := id hn
                rw [Nat.add_zero] at k34
                refine lv_aload_n hx hb d_Mo_round_180 rfl (lv_at hl 1 rfl) ?_
                refine lv_iload hx hb d_Mo_round_181 (lv_at hl 0 rfl) ?_
                refine lv_iload hx hb d_Mo_round_183 (lv_at hl 5 rfl) ?_
                refine lv_iconst (v := nI 2) hx hb d_Mo_round_185 (by decide) ?_
                refine hw_icmp_ge (tgt := 193) hx hb d_Mo_round_186 (by decide) (by omega) (by omega) (fun c9 => absurd c9 (by decide)) (fun _ => ?_)
                refine lv_iconst (v := nI 1) hx hb d_Mo_round_189 (by decide) ?_
                refine lv_goto (tgt := 194) hx hb d_Mo_round_190 (by decide) ?_
                refine hw_cV (As := [.int (sgI (σ a)), .int (nI 1)]) (rest := []) S hI m_Mo_floor w_919 (c_Mo_floor l D t0 L _ _ mm mc ml mg mw mr (nI 0) y155 sn wt rr (sgI (σ a)) 1 hn (by decide) (by rw [k34]; omega) (by rw [k32]; exact p4 120 (Nat.lt_of_le_of_lt (Nat.sub_le _ _) hN2) (by decide))) hm.1 rfl hl.1 rfl rfl (Nat.le_of_ble_eq_true rfl) d_Mo_round_194 ⟨Nat.le_of_ble_eq_true rfl, Nat.le_of_ble_eq_true rfl⟩ ⟨Nat.le_of_ble_eq_true rfl, Nat.le_of_ble_eq_true rfl⟩ (fun v9 L9 f156 H locs hp hI => ?_)
                refine W.cs (cells' := 0) (slots' := 0) rfl rfl ?_
                obtain ⟨hv9, rfl, ⟨y8, e32, hrow, hn⟩, hF9⟩ := hp
                cases hv9
                refine hw_stk (st' := []) rfl ?_
                have hF := hF.trans hF9
                rw [k32, k34] at e32
                have hR : RM σ y8 sn := hR.of hrow
                obtain ⟨cs, ns, hm, hc⟩ := id hn
                have hneg9 := hng.mpr hs9
                have k32 : y8 32 = rndQ (σ a) d 1 := by rw [e32, rndQ_1n (by rw [← hB]; exact hB0) hs9 (by rw [← hN, ← hB]; exact hlt9), ← hN, ← hB]; congr 1; simp only [hneg9, and_true, true_and]
                refine lv_aload_n hx hb d_Mo_round_197 rfl (lv_at hl 1 rfl) ?_
                refine lv_aload_n hx hb d_Mo_round_198 rfl (lv_at hl 1 rfl) ?_
                refine lv_iload_n hx hb d_Mo_round_199 rfl (lv_at hl 2 rfl) ?_
                refine lv_iload hx hb d_Mo_round_200 (lv_at hl 0 rfl) ?_
                refine lv_iload_n hx hb d_Mo_round_202 rfl (lv_at hl 4 rfl) ?_
                refine hw_cV (As := [.int (nI r), .int (sgI (σ a)), .int (nI d)]) (rest := [.ref (mm)]) S hI m_Mo_units w_923 (c_Mo_units l D t0 L _ _ mm mc ml mg mw mr (nI 0) y8 sn wt rr σ r (sgI (σ a)) d (σ a).2.2 hn hR hr9 (by omega) (by rw [k32]; exact (fun h => sgI_ne (fun q => h (by rw [hz0 q]))))) hm.1 rfl hl.1 rfl rfl (Nat.le_of_ble_eq_true rfl) d_Mo_round_203 ⟨Nat.le_of_ble_eq_true rfl, Nat.le_of_ble_eq_true rfl⟩ ⟨Nat.le_of_ble_eq_true rfl, Nat.le_of_ble_eq_true rfl⟩ (fun v9 L9 f157 H locs hp hI => ?_)
                refine W.cs (cells' := 0) (slots' := 0) rfl rfl ?_
                obtain ⟨hv9, rfl, ⟨y9, sn9, hn, hR⟩, hF9⟩ := hp
                cases hv9
                refine hw_stk (st' := [.int (if fitR (lows (y8 32) (10 ^ d) (σ a).2.2) = true then nI 1 else nI 0), .ref (mm)]) rfl ?_
                have hF := hF.trans hF9
                rw [k32] at hR
                obtain ⟨cs, ns, hm, hc⟩ := id hn
                by_cases hfit : fitR (lows (rndQ (σ a) d 1) (10 ^ d) (σ a).2.2) = true
                · refine hw_ti (show _ = nI 1 from by rw [k32, if_pos hfit]) ?_
                  rw [if_pos hfit] at hR
                  refine hw_if_eq (tgt := 213) hx hb d_Mo_round_206 (by decide) (by decide) (fun c9 => absurd c9 (by decide)) (fun _ => ?_)
                  refine lv_iconst (v := nI 0) hx hb d_Mo_round_209 (by decide) ?_
                  refine lv_goto (tgt := 214) hx hb d_Mo_round_210 (by decide) ?_
                  refine ob_put S hI hm.1 (fs' := [.int (nI 0), .ref (mc), .ref (ml), .ref (mg), .ref (mw), .ref (mr)]) (C := R_Mo) (T := F_Mo) (N := 6) (ref := "WallFractionsModel") rfl i_Mo t_Mo t_Mo_ok n_Mo 0 (by decide) rfl w_771 rfl rfl rfl (by simp only [List.length]; decide) rfl d_Mo_round_214 (fun f158 H locs hI hO9 hf158 => ?_)
                  have hm := hm.umm hf158 hO9
                  have hF := hF.umm hf158
                  have hn := (⟨_, _, hm, hc⟩ : Mn D L _ mm mc ml mg mw mr _ _ _ _ _)
                  exact hw_vret hx hb hr hlocks hI d_Mo_round_217 ⟨rfl, rfl, by rw [show opRnd σ (nI r) (nI a) (nI d) (nI 1) = (0, va_up σ r (lows (rndQ (σ a) d 1) (10 ^ d) (σ a).2.2)) from by unfold opRnd; rw [if_pos hv, putR_eq, ix_nI (by omega), ix_nI (by omega), nI_clamp (by omega), nI_clamp (by omega), if_pos hfit]]; exact ⟨_, _, _, hn, hR⟩, hF⟩
                · refine hw_ti (show _ = nI 0 from by rw [k32, if_neg hfit]) ?_
                  rw [if_neg hfit] at hR
                  refine hw_if_eq (tgt := 213) hx hb d_Mo_round_206 (by decide) (by decide) (fun _ => ?_) (fun c9 => absurd c9 (by decide))
                  refine lv_iconst (v := nI 2) hx hb d_Mo_round_213 (by decide) ?_
                  refine ob_put S hI hm.1 (fs' := [.int (nI 2), .ref (mc), .ref (ml), .ref (mg), .ref (mw), .ref (mr)]) (C := R_Mo) (T := F_Mo) (N := 6) (ref := "WallFractionsModel") rfl i_Mo t_Mo t_Mo_ok n_Mo 0 (by decide) rfl w_771 rfl rfl rfl (by simp only [List.length]; decide) rfl d_Mo_round_214 (fun f159 H locs hI hO9 hf159 => ?_)
                  have hm := hm.umm hf159 hO9
                  have hF := hF.umm hf159
                  have hn := (⟨_, _, hm, hc⟩ : Mn D L _ mm mc ml mg mw mr _ _ _ _ _)
                  exact hw_vret hx hb hr hlocks hI d_Mo_round_217 ⟨rfl, rfl, by rw [show opRnd σ (nI r) (nI a) (nI d) (nI 1) = (2, σ) from by unfold opRnd; rw [if_pos hv, putR_eq, ix_nI (by omega), ix_nI (by omega), nI_clamp (by omega), nI_clamp (by omega), if_neg hfit]]; exact ⟨_, _, _, hn, hR⟩, hF⟩
            · have hs9 : (σ a).2.2 = false := by cases e9 : (σ a).2.2; rfl; exact absurd (hng.mpr e9) c141
              refine lv_aload_n hx hb d_Mo_round_109 rfl (lv_at hl 1 rfl) ?_
              refine lv_bipush (v := nI 32) hx hb d_Mo_round_110 (by decide) ?_
              refine lv_bipush (v := nI 32) hx hb d_Mo_round_112 (by decide) ?_
              refine lv_bipush (v := nI 34) hx hb d_Mo_round_114 (by decide) ?_
              refine hw_cV (As := [.int (nI 32), .int (nI 32), .int (nI 34)]) (rest := []) S hI m_Mo_plus w_870 (c_Mo_plus l D t0 L _ _ mm mc ml mg mw mr (nI 0) y140 sn wt rr 32 32 34 hn (by decide) (by decide) (by decide) (by rw [k32]; exact p4 127 hN2 (by decide)) (by rw [k34]; exact p4 127 hBl (by decide))) hm.1 rfl hl.1 rfl rfl (Nat.le_of_ble_eq_true rfl) d_Mo_round_116 ⟨Nat.le_of_ble_eq_true rfl, Nat.le_of_ble_eq_true rfl⟩ ⟨Nat.le_of_ble_eq_true rfl, Nat.le_of_ble_eq_true rfl⟩ (fun v9 L9 f142 H locs hp hI => ?_)
              refine W.cs (cells' := 0) (slots' := 0) rfl rfl ?_
              obtain ⟨hv9, rfl, hn, hF9⟩ := hp
              cases hv9
              refine hw_stk (st' := []) rfl ?_
              have hF := hF.trans hF9
              obtain ⟨y143, ey⟩ : ∃ z9, z9 = va_up y140 32 (y140 32 + y140 34) := ⟨_, rfl⟩
              rw [← ey] at hn
              have q32 : y143 32 = N * 2 + Bd := by rw [ey]; rw [hw_up_eq, k32, k34]
              have q34 : y143 34 = Bd := by rw [ey, hw_up_ne (by decide)]; exact k34
              have k32 := q32
              have k34 := q34
              have hR : RM σ y143 sn := by rw [ey]; exact hR.up (by decide)
              obtain ⟨cs, ns, hm, hc⟩ := id hn
              have hA9 : N * 2 + Bd < 10000 ^ 67 := by have h1 := p4 66 hBl (by decide); rw [Nat.pow_succ]; omega
              refine lv_iconst (v := nI 1) hx hb d_Mo_round_119 (by decide) ?_
              refine lv_istore (lv' := [(5, .int (nI 1)), (0, .ref (mm)), (1, .int (nI r)), (2, .int (nI a)), (3, .int (nI d)), (4, .int (nI 1))]) hx hb d_Mo_round_120 hl (by decide) rfl (fun ls hl => ?_)
              refine lv_goto (tgt := 170) hx hb d_Mo_round_122 (by decide) ?_
              refine lv_aload_n hx hb d_Mo_round_170 rfl (lv_at hl 1 rfl) ?_
              refine lv_bipush (v := nI 34) hx hb d_Mo_round_171 (by decide) ?_
              refine hw_ldc2 (v := lN 2) hx hb hown (hT _ w_913) d_Mo_round_173 ?_
              refine lv_lconst (v := lN 0) hx hb d_Mo_round_176 rfl ?_
              refine hw_cV (As := [.int (nI 34), .long (lN 2), .long (lN 0)]) (rest := []) S hI m_Mo_times w_851 (c_Mo_times l D t0 L _ _ mm mc ml mg mw mr (nI 0) y143 sn wt rr 34 2 0 hn (by decide) (by rw [k34]; exact p4 125 hBl (by decide)) (by decide) (by decide)) hm.1 rfl hl.1 rfl rfl (Nat.le_of_ble_eq_true rfl) d_Mo_round_177 ⟨Nat.le_of_ble_eq_true rfl, Nat.le_of_ble_eq_true rfl⟩ ⟨Nat.le_of_ble_eq_true rfl, Nat.le_of_ble_eq_true rfl⟩ (fun v9 L9 f144 H locs hp hI => ?_)
              refine W.cs (cells' := 0) (slots' := 0) rfl rfl ?_
              obtain ⟨hv9, rfl, hn, hF9⟩ := hp
              cases hv9
              refine hw_stk (st' := []) rfl ?_
              have hF := hF.trans hF9
              obtain ⟨y145, ey⟩ : ∃ z9, z9 = va_up y143 34 (y143 34 * 2 + 0) := ⟨_, rfl⟩
              rw [← ey] at hn
              have q34 : y145 34 = Bd * 2 + 0 := by rw [ey]; rw [hw_up_eq, k34]
              have q32 : y145 32 = N * 2 + Bd := by rw [ey, hw_up_ne (by decide)]; exact k32
              have k34 := q34
              have k32 := q32
              have hR : RM σ y145 sn := by rw [ey]; exact hR.up (by decide)
              obtain ⟨cs, ns, hm, hc⟩ := id hn
              rw [Nat.add_zero] at k34
              refine lv_aload_n hx hb d_Mo_round_180 rfl (lv_at hl 1 rfl) ?_
              refine lv_iload hx hb d_Mo_round_181 (lv_at hl 0 rfl) ?_
              refine lv_iload hx hb d_Mo_round_183 (lv_at hl 5 rfl) ?_
              refine lv_iconst (v := nI 2) hx hb d_Mo_round_185 (by decide) ?_
              refine hw_icmp_ge (tgt := 193) hx hb d_Mo_round_186 (by decide) (by omega) (by omega) (fun c9 => absurd c9 (by decide)) (fun _ => ?_)
              refine lv_iconst (v := nI 1) hx hb d_Mo_round_189 (by decide) ?_
              refine lv_goto (tgt := 194) hx hb d_Mo_round_190 (by decide) ?_
              refine hw_cV (As := [.int (nI 1), .int (nI 1)]) (rest := []) S hI m_Mo_floor w_919 (c_Mo_floor l D t0 L _ _ mm mc ml mg mw mr (nI 0) y145 sn wt rr (nI 1) 1 hn (by decide) (by rw [k34]; omega) (by rw [k32]; exact p4 120 hA9 (by decide))) hm.1 rfl hl.1 rfl rfl (Nat.le_of_ble_eq_true rfl) d_Mo_round_194 ⟨Nat.le_of_ble_eq_true rfl, Nat.le_of_ble_eq_true rfl⟩ ⟨Nat.le_of_ble_eq_true rfl, Nat.le_of_ble_eq_true rfl⟩ (fun v9 L9 f146 H locs hp hI => ?_)
              refine W.cs (cells' := 0) (slots' := 0) rfl rfl ?_
              obtain ⟨hv9, rfl, ⟨y8, e32, hrow, hn⟩, hF9⟩ := hp
              cases hv9
              refine hw_stk (st' := []) rfl ?_
              have hF := hF.trans hF9
              rw [k32, k34] at e32
              have hR : RM σ y8 sn := hR.of hrow
              obtain ⟨cs, ns, hm, hc⟩ := id hn
              have k32 : y8 32 = rndQ (σ a) d 1 := by rw [e32, rndQ_1p (by rw [← hB]; exact hB0) hs9, ← hN, ← hB, if_neg (fun h => absurd h.2.2 (by decide)), Nat.add_zero]
              refine lv_aload_n hx hb d_Mo_round_197 rfl (lv_at hl 1 rfl) ?_
              refine lv_aload_n hx hb d_Mo_round_198 rfl (lv_at hl 1 rfl) ?_
              refine lv_iload_n hx hb d_Mo_round_199 rfl (lv_at hl 2 rfl) ?_
              refine lv_iload hx hb d_Mo_round_200 (lv_at hl 0 rfl) ?_
              refine lv_iload_n hx hb d_Mo_round_202 rfl (lv_at hl 4 rfl) ?_
              refine hw_cV (As := [.int (nI r), .int (nI 1), .int (nI d)]) (rest := [.ref (mm)]) S hI m_Mo_units w_923 (c_Mo_units l D t0 L _ _ mm mc ml mg mw mr (nI 0) y8 sn wt rr σ r (nI 1) d (σ a).2.2 hn hR hr9 (by omega) (by rw [k32]; exact (fun _ => by rw [hs9]; rfl))) hm.1 rfl hl.1 rfl rfl (Nat.le_of_ble_eq_true rfl) d_Mo_round_203 ⟨Nat.le_of_ble_eq_true rfl, Nat.le_of_ble_eq_true rfl⟩ ⟨Nat.le_of_ble_eq_true rfl, Nat.le_of_ble_eq_true rfl⟩ (fun v9 L9 f147 H locs hp hI => ?_)
              refine W.cs (cells' := 0) (slots' := 0) rfl rfl ?_
              obtain ⟨hv9, rfl, ⟨y9, sn9, hn, hR⟩, hF9⟩ := hp
              cases hv9
              refine hw_stk (st' := [.int (if fitR (lows (y8 32) (10 ^ d) (σ a).2.2) = true then nI 1 else nI 0), .ref (mm)]) rfl ?_
              have hF := hF.trans hF9
              rw [k32] at hR
              obtain ⟨cs, ns, hm, hc⟩ := id hn
              by_cases hfit : fitR (lows (rndQ (σ a) d 1) (10 ^ d) (σ a).2.2) = true
              · refine hw_ti (show _ = nI 1 from by rw [k32, if_pos hfit]) ?_
                rw [if_pos hfit] at hR
                refine hw_if_eq (tgt := 213) hx hb d_Mo_round_206 (by decide) (by decide) (fun c9 => absurd c9 (by decide)) (fun _ => ?_)
                refine lv_iconst (v := nI 0) hx hb d_Mo_round_209 (by decide) ?_
                refine lv_goto (tgt := 214) hx hb d_Mo_round_210 (by decide) ?_
                refine ob_put S hI hm.1 (fs' := [.int (nI 0), .ref (mc), .ref (ml), .ref (mg), .ref (mw), .ref (mr)]) (C := R_Mo) (T := F_Mo) (N := 6) (ref := "WallFractionsModel") rfl i_Mo t_Mo t_Mo_ok n_Mo 0 (by decide) rfl w_771 rfl rfl rfl (by simp only [List.length]; decide) rfl d_Mo_round_214 (fun f148 H locs hI hO9 hf148 => ?_)
                have hm := hm.umm hf148 hO9
                have hF := hF.umm hf148
                have hn := (⟨_, _, hm, hc⟩ : Mn D L _ mm mc ml mg mw mr _ _ _ _ _)
                exact hw_vret hx hb hr hlocks hI d_Mo_round_217 ⟨rfl, rfl, by rw [show opRnd σ (nI r) (nI a) (nI d) (nI 1) = (0, va_up σ r (lows (rndQ (σ a) d 1) (10 ^ d) (σ a).2.2)) from by unfold opRnd; rw [if_pos hv, putR_eq, ix_nI (by omega), ix_nI (by omega), nI_clamp (by omega), nI_clamp (by omega), if_pos hfit]]; exact ⟨_, _, _, hn, hR⟩, hF⟩
              · refine hw_ti (show _ = nI 0 from by rw [k32, if_neg hfit]) ?_
                rw [if_neg hfit] at hR
                refine hw_if_eq (tgt := 213) hx hb d_Mo_round_206 (by decide) (by decide) (fun _ => ?_) (fun c9 => absurd c9 (by decide))
                refine lv_iconst (v := nI 2) hx hb d_Mo_round_213 (by decide) ?_
                refine ob_put S hI hm.1 (fs' := [.int (nI 2), .ref (mc), .ref (ml), .ref (mg), .ref (mw), .ref (mr)]) (C := R_Mo) (T := F_Mo) (N := 6) (ref := "WallFractionsModel") rfl i_Mo t_Mo t_Mo_ok n_Mo 0 (by decide) rfl w_771 rfl rfl rfl (by simp only [List.length]; decide) rfl d_Mo_round_214 (fun f149 H locs hI hO9 hf149 => ?_)
                have hm := hm.umm hf149 hO9
                have hF := hF.umm hf149
                have hn := (⟨_, _, hm, hc⟩ : Mn D L _ mm mc ml mg mw mr _ _ _ _ _)
                exact hw_vret hx hb hr hlocks hI d_Mo_round_217 ⟨rfl, rfl, by rw [show opRnd σ (nI r) (nI a) (nI d) (nI 1) = (2, σ) from by unfold opRnd; rw [if_pos hv, putR_eq, ix_nI (by omega), ix_nI (by omega), nI_clamp (by omega), nI_clamp (by omega), if_neg hfit]]; exact ⟨_, _, _, hn, hR⟩, hF⟩
          · have hz0 : (σ a).1 = 0 → rndQ (σ a) d 2 = 0 := fun q => by unfold rndQ upF; rw [q, oka.2.2.2.2 q, Nat.zero_mul, Nat.zero_div, Nat.zero_mod]; rfl
            refine lv_iload hx hb d_Mo_round_88 (lv_at hl 5 rfl) ?_
            refine lv_iconst (v := nI 1) hx hb d_Mo_round_90 (by decide) ?_
            refine hw_icmp_ne (tgt := 180) hx hb d_Mo_round_91 (by decide) (by omega) (by omega) (fun _ => ?_) (fun c9 => absurd c9 (by decide))
            refine lv_aload_n hx hb d_Mo_round_180 rfl (lv_at hl 1 rfl) ?_
            refine lv_iload hx hb d_Mo_round_181 (lv_at hl 0 rfl) ?_
            refine lv_iload hx hb d_Mo_round_183 (lv_at hl 5 rfl) ?_
            refine lv_iconst (v := nI 2) hx hb d_Mo_round_185 (by decide) ?_
            refine hw_icmp_ge (tgt := 193) hx hb d_Mo_round_186 (by decide) (by omega) (by omega) (fun _ => ?_) (fun c9 => absurd c9 (by decide))
            refine lv_iconst (v := nI 0) hx hb d_Mo_round_193 (by decide) ?_
            refine hw_cV (As := [.int (sgI (σ a)), .int (nI 0)]) (rest := []) S hI m_Mo_floor w_919 (c_Mo_floor l D t0 L _ _ mm mc ml mg mw mr (nI 0) y134 sn wt rr (sgI (σ a)) 0 hn (by decide) (by rw [k34]; exact hB0) (by rw [k32]; exact p4 120 hNl (by decide))) hm.1 rfl hl.1 rfl rfl (Nat.le_of_ble_eq_true rfl) d_Mo_round_194 ⟨Nat.le_of_ble_eq_true rfl, Nat.le_of_ble_eq_true rfl⟩ ⟨Nat.le_of_ble_eq_true rfl, Nat.le_of_ble_eq_true rfl⟩ (fun v9 L9 f170 H locs hp hI => ?_)
            refine W.cs (cells' := 0) (slots' := 0) rfl rfl ?_
            obtain ⟨hv9, rfl, ⟨y8, e32, hrow, hn⟩, hF9⟩ := hp
            cases hv9
            refine hw_stk (st' := []) rfl ?_
            have hF := hF.trans hF9
            rw [k32, k34] at e32
            have hR : RM σ y8 sn := hR.of hrow
            obtain ⟨cs, ns, hm, hc⟩ := id hn
            have k32 : y8 32 = rndQ (σ a) d 2 := by rw [e32, rndQ_2, ← hN, ← hB, if_neg (fun h => absurd h.1 (by decide)), Nat.add_zero]
            refine lv_aload_n hx hb d_Mo_round_197 rfl (lv_at hl 1 rfl) ?_
            refine lv_aload_n hx hb d_Mo_round_198 rfl (lv_at hl 1 rfl) ?_
            refine lv_iload_n hx hb d_Mo_round_199 rfl (lv_at hl 2 rfl) ?_
            refine lv_iload hx hb d_Mo_round_200 (lv_at hl 0 rfl) ?_
            refine lv_iload_n hx hb d_Mo_round_202 rfl (lv_at hl 4 rfl) ?_
            refine hw_cV (As := [.int (nI r), .int (sgI (σ a)), .int (nI d)]) (rest := [.ref (mm)]) S hI m_Mo_units w_923 (c_Mo_units l D t0 L _ _ mm mc ml mg mw mr (nI 0) y8 sn wt rr σ r (sgI (σ a)) d (σ a).2.2 hn hR hr9 (by omega) (by rw [k32]; exact (fun h => sgI_ne (fun q => h (by rw [hz0 q]))))) hm.1 rfl hl.1 rfl rfl (Nat.le_of_ble_eq_true rfl) d_Mo_round_203 ⟨Nat.le_of_ble_eq_true rfl, Nat.le_of_ble_eq_true rfl⟩ ⟨Nat.le_of_ble_eq_true rfl, Nat.le_of_ble_eq_true rfl⟩ (fun v9 L9 f171 H locs hp hI => ?_)
            refine W.cs (cells' := 0) (slots' := 0) rfl rfl ?_
            obtain ⟨hv9, rfl, ⟨y9, sn9, hn, hR⟩, hF9⟩ := hp
            cases hv9
            refine hw_stk (st' := [.int (if fitR (lows (y8 32) (10 ^ d) (σ a).2.2) = true then nI 1 else nI 0), .ref (mm)]) rfl ?_
            have hF := hF.trans hF9
            rw [k32] at hR
            obtain ⟨cs, ns, hm, hc⟩ := id hn
            by_cases hfit : fitR (lows (rndQ (σ a) d 2) (10 ^ d) (σ a).2.2) = true
            · refine hw_ti (show _ = nI 1 from by rw [k32, if_pos hfit]) ?_
              rw [if_pos hfit] at hR
              refine hw_if_eq (tgt := 213) hx hb d_Mo_round_206 (by decide) (by decide) (fun c9 => absurd c9 (by decide)) (fun _ => ?_)
              refine lv_iconst (v := nI 0) hx hb d_Mo_round_209 (by decide) ?_
              refine lv_goto (tgt := 214) hx hb d_Mo_round_210 (by decide) ?_
              refine ob_put S hI hm.1 (fs' := [.int (nI 0), .ref (mc), .ref (ml), .ref (mg), .ref (mw), .ref (mr)]) (C := R_Mo) (T := F_Mo) (N := 6) (ref := "WallFractionsModel") rfl i_Mo t_Mo t_Mo_ok n_Mo 0 (by decide) rfl w_771 rfl rfl rfl (by simp only [List.length]; decide) rfl d_Mo_round_214 (fun f172 H locs hI hO9 hf172 => ?_)
              have hm := hm.umm hf172 hO9
              have hF := hF.umm hf172
              have hn := (⟨_, _, hm, hc⟩ : Mn D L _ mm mc ml mg mw mr _ _ _ _ _)
              exact hw_vret hx hb hr hlocks hI d_Mo_round_217 ⟨rfl, rfl, by rw [show opRnd σ (nI r) (nI a) (nI d) (nI 2) = (0, va_up σ r (lows (rndQ (σ a) d 2) (10 ^ d) (σ a).2.2)) from by unfold opRnd; rw [if_pos hv, putR_eq, ix_nI (by omega), ix_nI (by omega), nI_clamp (by omega), nI_clamp (by omega), if_pos hfit]]; exact ⟨_, _, _, hn, hR⟩, hF⟩
            · refine hw_ti (show _ = nI 0 from by rw [k32, if_neg hfit]) ?_
              rw [if_neg hfit] at hR
              refine hw_if_eq (tgt := 213) hx hb d_Mo_round_206 (by decide) (by decide) (fun _ => ?_) (fun c9 => absurd c9 (by decide))
              refine lv_iconst (v := nI 2) hx hb d_Mo_round_213 (by decide) ?_
              refine ob_put S hI hm.1 (fs' := [.int (nI 2), .ref (mc), .ref (ml), .ref (mg), .ref (mw), .ref (mr)]) (C := R_Mo) (T := F_Mo) (N := 6) (ref := "WallFractionsModel") rfl i_Mo t_Mo t_Mo_ok n_Mo 0 (by decide) rfl w_771 rfl rfl rfl (by simp only [List.length]; decide) rfl d_Mo_round_214 (fun f173 H locs hI hO9 hf173 => ?_)
              have hm := hm.umm hf173 hO9
              have hF := hF.umm hf173
              have hn := (⟨_, _, hm, hc⟩ : Mn D L _ mm mc ml mg mw mr _ _ _ _ _)
              exact hw_vret hx hb hr hlocks hI d_Mo_round_217 ⟨rfl, rfl, by rw [show opRnd σ (nI r) (nI a) (nI d) (nI 2) = (2, σ) from by unfold opRnd; rw [if_pos hv, putR_eq, ix_nI (by omega), ix_nI (by omega), nI_clamp (by omega), nI_clamp (by omega), if_neg hfit]]; exact ⟨_, _, _, hn, hR⟩, hF⟩
        · refine hw_cS (As := [.long ((h0).toInt64), .long (lN 0), .long (lN 2)]) (rest := [.ref (mm)]) S hI m_Mo_in w_843 (c_Mo_in l D t0 L _ _ h0 0 2 (by omega) (by omega)) hl.1 rfl rfl (Nat.le_of_ble_eq_true rfl) d_Mo_round_34 ⟨Nat.le_of_ble_eq_true rfl, Nat.le_of_ble_eq_true rfl⟩ ⟨Nat.le_of_ble_eq_true rfl, Nat.le_of_ble_eq_true rfl⟩ (fun v9 L9 f125 H locs hp hI => ?_)
          refine W.cs (cells' := 0) (slots' := 0) rfl rfl ?_
          obtain ⟨hv9, rfl, rfl⟩ := hp
          cases hv9
          refine hw_stk (st' := [.int (if inR h0 0 2 = true then nI 1 else nI 0), .ref (mm)]) rfl ?_
          refine hw_ti (show _ = nI 0 from by rw [if_neg hh0]) ?_
          refine hw_if_eq (tgt := 44) hx hb d_Mo_round_37 (by decide) (by decide) (fun _ => ?_) (fun c9 => absurd c9 (by decide))
          have e9 : opRnd σ r0 a0 d0 h0 = (1, σ) := by unfold opRnd; rw [if_neg (by simp [hh0])]
          refine lv_iconst (v := nI 1) hx hb d_Mo_round_44 (by decide) ?_
          refine ob_put S hI hm.1 (fs' := [.int (nI 1), .ref (mc), .ref (ml), .ref (mg), .ref (mw), .ref (mr)]) (C := R_Mo) (T := F_Mo) (N := 6) (ref := "WallFractionsModel") rfl i_Mo t_Mo t_Mo_ok n_Mo 0 (by decide) rfl w_771 rfl rfl rfl (by simp only [List.length]; decide) rfl d_Mo_round_45 (fun f127 H locs hI hO9 hf127 => ?_)
          have hm := hm.umm hf127 hO9
          have hF := hF.umm hf127
          have hn := (⟨_, _, hm, hc⟩ : Mn D L _ mm mc ml mg mw mr _ _ _ _ _)
          refine lv_aload_n hx hb d_Mo_round_48 rfl (lv_at hl 0 rfl) ?_
          refine ob_get S hI hm.1 (C := R_Mo) (T := F_Mo) (N := 6) (ref := "WallFractionsModel") rfl i_Mo 0 (by decide) rfl w_771 rfl d_Mo_round_49 ?_
          refine hw_if_le (tgt := 56) hx hb d_Mo_round_52 (by decide) (by decide) (fun c9 => absurd c9 (by decide)) (fun _ => ?_)
          exact hw_vret hx hb hr hlocks hI d_Mo_round_55 ⟨rfl, rfl, by rw [e9]; exact ⟨_, _, _, hn, hR⟩, hF⟩
      · refine hw_cS (As := [.long ((d0).toInt64), .long (lN 0), .long (lN 40)]) (rest := [.ref (mm)]) S hI m_Mo_in w_843 (c_Mo_in l D t0 L _ _ d0 0 40 (by omega) (by omega)) hl.1 rfl rfl (Nat.le_of_ble_eq_true rfl) d_Mo_round_21 ⟨Nat.le_of_ble_eq_true rfl, Nat.le_of_ble_eq_true rfl⟩ ⟨Nat.le_of_ble_eq_true rfl, Nat.le_of_ble_eq_true rfl⟩ (fun v9 L9 f122 H locs hp hI => ?_)
        refine W.cs (cells' := 0) (slots' := 0) rfl rfl ?_
        obtain ⟨hv9, rfl, rfl⟩ := hp
        cases hv9
        refine hw_stk (st' := [.int (if inR d0 0 40 = true then nI 1 else nI 0), .ref (mm)]) rfl ?_
        refine hw_ti (show _ = nI 0 from by rw [if_neg hd0]) ?_
        refine hw_if_eq (tgt := 44) hx hb d_Mo_round_24 (by decide) (by decide) (fun _ => ?_) (fun c9 => absurd c9 (by decide))
        have e9 : opRnd σ r0 a0 d0 h0 = (1, σ) := by unfold opRnd; rw [if_neg (by simp [hd0])]
        refine lv_iconst (v := nI 1) hx hb d_Mo_round_44 (by decide) ?_
        refine ob_put S hI hm.1 (fs' := [.int (nI 1), .ref (mc), .ref (ml), .ref (mg), .ref (mw), .ref (mr)]) (C := R_Mo) (T := F_Mo) (N := 6) (ref := "WallFractionsModel") rfl i_Mo t_Mo t_Mo_ok n_Mo 0 (by decide) rfl w_771 rfl rfl rfl (by simp only [List.length]; decide) rfl d_Mo_round_45 (fun f124 H locs hI hO9 hf124 => ?_)
        have hm := hm.umm hf124 hO9
        have hF := hF.umm hf124
        have hn := (⟨_, _, hm, hc⟩ : Mn D L _ mm mc ml mg mw mr _ _ _ _ _)
        refine lv_aload_n hx hb d_Mo_round_48 rfl (lv_at hl 0 rfl) ?_
        refine ob_get S hI hm.1 (C := R_Mo) (T := F_Mo) (N := 6) (ref := "WallFractionsModel") rfl i_Mo 0 (by decide) rfl w_771 rfl d_Mo_round_49 ?_
        refine hw_if_le (tgt := 56) hx hb d_Mo_round_52 (by decide) (by decide) (fun c9 => absurd c9 (by decide)) (fun _ => ?_)
        exact hw_vret hx hb hr hlocks hI d_Mo_round_55 ⟨rfl, rfl, by rw [e9]; exact ⟨_, _, _, hn, hR⟩, hF⟩
    · refine hw_cS (As := [.int (a0)]) (rest := [.ref (mm)]) S hI m_Mo_isRegister w_799 (c_Mo_isRegister l D t0 L _ _ a0) hl.1 rfl rfl (Nat.le_of_ble_eq_true rfl) d_Mo_round_9 ⟨Nat.le_of_ble_eq_true rfl, Nat.le_of_ble_eq_true rfl⟩ ⟨Nat.le_of_ble_eq_true rfl, Nat.le_of_ble_eq_true rfl⟩ (fun v9 L9 f119 H locs hp hI => ?_)
      refine W.cs (cells' := 0) (slots' := 0) rfl rfl ?_
      obtain ⟨hv9, rfl, rfl⟩ := hp
      cases hv9
      refine hw_stk (st' := [.int (if vr a0 = true then nI 1 else nI 0), .ref (mm)]) rfl ?_
      refine hw_ti (show _ = nI 0 from by rw [if_neg ha0]) ?_
      refine hw_if_eq (tgt := 44) hx hb d_Mo_round_12 (by decide) (by decide) (fun _ => ?_) (fun c9 => absurd c9 (by decide))
      have e9 : opRnd σ r0 a0 d0 h0 = (1, σ) := by unfold opRnd; rw [if_neg (by simp [ha0])]
      refine lv_iconst (v := nI 1) hx hb d_Mo_round_44 (by decide) ?_
      refine ob_put S hI hm.1 (fs' := [.int (nI 1), .ref (mc), .ref (ml), .ref (mg), .ref (mw), .ref (mr)]) (C := R_Mo) (T := F_Mo) (N := 6) (ref := "WallFractionsModel") rfl i_Mo t_Mo t_Mo_ok n_Mo 0 (by decide) rfl w_771 rfl rfl rfl (by simp only [List.length]; decide) rfl d_Mo_round_45 (fun f121 H locs hI hO9 hf121 => ?_)
      have hm := hm.umm hf121 hO9
      have hF := hF.umm hf121
      have hn := (⟨_, _, hm, hc⟩ : Mn D L _ mm mc ml mg mw mr _ _ _ _ _)
      refine lv_aload_n hx hb d_Mo_round_48 rfl (lv_at hl 0 rfl) ?_
      refine ob_get S hI hm.1 (C := R_Mo) (T := F_Mo) (N := 6) (ref := "WallFractionsModel") rfl i_Mo 0 (by decide) rfl w_771 rfl d_Mo_round_49 ?_
      refine hw_if_le (tgt := 56) hx hb d_Mo_round_52 (by decide) (by decide) (fun c9 => absurd c9 (by decide)) (fun _ => ?_)
      exact hw_vret hx hb hr hlocks hI d_Mo_round_55 ⟨rfl, rfl, by rw [e9]; exact ⟨_, _, _, hn, hR⟩, hF⟩
  · refine hw_cS (As := [.int (r0)]) (rest := [.ref (mm)]) S hI m_Mo_isRegister w_799 (c_Mo_isRegister l D t0 L _ _ r0) hl.1 rfl rfl (Nat.le_of_ble_eq_true rfl) d_Mo_round_2 ⟨Nat.le_of_ble_eq_true rfl, Nat.le_of_ble_eq_true rfl⟩ ⟨Nat.le_of_ble_eq_true rfl, Nat.le_of_ble_eq_true rfl⟩ (fun v9 L9 f116 H locs hp hI => ?_)
    refine W.cs (cells' := 0) (slots' := 0) rfl rfl ?_
    obtain ⟨hv9, rfl, rfl⟩ := hp
    cases hv9
    refine hw_stk (st' := [.int (if vr r0 = true then nI 1 else nI 0), .ref (mm)]) rfl ?_
    refine hw_ti (show _ = nI 0 from by rw [if_neg hr0]) ?_
    refine hw_if_eq (tgt := 44) hx hb d_Mo_round_5 (by decide) (by decide) (fun _ => ?_) (fun c9 => absurd c9 (by decide))
    have e9 : opRnd σ r0 a0 d0 h0 = (1, σ) := by unfold opRnd; rw [if_neg (by simp [hr0])]
    refine lv_iconst (v := nI 1) hx hb d_Mo_round_44 (by decide) ?_
    refine ob_put S hI hm.1 (fs' := [.int (nI 1), .ref (mc), .ref (ml), .ref (mg), .ref (mw), .ref (mr)]) (C := R_Mo) (T := F_Mo) (N := 6) (ref := "WallFractionsModel") rfl i_Mo t_Mo t_Mo_ok n_Mo 0 (by decide) rfl w_771 rfl rfl rfl (by simp only [List.length]; decide) rfl d_Mo_round_45 (fun f118 H locs hI hO9 hf118 => ?_)
    have hm := hm.umm hf118 hO9
    have hF := hF.umm hf118
    have hn := (⟨_, _, hm, hc⟩ : Mn D L _ mm mc ml mg mw mr _ _ _ _ _)
    refine lv_aload_n hx hb d_Mo_round_48 rfl (lv_at hl 0 rfl) ?_
    refine ob_get S hI hm.1 (C := R_Mo) (T := F_Mo) (N := 6) (ref := "WallFractionsModel") rfl i_Mo 0 (by decide) rfl w_771 rfl d_Mo_round_49 ?_
    refine hw_if_le (tgt := 56) hx hb d_Mo_round_52 (by decide) (by decide) (fun c9 => absurd c9 (by decide)) (fun _ => ?_)
    exact hw_vret hx hb hr hlocks hI d_Mo_round_55 ⟨rfl, rfl, by rw [e9]; exact ⟨_, _, _, hn, hR⟩, hF⟩

set_option maxHeartbeats 4000000 in
set_option maxRecDepth 100000 in
theorem c_Mt_max (l : Launch) (D : va_G) (t0 : Nat) (L : List Nat) (f : Nat → va_E) (sz : Nat) (a b : Nat) (ha : a < 2 ^ 31) (hb0 : b < 2 ^ 31) : Met l y_Mt_max (Cond.code y_Mt_max b_Mt_max 2 (some .int) :: TT) ({ frames := 0, cells := 0, slots := 0, locals := 0 } : Room) (hw_Pc t0 [.int (nI a), .int (nI b)] D L f sz) (hw_Q D L sz (fun oc L' f' => oc = .returned (some (.int (nI (max a b)))) ∧ L = L' ∧ f = f')) 0 0 (hw_A L sz) := by
  refine Met.ofWF (cc := b_Mt_max) (maxL := 2) (ret := (some .int)) (by decide +kernel) rfl ?_
  intro p e s m args below meth c s₁ B hml hv
  obtain ⟨rfl, rfl, hI⟩ := hw_start hv
  clear hv
  have hx := B.exec
  have hb := B.bytes
  have hr := B.returns
  have hlocks := B.notSynchronized
  have hown : s.vm.findClass "java/lang/Math" = some m.cls := findClass_of_methodNamed B.named
  have hT : ∀ w ∈ TT, w.before ([.int (nI a), .int (nI b)]).toArray s = true := fun w h => atoms_spec (ws := (Cond.code y_Mt_max b_Mt_max 2 (some .int) :: TT)) B.pre w (List.mem_cons_of_mem _ h)
  have S : CallFix p m c b_Mt_max 2 s ([.int (nI a), .int (nI b)]).toArray TT "java/lang/Math" := ⟨hx, hb, hml, hown, hT⟩
  have hl := lv_entry ([.int (nI a), .int (nI b)]) (n := 2) (Nat.le_of_ble_eq_true rfl)
  rw [lg_entry_eq]
  generalize (lg_sl ([.int (nI a), .int (nI b)]) ++ List.replicate (2 - (lg_sl ([.int (nI a), .int (nI b)])).length) Slot.unset).toArray = ls at hl ⊢
  have hl : lv_has ls 2 [(0, .int (nI a)), (1, .int (nI b))] := hl
  skip
  refine lv_iload_n hx hb d_Mt_max_0 rfl (lv_at hl 0 rfl) ?_
  refine lv_iload_n hx hb d_Mt_max_1 rfl (lv_at hl 1 rfl) ?_
  refine hw_icmp_lt (tgt := 9) hx hb d_Mt_max_2 (by decide) (by omega) (by omega) (fun c1 => ?_) (fun c1 => ?_)
  · refine lv_iload_n hx hb d_Mt_max_9 rfl (lv_at hl 1 rfl) ?_
    exact hw_iret hx hb hr hlocks hI d_Mt_max_10 ⟨by rw [Nat.max_eq_right (by omega)], rfl, rfl⟩
  · refine lv_iload_n hx hb d_Mt_max_5 rfl (lv_at hl 0 rfl) ?_
    refine lv_goto (tgt := 10) hx hb d_Mt_max_6 (by decide) ?_
    exact hw_iret hx hb hr hlocks hI d_Mt_max_10 ⟨by rw [Nat.max_eq_left (by omega)], rfl, rfl⟩
set_option maxHeartbeats 4000000 in
set_option maxRecDepth 100000 in
theorem c_Mt_min (l : Launch) (D : va_G) (t0 : Nat) (L : List Nat) (f : Nat → va_E) (sz : Nat) (a b : Int32)  : Met l y_Mt_min (Cond.code y_Mt_min b_Mt_min 2 (some .int) :: TT) ({ frames := 0, cells := 0, slots := 0, locals := 0 } : Room) (hw_Pc t0 [.int (a), .int (b)] D L f sz) (hw_Q D L sz (fun oc L' f' => oc = .returned (some (.int (if b < a then b else a))) ∧ L = L' ∧ f = f')) 0 0 (hw_A L sz) := by
  refine Met.ofWF (cc := b_Mt_min) (maxL := 2) (ret := (some .int)) (by decide +kernel) rfl ?_
  intro p e s m args below meth c s₁ B hml hv
  obtain ⟨rfl, rfl, hI⟩ := hw_start hv
  clear hv
  have hx := B.exec
  have hb := B.bytes
  have hr := B.returns
  have hlocks := B.notSynchronized
  have hown : s.vm.findClass "java/lang/Math" = some m.cls := findClass_of_methodNamed B.named
  have hT : ∀ w ∈ TT, w.before ([.int (a), .int (b)]).toArray s = true := fun w h => atoms_spec (ws := (Cond.code y_Mt_min b_Mt_min 2 (some .int) :: TT)) B.pre w (List.mem_cons_of_mem _ h)
  have S : CallFix p m c b_Mt_min 2 s ([.int (a), .int (b)]).toArray TT "java/lang/Math" := ⟨hx, hb, hml, hown, hT⟩
  have hl := lv_entry ([.int (a), .int (b)]) (n := 2) (Nat.le_of_ble_eq_true rfl)
  rw [lg_entry_eq]
  generalize (lg_sl ([.int (a), .int (b)]) ++ List.replicate (2 - (lg_sl ([.int (a), .int (b)])).length) Slot.unset).toArray = ls at hl ⊢
  have hl : lv_has ls 2 [(0, .int (a)), (1, .int (b))] := hl
  skip
  refine lv_iload_n hx hb d_Mt_min_0 rfl (lv_at hl 0 rfl) ?_
  refine lv_iload_n hx hb d_Mt_min_1 rfl (lv_at hl 1 rfl) ?_
  refine lv_icmp_gt (tgt := 9) hx hb d_Mt_min_2 (by decide) (fun c2 => ?_) (fun c2 => ?_)
  · refine lv_iload_n hx hb d_Mt_min_9 rfl (lv_at hl 1 rfl) ?_
    exact hw_iret hx hb hr hlocks hI d_Mt_min_10 ⟨by rw [if_pos c2], rfl, rfl⟩
  · refine lv_iload_n hx hb d_Mt_min_5 rfl (lv_at hl 0 rfl) ?_
    refine lv_goto (tgt := 10) hx hb d_Mt_min_6 (by decide) ?_
    exact hw_iret hx hb hr hlocks hI d_Mt_min_10 ⟨by rw [if_neg c2], rfl, rfl⟩
set_option maxHeartbeats 4000000 in
set_option maxRecDepth 100000 in
theorem c_Mt_floorDiv (l : Launch) (D : va_G) (t0 : Nat) (L : List Nat) (f : Nat → va_E) (sz : Nat) (a b : Int) (h1 : -2 ^ 62 < a) (h2 : a < 2 ^ 62) (h3 : 0 < b) (h4 : b < 2 ^ 62) : Met l y_Mt_floorDiv (Cond.code y_Mt_floorDiv b_Mt_floorDiv 6 (some .long) :: TT) ({ frames := 0, cells := 0, slots := 0, locals := 0 } : Room) (hw_Pc t0 [.long (zL a), .long (zL b)] D L f sz) (hw_Q D L sz (fun oc L' f' => oc = .returned (some (.long (zL (a / b)))) ∧ L = L' ∧ f = f')) 0 0 (hw_A L sz) := by
  refine Met.ofWF (cc := b_Mt_floorDiv) (maxL := 6) (ret := (some .long)) (by decide +kernel) rfl ?_
  intro p e s m args below meth c s₁ B hml hv
  obtain ⟨rfl, rfl, hI⟩ := hw_start hv
  clear hv
  have hx := B.exec
  have hb := B.bytes
  have hr := B.returns
  have hlocks := B.notSynchronized
  have hown : s.vm.findClass "java/lang/Math" = some m.cls := findClass_of_methodNamed B.named
  have hT : ∀ w ∈ TT, w.before ([.long (zL a), .long (zL b)]).toArray s = true := fun w h => atoms_spec (ws := (Cond.code y_Mt_floorDiv b_Mt_floorDiv 6 (some .long) :: TT)) B.pre w (List.mem_cons_of_mem _ h)
  have S : CallFix p m c b_Mt_floorDiv 6 s ([.long (zL a), .long (zL b)]).toArray TT "java/lang/Math" := ⟨hx, hb, hml, hown, hT⟩
  have hl := lv_entry ([.long (zL a), .long (zL b)]) (n := 6) (Nat.le_of_ble_eq_true rfl)
  rw [lg_entry_eq]
  generalize (lg_sl ([.long (zL a), .long (zL b)]) ++ List.replicate (6 - (lg_sl ([.long (zL a), .long (zL b)])).length) Slot.unset).toArray = ls at hl ⊢
  have hl : lv_has ls 6 [(0, .long (zL a)), (2, .long (zL b))] := hl
  skip
  have hne : ¬ zL b = 0 := fun h => by have h9 := (zL_eq (b := 0) (by omega) (by omega) (by decide) (by decide)).mp h; omega
  have hq : (a.tdiv b).natAbs ≤ a.natAbs := Int.natAbs_tdiv_le_natAbs a b
  refine lv_lload_n hx hb d_Mt_floorDiv_0 rfl (lv_at hl 0 rfl) ?_
  refine lv_lload_n hx hb d_Mt_floorDiv_1 rfl (lv_at hl 1 rfl) ?_
  refine lv_ldiv hx hb d_Mt_floorDiv_2 (hne) ?_
  refine hw_tl (show _ = zL (a.tdiv b) from zL_div (by omega) (by omega) h3 (by omega)) ?_
  refine lv_lstore (lv' := [(4, .long (zL (a.tdiv b))), (0, .long (zL a)), (2, .long (zL b))]) hx hb d_Mt_floorDiv_3 hl (by decide) rfl (fun ls hl => ?_)
  refine lv_lload_n hx hb d_Mt_floorDiv_5 rfl (lv_at hl 1 rfl) ?_
  refine lv_lload_n hx hb d_Mt_floorDiv_6 rfl (lv_at hl 2 rfl) ?_
  refine lv_lxor hx hb d_Mt_floorDiv_7 ?_
  refine lv_lconst (v := lN 0) hx hb d_Mt_floorDiv_8 rfl ?_
  refine hw_l_ge (tgt := 27) hx hb d_Mt_floorDiv_9 d_Mt_floorDiv_10 (by decide) (fun c3 => ?_) (fun c3 => ?_)
  · have ha := (zL_xor_ge (by omega) (by omega) h3 (by omega)).mp c3
    refine lv_lload hx hb d_Mt_floorDiv_27 (lv_at hl 0 rfl) ?_
    exact hw_lret hx hb hr hlocks hI d_Mt_floorDiv_29 ⟨by rw [fdiv_pos ha h3], rfl, rfl⟩
  · have ha : a < 0 := Int.not_le.mp (fun q => Int64.not_le.mpr c3 ((zL_xor_ge (by omega) (by omega) h3 (by omega)).mpr q))
    have hmt := Int.tdiv_mul_add_tmod a b
    have ht1 := Int.lt_tmod_of_pos a h3
    have ht2 := Int.tmod_lt_of_pos a h3
    refine lv_lload hx hb d_Mt_floorDiv_13 (lv_at hl 0 rfl) ?_
    refine lv_lload_n hx hb d_Mt_floorDiv_15 rfl (lv_at hl 2 rfl) ?_
    refine lv_lmul hx hb d_Mt_floorDiv_16 ?_
    refine hw_tl (show _ = zL (a.tdiv b * b) from zL_mul _ _) ?_
    refine lv_lload_n hx hb d_Mt_floorDiv_17 rfl (lv_at hl 1 rfl) ?_
    refine hw_l_eq (tgt := 27) hx hb d_Mt_floorDiv_18 d_Mt_floorDiv_19 (by decide) (fun c4 => ?_) (fun c4 => ?_)
    · have he := (zL_eq (by omega) (by omega) (by omega) (by omega)).mp c4
      refine lv_lload hx hb d_Mt_floorDiv_27 (lv_at hl 0 rfl) ?_
      exact hw_lret hx hb hr hlocks hI d_Mt_floorDiv_29 ⟨by rw [(fdiv_neg ha h3).1 he], rfl, rfl⟩
    · have he : a.tdiv b * b ≠ a := fun h => c4 (by rw [h])
      refine lv_lload hx hb d_Mt_floorDiv_22 (lv_at hl 0 rfl) ?_
      refine lv_lconst (v := lN 1) hx hb d_Mt_floorDiv_24 rfl ?_
      refine lv_lsub hx hb d_Mt_floorDiv_25 ?_
      refine hw_tl (show _ = zL (a.tdiv b - 1) from zL_sub _ 1) ?_
      exact hw_lret hx hb hr hlocks hI d_Mt_floorDiv_26 ⟨by rw [(fdiv_neg ha h3).2 he], rfl, rfl⟩
set_option maxHeartbeats 4000000 in
set_option maxRecDepth 100000 in
theorem c_Mt_abs (l : Launch) (D : va_G) (t0 : Nat) (L : List Nat) (f : Nat → va_E) (sz : Nat) (a : Int) (h1 : -2 ^ 63 < a) (h2 : a < 2 ^ 63) : Met l y_Mt_abs (Cond.code y_Mt_abs b_Mt_abs 2 (some .long) :: TT) ({ frames := 0, cells := 0, slots := 0, locals := 0 } : Room) (hw_Pc t0 [.long (zL a)] D L f sz) (hw_Q D L sz (fun oc L' f' => oc = .returned (some (.long (lN a.natAbs))) ∧ L = L' ∧ f = f')) 0 0 (hw_A L sz) := by
  refine Met.ofWF (cc := b_Mt_abs) (maxL := 2) (ret := (some .long)) (by decide +kernel) rfl ?_
  intro p e s m args below meth c s₁ B hml hv
  obtain ⟨rfl, rfl, hI⟩ := hw_start hv
  clear hv
  have hx := B.exec
  have hb := B.bytes
  have hr := B.returns
  have hlocks := B.notSynchronized
  have hown : s.vm.findClass "java/lang/Math" = some m.cls := findClass_of_methodNamed B.named
  have hT : ∀ w ∈ TT, w.before ([.long (zL a)]).toArray s = true := fun w h => atoms_spec (ws := (Cond.code y_Mt_abs b_Mt_abs 2 (some .long) :: TT)) B.pre w (List.mem_cons_of_mem _ h)
  have S : CallFix p m c b_Mt_abs 2 s ([.long (zL a)]).toArray TT "java/lang/Math" := ⟨hx, hb, hml, hown, hT⟩
  have hl := lv_entry ([.long (zL a)]) (n := 2) (Nat.le_of_ble_eq_true rfl)
  rw [lg_entry_eq]
  generalize (lg_sl ([.long (zL a)]) ++ List.replicate (2 - (lg_sl ([.long (zL a)])).length) Slot.unset).toArray = ls at hl ⊢
  have hl : lv_has ls 2 [(0, .long (zL a))] := hl
  skip
  refine lv_lload_n hx hb d_Mt_abs_0 rfl (lv_at hl 0 rfl) ?_
  refine lv_lconst (v := lN 0) hx hb d_Mt_abs_1 rfl ?_
  refine hw_l_ge (tgt := 11) hx hb d_Mt_abs_2 d_Mt_abs_3 (by decide) (fun c5 => ?_) (fun c5 => ?_)
  · have ha := (zL_le (a := 0) (by decide) (by decide) (by omega) h2).mp c5
    refine lv_lload_n hx hb d_Mt_abs_11 rfl (lv_at hl 0 rfl) ?_
    exact hw_lret hx hb hr hlocks hI d_Mt_abs_12 ⟨by rw [zL_lN, Int.natAbs_of_nonneg ha], rfl, rfl⟩
  · have ha := (zL_lt (b := 0) (by omega) h2 (by decide) (by decide)).mp c5
    refine lv_lload_n hx hb d_Mt_abs_6 rfl (lv_at hl 0 rfl) ?_
    refine lv_lneg hx hb d_Mt_abs_7 ?_
    refine hw_tl (show _ = zL (-a) from zL_neg _) ?_
    refine lv_goto (tgt := 12) hx hb d_Mt_abs_8 (by decide) ?_
    exact hw_lret hx hb hr hlocks hI d_Mt_abs_12 ⟨by rw [zL_lN, show ((a.natAbs : Nat) : Int) = -a by omega], rfl, rfl⟩

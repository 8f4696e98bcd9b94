set_option maxHeartbeats 4000000 in
set_option maxRecDepth 100000 in
theorem c_Wh_init (l : Launch) (D : va_G) (t0 : Nat) (L : List Nat) (f : Nat → va_E) (sz : Nat) (a0 : Nat)  (hO : hw_c L f a0 (.inr (5, [.null, .int (nI 0)])))  : Met l y_Wh_init (Cond.code y_Wh_init b_Wh_init 1 none :: TT) ({ frames := 1, cells := 1, slots := 41, locals := 40 } : Room) (hw_Pc t0 [.ref (a0)] D L f sz) (hw_Q D L sz (fun oc L' f' => oc = .returned none ∧ ∃ b, b ∉ L ∧ W1 D L' f' a0 b 0 ∧ Ext L f L' f' a0)) 1 41 (hw_A L sz) := by
  refine Met.ofW (cc := b_Wh_init) (maxL := 1) (ret := none) (by decide) rfl ?_
  intro p e s m args below meth c s₁ B hml hv
  obtain ⟨rfl, rfl, hI⟩ := hw_start hv
  clear hv
  have hx := B.exec
  have hb := B.bytes
  have hr := B.returns
  have hlocks := B.notSynchronized
  have hown : s.vm.findClass "WallFractions$Whole" = some m.cls := findClass_of_methodNamed B.named
  have hT : ∀ w ∈ TT, w.before ([.ref (a0)]).toArray s = true := fun w h => atoms_spec (ws := (Cond.code y_Wh_init b_Wh_init 1 none :: TT)) B.pre w (List.mem_cons_of_mem _ h)
  have S : CallFix p m c b_Wh_init 1 s ([.ref (a0)]).toArray TT "WallFractions$Whole" := ⟨hx, hb, hml, hown, hT⟩
  have hin2 : meth.name = "<init>" := (name_of_methodNamed B.named B.method).1
  have hl := lv_entry ([.ref (a0)]) (n := 1) (Nat.le_of_ble_eq_true rfl)
  rw [lg_entry_eq]
  generalize (lg_sl ([.ref (a0)]) ++ List.replicate (1 - (lg_sl ([.ref (a0)])).length) Slot.unset).toArray = ls at hl ⊢
  have hl : lv_has ls 1 [(0, .ref (a0))] := hl
  have hX : Ext L f L f a0 := Ext.refl
  refine lv_aload_n hx hb d_Wh_init_0 rfl (lv_at hl 0 rfl) ?_
  refine W.objInit hx hb hown (hT _ w_38) (hT _ w_24) (hT _ w_25) rfl (by rw [hml]; exact hl.1) rfl d_Wh_init_1 (Nat.le_of_ble_eq_true rfl) (Nat.le_of_ble_eq_true rfl) ?_
  refine W.eq (g2 := F0 m 4 ls []) rfl ?_
  refine lv_aload_n hx hb d_Wh_init_4 rfl (lv_at hl 0 rfl) ?_
  refine lv_bipush (v := nI 41) hx hb d_Wh_init_5 (by decide) ?_
  refine hw_newL S hI w_51 (by decide) (Nat.le_of_ble_eq_true rfl) (Nat.le_of_ble_eq_true rfl) d_Wh_init_7 (fun b1 L101 f101 H hI hq101 hb1 hk101 => ?_)
  have ne_hO_b1 : a0 ≠ b1 := fun e => hq101 (e ▸ hO.1)
  have nL_b1 : b1 ∉ L := fun h => hq101 (hX b1 h).1
  have hO := grow_c hk101 hO
  have hX := hX.new hk101
  refine W.cs (cells' := 1) (slots' := 41) rfl rfl ?_
  have hO9 := hO
  have no_hb1 := hw_c.ne hb1 hO (by first | (intro e; cases e; done) | (intro e; simp at e; done) | (unfold cMs cFr cWt; intro e; simp at e))
  refine ob_putF S hI hO (fs' := [.ref (b1), .int (nI 0)]) (C := R_Wh) (T := F_Wh) (N := 2) (ref := "WallFractions$Whole") rfl i_Wh t_Wh t_Wh_ok n_Wh 0 (by decide) rfl w_39 rfl hin2 rfl rfl rfl (by simp only [List.length]; decide) rfl d_Wh_init_9 (fun f102 H locs hI hO hf102 => ?_)
  have hb1 := hw_c.fr hb1 (hf102 _ no_hb1)
  have hX := hX.put hf102
  refine lv_aload_n hx hb d_Wh_init_12 rfl (lv_at hl 0 rfl) ?_
  refine lv_iconst (v := nI 0) hx hb d_Wh_init_13 (by decide) ?_
  have hO9 := hO
  have no_hb1 := hw_c.ne hb1 hO (by first | (intro e; cases e; done) | (intro e; simp at e; done) | (unfold cMs cFr cWt; intro e; simp at e))
  refine ob_put S hI hO (fs' := [.ref (b1), .int (nI 0)]) (C := R_Wh) (T := F_Wh) (N := 2) (ref := "WallFractions$Whole") rfl i_Wh t_Wh t_Wh_ok n_Wh 1 (by decide) rfl w_42 rfl rfl rfl (by simp only [List.length]; decide) rfl d_Wh_init_14 (fun f103 H locs hI hO hf103 => ?_)
  have hb1 := hw_c.fr hb1 (hf103 _ no_hb1)
  have hX := hX.put hf103
  exact hw_vret hx hb hr hlocks hI d_Wh_init_17 ⟨rfl, b1, nL_b1, ⟨(0, fun _ => 0), hO, hb1, by decide, nOk.mk0 (fun _ => nB_pos)⟩, hX⟩
set_option maxHeartbeats 4000000 in
set_option maxRecDepth 100000 in
theorem c_Fr_init (l : Launch) (D : va_G) (t0 : Nat) (L : List Nat) (f : Nat → va_E) (sz : Nat) (a0 : Nat)  (hO : hw_c L f a0 (.inr (1, [.null, .null, .int (nI 0)])))  : Met l y_Fr_init (Cond.code y_Fr_init b_Fr_init 1 none :: TT) ({ frames := 2, cells := 4, slots := 86, locals := 60 } : Room) (hw_Pc t0 [.ref (a0)] D L f sz) (hw_Q D L sz (fun oc L' f' => oc = .returned none ∧ ∃ a1 b1 a2 b2, a1 ∉ L ∧ b1 ∉ L ∧ a2 ∉ L ∧ b2 ∉ L ∧ a1 ≠ a2 ∧ b1 ≠ b2 ∧ hw_c L' f' a0 (.inr (1, [.ref a1, .ref a2, .int (nI 0)])) ∧ W1 D L' f' a1 b1 0 ∧ W1 D L' f' a2 b2 1 ∧ Ext L f L' f' a0)) 4 86 (hw_A L sz) := by
  refine Met.ofW (cc := b_Fr_init) (maxL := 1) (ret := none) (by decide) rfl ?_
  intro p e s m args below meth c s₁ B hml hv
  obtain ⟨rfl, rfl, hI⟩ := hw_start hv
  clear hv
  have hx := B.exec
  have hb := B.bytes
  have hr := B.returns
  have hlocks := B.notSynchronized
  have hown : s.vm.findClass "WallFractions$Fraction" = some m.cls := findClass_of_methodNamed B.named
  have hT : ∀ w ∈ TT, w.before ([.ref (a0)]).toArray s = true := fun w h => atoms_spec (ws := (Cond.code y_Fr_init b_Fr_init 1 none :: TT)) B.pre w (List.mem_cons_of_mem _ h)
  have S : CallFix p m c b_Fr_init 1 s ([.ref (a0)]).toArray TT "WallFractions$Fraction" := ⟨hx, hb, hml, hown, hT⟩
  have hin2 : meth.name = "<init>" := (name_of_methodNamed B.named B.method).1
  have hl := lv_entry ([.ref (a0)]) (n := 1) (Nat.le_of_ble_eq_true rfl)
  rw [lg_entry_eq]
  generalize (lg_sl ([.ref (a0)]) ++ List.replicate (1 - (lg_sl ([.ref (a0)])).length) Slot.unset).toArray = ls at hl ⊢
  have hl : lv_has ls 1 [(0, .ref (a0))] := hl
  have hX : Ext L f L f a0 := Ext.refl
  refine lv_aload_n hx hb d_Fr_init_0 rfl (lv_at hl 0 rfl) ?_
  refine W.objInit hx hb hown (hT _ w_32) (hT _ w_24) (hT _ w_25) rfl (by rw [hml]; exact hl.1) rfl d_Fr_init_1 (Nat.le_of_ble_eq_true rfl) (Nat.le_of_ble_eq_true rfl) ?_
  refine W.eq (g2 := F0 m 4 ls []) rfl ?_
  refine lv_aload_n hx hb d_Fr_init_4 rfl (lv_at hl 0 rfl) ?_
  refine hw_new S hI (ci := 5) (C := R_Wh) (T := F_Wh) (N := 2) rfl i_Wh t_Wh t_Wh_ok w_33 w_34 w_3 (fs := [.null, .int (nI 0)]) (by decide +kernel) (Nat.le_of_ble_eq_true rfl) (Nat.le_of_ble_eq_true rfl) d_Fr_init_5 (fun q1 L104 f104 H hI hq104 hq1 hk104 => ?_)
  have ne_hO_q1 : a0 ≠ q1 := fun e => hq104 (e ▸ hO.1)
  have nL_q1 : q1 ∉ L := fun h => hq104 (hX q1 h).1
  have hO := grow_c hk104 hO
  have hX := hX.new hk104
  refine W.cs (cells' := 1) (slots' := 2) rfl rfl ?_
  refine lv_dup hx hb d_Fr_init_8 rfl ?_
  refine hw_cI (As := []) (rest := [.ref (q1), .ref (a0)]) S hI m_Wh_init w_35 (c_Wh_init l D t0 L104 f104 _ q1  hq1 ) hl.1 rfl rfl (Nat.le_of_ble_eq_true rfl) d_Fr_init_9 ⟨Nat.le_of_ble_eq_true rfl, Nat.le_of_ble_eq_true rfl⟩ ⟨Nat.le_of_ble_eq_true rfl, Nat.le_of_ble_eq_true rfl⟩ (fun v9 L105 f105 H locs hp hI => ?_)
  refine W.cs (cells' := 2) (slots' := 43) rfl rfl ?_
  obtain ⟨hv9, t1, hb1, hW1, hE1⟩ := hp
  cases hv9
  refine hw_stk (st' := [.ref (q1), .ref (a0)]) rfl ?_
  have nL_t1 : t1 ∉ L := fun h => hb1 (hX t1 h).1
  have hO := hE1.c hO ne_hO_q1
  have hX := hX.sub nL_q1 hE1
  have hO9 := hO
  have no_hW1 := hW1.ne hO (by decide)
  refine ob_putF S hI hO (fs' := [.ref (q1), .null, .int (nI 0)]) (C := R_Fr) (T := F_Fr) (N := 3) (ref := "WallFractions$Fraction") rfl i_Fr t_Fr t_Fr_ok n_Fr 0 (by decide) rfl w_57 rfl hin2 rfl rfl rfl (by simp only [List.length]; decide) rfl d_Fr_init_12 (fun f106 H locs hI hO hf106 => ?_)
  have hW1 := hW1.put hf106 no_hW1
  have hX := hX.put hf106
  refine lv_aload_n hx hb d_Fr_init_15 rfl (lv_at hl 0 rfl) ?_
  refine hw_new S hI (ci := 5) (C := R_Wh) (T := F_Wh) (N := 2) rfl i_Wh t_Wh t_Wh_ok w_33 w_34 w_3 (fs := [.null, .int (nI 0)]) (by decide +kernel) (Nat.le_of_ble_eq_true rfl) (Nat.le_of_ble_eq_true rfl) d_Fr_init_16 (fun q2 L107 f107 H hI hq107 hq2 hk107 => ?_)
  have ne_hW1_q2 := (⟨fun e => hq107 (e ▸ hW1.mem.1), fun e => hq107 (e ▸ hW1.mem.2)⟩ : _ ≠ q2 ∧ _ ≠ q2)
  have ne_hO_q2 : a0 ≠ q2 := fun e => hq107 (e ▸ hO.1)
  have nL_q2 : q2 ∉ L := fun h => hq107 (hX q2 h).1
  have hW1 := hW1.new hk107
  have hO := grow_c hk107 hO
  have hX := hX.new hk107
  refine W.cs (cells' := 3) (slots' := 45) rfl rfl ?_
  refine lv_dup hx hb d_Fr_init_19 rfl ?_
  refine hw_cI (As := []) (rest := [.ref (q2), .ref (a0)]) S hI m_Wh_init w_35 (c_Wh_init l D t0 L107 f107 _ q2  hq2 ) hl.1 rfl rfl (Nat.le_of_ble_eq_true rfl) d_Fr_init_20 ⟨Nat.le_of_ble_eq_true rfl, Nat.le_of_ble_eq_true rfl⟩ ⟨Nat.le_of_ble_eq_true rfl, Nat.le_of_ble_eq_true rfl⟩ (fun v9 L108 f108 H locs hp hI => ?_)
  refine W.cs (cells' := 4) (slots' := 86) rfl rfl ?_
  obtain ⟨hv9, t2, hb2, hW2, hE2⟩ := hp
  cases hv9
  refine hw_stk (st' := [.ref (q2), .ref (a0)]) rfl ?_
  have nL_t2 : t2 ∉ L := fun h => hb2 (hX t2 h).1
  have nt_hW1_2 := (⟨fun e => hb2 (e ▸ hW1.mem.1), fun e => hb2 (e ▸ hW1.mem.2)⟩ : _ ≠ t2 ∧ _ ≠ t2)
  have hW1 := hW1.ext hE2 ne_hW1_q2
  have hO := hE2.c hO ne_hO_q2
  have hX := hX.sub nL_q2 hE2
  have hO9 := hO
  have no_hW1 := hW1.ne hO (by decide)
  have no_hW2 := hW2.ne hO (by decide)
  refine ob_putF S hI hO (fs' := [.ref (q1), .ref (q2), .int (nI 0)]) (C := R_Fr) (T := F_Fr) (N := 3) (ref := "WallFractions$Fraction") rfl i_Fr t_Fr t_Fr_ok n_Fr 1 (by decide) rfl w_60 rfl hin2 rfl rfl rfl (by simp only [List.length]; decide) rfl d_Fr_init_23 (fun f109 H locs hI hO hf109 => ?_)
  have hW1 := hW1.put hf109 no_hW1
  have hW2 := hW2.put hf109 no_hW2
  have hX := hX.put hf109
  refine lv_aload_n hx hb d_Fr_init_26 rfl (lv_at hl 0 rfl) ?_
  refine ob_get S hI hO (C := R_Fr) (T := F_Fr) (N := 3) (ref := "WallFractions$Fraction") rfl i_Fr 1 (by decide) rfl w_60 rfl d_Fr_init_27 ?_
  refine lv_lconst (v := lN 1) hx hb d_Fr_init_30 rfl ?_
  refine hw_cV (As := [.long (lN 1)]) (rest := []) S hI m_Wh_become w_52 (c_Wh_become l D t0 _ _ _ (fun _ => q2) (fun _ => t2) 1 (fun _ => 0) 0 1 (by decide) lay1 hW2.all1 (by decide)) (hW2.choose_spec.1) rfl hl.1 rfl rfl (Nat.le_of_ble_eq_true rfl) d_Fr_init_31 ⟨Nat.le_of_ble_eq_true rfl, Nat.le_of_ble_eq_true rfl⟩ ⟨Nat.le_of_ble_eq_true rfl, Nat.le_of_ble_eq_true rfl⟩ (fun v9 L110 f110 H locs hp hI => ?_)
  refine W.cs (cells' := 4) (slots' := 86) rfl rfl ?_
  obtain ⟨hv9, rfl, hA9, hf9⟩ := hp
  cases hv9
  refine hw_stk (st' := []) rfl ?_
  have hn1 := hW1.ne hO (by decide)
  have hn2 := hW2.ne hO (by decide)
  have hO : hw_c L108 f110 a0 _ := hw_c.fr hO (hf9 _ hn2.1.symm hn2.2.symm)
  have hW1 : W1 D L108 f110 q1 t1 0 := hW1.at ⟨hW1.mem.1, hf9 _ ne_hW1_q2.1 nt_hW1_2.1⟩ ⟨hW1.mem.2, hf9 _ ne_hW1_q2.2 nt_hW1_2.2⟩
  have hW2 : W1 D L108 f110 q2 t2 1 := by have h9 := W1.mk1 hA9; rw [hw_up_eq] at h9; exact h9
  have hX : Ext L f L108 f110 a0 := fun z hz => ⟨(hX z hz).1, fun e => (hf9 z (fun q => nL_q2 (q ▸ hz)) (fun q => nL_t2 (q ▸ hz))).trans ((hX z hz).2 e)⟩
  refine lv_aload_n hx hb d_Fr_init_34 rfl (lv_at hl 0 rfl) ?_
  refine lv_iconst (v := nI 0) hx hb d_Fr_init_35 (by decide) ?_
  have hO9 := hO
  have no_hW1 := hW1.ne hO (by decide)
  have no_hW2 := hW2.ne hO (by decide)
  refine ob_put S hI hO (fs' := [.ref (q1), .ref (q2), .int (nI 0)]) (C := R_Fr) (T := F_Fr) (N := 3) (ref := "WallFractions$Fraction") rfl i_Fr t_Fr t_Fr_ok n_Fr 2 (by decide) rfl w_63 rfl rfl rfl (by simp only [List.length]; decide) rfl d_Fr_init_36 (fun f111 H locs hI hO hf111 => ?_)
  have hW1 := hW1.put hf111 no_hW1
  have hW2 := hW2.put hf111 no_hW2
  have hX := hX.put hf111
  exact hw_vret hx hb hr hlocks hI d_Fr_init_39 ⟨rfl, q1, t1, q2, t2, nL_q1, nL_t1, nL_q2, nL_t2, ne_hW1_q2.1, nt_hW1_2.2, hO, hW1, hW2, hX⟩
set_option maxHeartbeats 4000000 in
set_option maxRecDepth 100000 in
theorem c_Dv_init (l : Launch) (D : va_G) (t0 : Nat) (L : List Nat) (f : Nat → va_E) (sz : Nat) (a0 : Nat)  (hO : hw_c L f a0 (.inr (0, [.null, .null])))  : Met l y_Dv_init (Cond.code y_Dv_init b_Dv_init 1 none :: TT) ({ frames := 1, cells := 2, slots := 84, locals := 40 } : Room) (hw_Pc t0 [.ref (a0)] D L f sz) (hw_Q D L sz (fun oc L' f' => oc = .returned none ∧ ∃ al ab, al ∉ L ∧ ab ∉ L ∧ al ≠ ab ∧ hw_c L' f' a0 (cDv al ab) ∧ arrN D L' f' al 42 (fun _ => 0) ∧ arrN D L' f' ab 42 (fun _ => 0) ∧ Ext L f L' f' a0)) 2 84 (hw_A L sz) := by
  refine Met.ofW (cc := b_Dv_init) (maxL := 1) (ret := none) (by decide) rfl ?_
  intro p e s m args below meth c s₁ B hml hv
  obtain ⟨rfl, rfl, hI⟩ := hw_start hv
  clear hv
  have hx := B.exec
  have hb := B.bytes
  have hr := B.returns
  have hlocks := B.notSynchronized
  have hown : s.vm.findClass "WallFractions$Divider" = some m.cls := findClass_of_methodNamed B.named
  have hT : ∀ w ∈ TT, w.before ([.ref (a0)]).toArray s = true := fun w h => atoms_spec (ws := (Cond.code y_Dv_init b_Dv_init 1 none :: TT)) B.pre w (List.mem_cons_of_mem _ h)
  have S : CallFix p m c b_Dv_init 1 s ([.ref (a0)]).toArray TT "WallFractions$Divider" := ⟨hx, hb, hml, hown, hT⟩
  have hin2 : meth.name = "<init>" := (name_of_methodNamed B.named B.method).1
  have hl := lv_entry ([.ref (a0)]) (n := 1) (Nat.le_of_ble_eq_true rfl)
  rw [lg_entry_eq]
  generalize (lg_sl ([.ref (a0)]) ++ List.replicate (1 - (lg_sl ([.ref (a0)])).length) Slot.unset).toArray = ls at hl ⊢
  have hl : lv_has ls 1 [(0, .ref (a0))] := hl
  have hX : Ext L f L f a0 := Ext.refl
  refine lv_aload_n hx hb d_Dv_init_0 rfl (lv_at hl 0 rfl) ?_
  refine W.objInit hx hb hown (hT _ w_78) (hT _ w_24) (hT _ w_25) rfl (by rw [hml]; exact hl.1) rfl d_Dv_init_1 (Nat.le_of_ble_eq_true rfl) (Nat.le_of_ble_eq_true rfl) ?_
  refine W.eq (g2 := F0 m 4 ls []) rfl ?_
  refine lv_aload_n hx hb d_Dv_init_4 rfl (lv_at hl 0 rfl) ?_
  refine lv_bipush (v := nI 42) hx hb d_Dv_init_5 (by decide) ?_
  refine hw_newL S hI w_51 (by decide) (Nat.le_of_ble_eq_true rfl) (Nat.le_of_ble_eq_true rfl) d_Dv_init_7 (fun b1 L112 f112 H hI hq112 hb1 hk112 => ?_)
  have ne_hO_b1 : a0 ≠ b1 := fun e => hq112 (e ▸ hO.1)
  have nL_b1 : b1 ∉ L := fun h => hq112 (hX b1 h).1
  have hO := grow_c hk112 hO
  have hX := hX.new hk112
  refine W.cs (cells' := 1) (slots' := 42) rfl rfl ?_
  have hO9 := hO
  have no_hb1 := hw_c.ne hb1 hO (by first | (intro e; cases e; done) | (intro e; simp at e; done) | (unfold cMs cFr cWt; intro e; simp at e))
  refine ob_putF S hI hO (fs' := [.ref (b1), .null]) (C := R_Dv) (T := F_Dv) (N := 2) (ref := "WallFractions$Divider") rfl i_Dv t_Dv t_Dv_ok n_Dv 0 (by decide) rfl w_79 rfl hin2 rfl rfl rfl (by simp only [List.length]; decide) rfl d_Dv_init_9 (fun f113 H locs hI hO hf113 => ?_)
  have hb1 := hw_c.fr hb1 (hf113 _ no_hb1)
  have hX := hX.put hf113
  refine lv_aload_n hx hb d_Dv_init_12 rfl (lv_at hl 0 rfl) ?_
  refine lv_bipush (v := nI 42) hx hb d_Dv_init_13 (by decide) ?_
  refine hw_newL S hI w_51 (by decide) (Nat.le_of_ble_eq_true rfl) (Nat.le_of_ble_eq_true rfl) d_Dv_init_15 (fun b2 L114 f114 H hI hq114 hb2 hk114 => ?_)
  have ne_hb1_b2 := (fun e => hq114 (e ▸ hb1.1) : _ ≠ b2)
  have ne_hO_b2 : a0 ≠ b2 := fun e => hq114 (e ▸ hO.1)
  have nL_b2 : b2 ∉ L := fun h => hq114 (hX b2 h).1
  have hb1 := grow_c hk114 hb1
  have hO := grow_c hk114 hO
  have hX := hX.new hk114
  refine W.cs (cells' := 2) (slots' := 84) rfl rfl ?_
  have hO9 := hO
  have no_hb1 := hw_c.ne hb1 hO (by first | (intro e; cases e; done) | (intro e; simp at e; done) | (unfold cMs cFr cWt; intro e; simp at e))
  have no_hb2 := hw_c.ne hb2 hO (by first | (intro e; cases e; done) | (intro e; simp at e; done) | (unfold cMs cFr cWt; intro e; simp at e))
  refine ob_putF S hI hO (fs' := [.ref (b1), .ref (b2)]) (C := R_Dv) (T := F_Dv) (N := 2) (ref := "WallFractions$Divider") rfl i_Dv t_Dv t_Dv_ok n_Dv 1 (by decide) rfl w_80 rfl hin2 rfl rfl rfl (by simp only [List.length]; decide) rfl d_Dv_init_17 (fun f115 H locs hI hO hf115 => ?_)
  have hb1 := hw_c.fr hb1 (hf115 _ no_hb1)
  have hb2 := hw_c.fr hb2 (hf115 _ no_hb2)
  have hX := hX.put hf115
  exact hw_vret hx hb hr hlocks hI d_Dv_init_20 ⟨rfl, b1, b2, nL_b1, nL_b2, ne_hb1_b2, hO, hb1, hb2, hX⟩
set_option maxHeartbeats 4000000 in
set_option maxRecDepth 100000 in
theorem c_Ms_init (l : Launch) (D : va_G) (t0 : Nat) (L : List Nat) (f : Nat → va_E) (sz : Nat) (a0 : Nat) (ad : Nat) (hO : hw_c L f a0 (.inr (2, [.null, .null, .null, .null, .null, .long (lN 0), .long (lN 0), .long (lN 0), .long (lN 0)])))  : Met l y_Ms_init (Cond.code y_Ms_init b_Ms_init 2 none :: TT) ({ frames := 2, cells := 8, slots := 172, locals := 60 } : Room) (hw_Pc t0 [.ref (a0), .ref (ad)] D L f sz) (hw_Q D L sz (fun oc L' f' => oc = .returned none ∧ ∃ o r x, AN 38 42 D L' f' o r x ∧ (∀ i, 38 ≤ i → i < 42 → o i ∉ L ∧ r i ∉ L) ∧ hw_c L' f' a0 (cMs o ad 39 40 41 0 0 0 0) ∧ Ext L f L' f' a0)) 8 172 (hw_A L sz) := by
  refine Met.ofW (cc := b_Ms_init) (maxL := 2) (ret := none) (by decide) rfl ?_
  intro p e s m args below meth c s₁ B hml hv
  obtain ⟨rfl, rfl, hI⟩ := hw_start hv
  clear hv
  have hx := B.exec
  have hb := B.bytes
  have hr := B.returns
  have hlocks := B.notSynchronized
  have hown : s.vm.findClass "WallFractions$Measure" = some m.cls := findClass_of_methodNamed B.named
  have hT : ∀ w ∈ TT, w.before ([.ref (a0), .ref (ad)]).toArray s = true := fun w h => atoms_spec (ws := (Cond.code y_Ms_init b_Ms_init 2 none :: TT)) B.pre w (List.mem_cons_of_mem _ h)
  have S : CallFix p m c b_Ms_init 2 s ([.ref (a0), .ref (ad)]).toArray TT "WallFractions$Measure" := ⟨hx, hb, hml, hown, hT⟩
  have hin2 : meth.name = "<init>" := (name_of_methodNamed B.named B.method).1
  have hl := lv_entry ([.ref (a0), .ref (ad)]) (n := 2) (Nat.le_of_ble_eq_true rfl)
  rw [lg_entry_eq]
  generalize (lg_sl ([.ref (a0), .ref (ad)]) ++ List.replicate (2 - (lg_sl ([.ref (a0), .ref (ad)])).length) Slot.unset).toArray = ls at hl ⊢
  have hl : lv_has ls 2 [(0, .ref (a0)), (1, .ref (ad))] := hl
  have hX : Ext L f L f a0 := Ext.refl
  refine lv_aload_n hx hb d_Ms_init_0 rfl (lv_at hl 0 rfl) ?_
  refine W.objInit hx hb hown (hT _ w_97) (hT _ w_24) (hT _ w_25) rfl (by rw [hml]; exact hl.1) rfl d_Ms_init_1 (Nat.le_of_ble_eq_true rfl) (Nat.le_of_ble_eq_true rfl) ?_
  refine W.eq (g2 := F0 m 4 ls []) rfl ?_
  have hN : AN 38 38 D L f (fun _ => 0) (fun _ => 0) (fun _ => 0) := AN.nil
  refine lv_aload_n hx hb d_Ms_init_4 rfl (lv_at hl 0 rfl) ?_
  refine lv_aload_n hx hb d_Ms_init_5 rfl (lv_at hl 1 rfl) ?_
  have hO9 := hO
  have no_hN := hN.ne hO (by decide)
  refine ob_putF S hI hO (fs' := [.ref (ad), .null, .null, .null, .null, .long (lN 0), .long (lN 0), .long (lN 0), .long (lN 0)]) (C := R_Ms) (T := F_Ms) (N := 9) (ref := "WallFractions$Measure") rfl i_Ms t_Ms t_Ms_ok n_Ms 0 (by decide) rfl w_100 rfl hin2 rfl rfl rfl (by simp only [List.length]; decide) rfl d_Ms_init_6 (fun f116 H locs hI hO hf116 => ?_)
  have hN := hN.put hf116 no_hN
  have hX := hX.put hf116
  refine lv_aload_n hx hb d_Ms_init_9 rfl (lv_at hl 0 rfl) ?_
  refine hw_new S hI (ci := 5) (C := R_Wh) (T := F_Wh) (N := 2) rfl i_Wh t_Wh t_Wh_ok w_98 w_34 w_3 (fs := [.null, .int (nI 0)]) (by decide +kernel) (Nat.le_of_ble_eq_true rfl) (Nat.le_of_ble_eq_true rfl) d_Ms_init_10 (fun q1 L117 f117 H hI hq117 hq1 hk117 => ?_)
  have ne_hN_q1 := hN.nin hq117
  have ne_hO_q1 : a0 ≠ q1 := fun e => hq117 (e ▸ hO.1)
  have nL_q1 : q1 ∉ L := fun h => hq117 (hX q1 h).1
  have hN := hN.new hk117
  have hO := grow_c hk117 hO
  have hX := hX.new hk117
  refine W.cs (cells' := 1) (slots' := 2) rfl rfl ?_
  refine lv_dup hx hb d_Ms_init_13 rfl ?_
  refine hw_cI (As := []) (rest := [.ref (q1), .ref (a0)]) S hI m_Wh_init w_99 (c_Wh_init l D t0 L117 f117 _ q1  hq1 ) hl.1 rfl rfl (Nat.le_of_ble_eq_true rfl) d_Ms_init_14 ⟨Nat.le_of_ble_eq_true rfl, Nat.le_of_ble_eq_true rfl⟩ ⟨Nat.le_of_ble_eq_true rfl, Nat.le_of_ble_eq_true rfl⟩ (fun v9 L118 f118 H locs hp hI => ?_)
  refine W.cs (cells' := 2) (slots' := 43) rfl rfl ?_
  obtain ⟨hv9, t1, hb1, hW1, hE1⟩ := hp
  cases hv9
  refine hw_stk (st' := [.ref (q1), .ref (a0)]) rfl ?_
  have nL_t1 : t1 ∉ L := fun h => hb1 (hX t1 h).1
  have nt_hN_1 := hN.nin hb1
  have hN := hN.ext hE1 ne_hN_q1
  have hO := hE1.c hO ne_hO_q1
  have hX := hX.sub nL_q1 hE1
  have hN := hN.push (by decide) hW1 (fun i g1 g2 => ⟨(ne_hN_q1 i g1 g2).1, (nt_hN_1 i g1 g2).2⟩)
  have hO9 := hO
  have no_hN := hN.ne hO (by decide)
  refine ob_putF S hI hO (fs' := [.ref (ad), .ref (q1), .null, .null, .null, .long (lN 0), .long (lN 0), .long (lN 0), .long (lN 0)]) (C := R_Ms) (T := F_Ms) (N := 9) (ref := "WallFractions$Measure") rfl i_Ms t_Ms t_Ms_ok n_Ms 1 (by decide) rfl w_101 rfl hin2 rfl rfl rfl (by simp only [List.length]; decide) rfl d_Ms_init_17 (fun f119 H locs hI hO hf119 => ?_)
  have hN := hN.put hf119 no_hN
  have hX := hX.put hf119
  refine lv_aload_n hx hb d_Ms_init_20 rfl (lv_at hl 0 rfl) ?_
  refine hw_new S hI (ci := 5) (C := R_Wh) (T := F_Wh) (N := 2) rfl i_Wh t_Wh t_Wh_ok w_98 w_34 w_3 (fs := [.null, .int (nI 0)]) (by decide +kernel) (Nat.le_of_ble_eq_true rfl) (Nat.le_of_ble_eq_true rfl) d_Ms_init_21 (fun q2 L120 f120 H hI hq120 hq2 hk120 => ?_)
  have ne_hN_q2 := hN.nin hq120
  have ne_hO_q2 : a0 ≠ q2 := fun e => hq120 (e ▸ hO.1)
  have nL_q2 : q2 ∉ L := fun h => hq120 (hX q2 h).1
  have hN := hN.new hk120
  have hO := grow_c hk120 hO
  have hX := hX.new hk120
  refine W.cs (cells' := 3) (slots' := 45) rfl rfl ?_
  refine lv_dup hx hb d_Ms_init_24 rfl ?_
  refine hw_cI (As := []) (rest := [.ref (q2), .ref (a0)]) S hI m_Wh_init w_99 (c_Wh_init l D t0 L120 f120 _ q2  hq2 ) hl.1 rfl rfl (Nat.le_of_ble_eq_true rfl) d_Ms_init_25 ⟨Nat.le_of_ble_eq_true rfl, Nat.le_of_ble_eq_true rfl⟩ ⟨Nat.le_of_ble_eq_true rfl, Nat.le_of_ble_eq_true rfl⟩ (fun v9 L121 f121 H locs hp hI => ?_)
  refine W.cs (cells' := 4) (slots' := 86) rfl rfl ?_
  obtain ⟨hv9, t2, hb2, hW2, hE2⟩ := hp
  cases hv9
  refine hw_stk (st' := [.ref (q2), .ref (a0)]) rfl ?_
  have nL_t2 : t2 ∉ L := fun h => hb2 (hX t2 h).1
  have nt_hN_2 := hN.nin hb2
  have hN := hN.ext hE2 ne_hN_q2
  have hO := hE2.c hO ne_hO_q2
  have hX := hX.sub nL_q2 hE2
  have hN := hN.push (by decide) hW2 (fun i g1 g2 => ⟨(ne_hN_q2 i g1 g2).1, (nt_hN_2 i g1 g2).2⟩)
  have hO9 := hO
  have no_hN := hN.ne hO (by decide)
  refine ob_put S hI hO (fs' := [.ref (ad), .ref (q1), .ref (q2), .null, .null, .long (lN 0), .long (lN 0), .long (lN 0), .long (lN 0)]) (C := R_Ms) (T := F_Ms) (N := 9) (ref := "WallFractions$Measure") rfl i_Ms t_Ms t_Ms_ok n_Ms 2 (by decide) rfl w_102 rfl rfl rfl (by simp only [List.length]; decide) rfl d_Ms_init_28 (fun f122 H locs hI hO hf122 => ?_)
  have hN := hN.put hf122 no_hN
  have hX := hX.put hf122
  refine lv_aload_n hx hb d_Ms_init_31 rfl (lv_at hl 0 rfl) ?_
  refine hw_new S hI (ci := 5) (C := R_Wh) (T := F_Wh) (N := 2) rfl i_Wh t_Wh t_Wh_ok w_98 w_34 w_3 (fs := [.null, .int (nI 0)]) (by decide +kernel) (Nat.le_of_ble_eq_true rfl) (Nat.le_of_ble_eq_true rfl) d_Ms_init_32 (fun q3 L123 f123 H hI hq123 hq3 hk123 => ?_)
  have ne_hN_q3 := hN.nin hq123
  have ne_hO_q3 : a0 ≠ q3 := fun e => hq123 (e ▸ hO.1)
  have nL_q3 : q3 ∉ L := fun h => hq123 (hX q3 h).1
  have hN := hN.new hk123
  have hO := grow_c hk123 hO
  have hX := hX.new hk123
  refine W.cs (cells' := 5) (slots' := 88) rfl rfl ?_
  refine lv_dup hx hb d_Ms_init_35 rfl ?_
  refine hw_cI (As := []) (rest := [.ref (q3), .ref (a0)]) S hI m_Wh_init w_99 (c_Wh_init l D t0 L123 f123 _ q3  hq3 ) hl.1 rfl rfl (Nat.le_of_ble_eq_true rfl) d_Ms_init_36 ⟨Nat.le_of_ble_eq_true rfl, Nat.le_of_ble_eq_true rfl⟩ ⟨Nat.le_of_ble_eq_true rfl, Nat.le_of_ble_eq_true rfl⟩ (fun v9 L124 f124 H locs hp hI => ?_)
  refine W.cs (cells' := 6) (slots' := 129) rfl rfl ?_
  obtain ⟨hv9, t3, hb3, hW3, hE3⟩ := hp
  cases hv9
  refine hw_stk (st' := [.ref (q3), .ref (a0)]) rfl ?_
  have nL_t3 : t3 ∉ L := fun h => hb3 (hX t3 h).1
  have nt_hN_3 := hN.nin hb3
  have hN := hN.ext hE3 ne_hN_q3
  have hO := hE3.c hO ne_hO_q3
  have hX := hX.sub nL_q3 hE3
  have hN := hN.push (by decide) hW3 (fun i g1 g2 => ⟨(ne_hN_q3 i g1 g2).1, (nt_hN_3 i g1 g2).2⟩)
  have hO9 := hO
  have no_hN := hN.ne hO (by decide)
  refine ob_put S hI hO (fs' := [.ref (ad), .ref (q1), .ref (q2), .ref (q3), .null, .long (lN 0), .long (lN 0), .long (lN 0), .long (lN 0)]) (C := R_Ms) (T := F_Ms) (N := 9) (ref := "WallFractions$Measure") rfl i_Ms t_Ms t_Ms_ok n_Ms 3 (by decide) rfl w_103 rfl rfl rfl (by simp only [List.length]; decide) rfl d_Ms_init_39 (fun f125 H locs hI hO hf125 => ?_)
  have hN := hN.put hf125 no_hN
  have hX := hX.put hf125
  refine lv_aload_n hx hb d_Ms_init_42 rfl (lv_at hl 0 rfl) ?_
  refine hw_new S hI (ci := 5) (C := R_Wh) (T := F_Wh) (N := 2) rfl i_Wh t_Wh t_Wh_ok w_98 w_34 w_3 (fs := [.null, .int (nI 0)]) (by decide +kernel) (Nat.le_of_ble_eq_true rfl) (Nat.le_of_ble_eq_true rfl) d_Ms_init_43 (fun q4 L126 f126 H hI hq126 hq4 hk126 => ?_)
  have ne_hN_q4 := hN.nin hq126
  have ne_hO_q4 : a0 ≠ q4 := fun e => hq126 (e ▸ hO.1)
  have nL_q4 : q4 ∉ L := fun h => hq126 (hX q4 h).1
  have hN := hN.new hk126
  have hO := grow_c hk126 hO
  have hX := hX.new hk126
  refine W.cs (cells' := 7) (slots' := 131) rfl rfl ?_
  refine lv_dup hx hb d_Ms_init_46 rfl ?_
  refine hw_cI (As := []) (rest := [.ref (q4), .ref (a0)]) S hI m_Wh_init w_99 (c_Wh_init l D t0 L126 f126 _ q4  hq4 ) hl.1 rfl rfl (Nat.le_of_ble_eq_true rfl) d_Ms_init_47 ⟨Nat.le_of_ble_eq_true rfl, Nat.le_of_ble_eq_true rfl⟩ ⟨Nat.le_of_ble_eq_true rfl, Nat.le_of_ble_eq_true rfl⟩ (fun v9 L127 f127 H locs hp hI => ?_)
  refine W.cs (cells' := 8) (slots' := 172) rfl rfl ?_
  obtain ⟨hv9, t4, hb4, hW4, hE4⟩ := hp
  cases hv9
  refine hw_stk (st' := [.ref (q4), .ref (a0)]) rfl ?_
  have nL_t4 : t4 ∉ L := fun h => hb4 (hX t4 h).1
  have nt_hN_4 := hN.nin hb4
  have hN := hN.ext hE4 ne_hN_q4
  have hO := hE4.c hO ne_hO_q4
  have hX := hX.sub nL_q4 hE4
  have hN := hN.push (by decide) hW4 (fun i g1 g2 => ⟨(ne_hN_q4 i g1 g2).1, (nt_hN_4 i g1 g2).2⟩)
  have hO9 := hO
  have no_hN := hN.ne hO (by decide)
  refine ob_put S hI hO (fs' := [.ref (ad), .ref (q1), .ref (q2), .ref (q3), .ref (q4), .long (lN 0), .long (lN 0), .long (lN 0), .long (lN 0)]) (C := R_Ms) (T := F_Ms) (N := 9) (ref := "WallFractions$Measure") rfl i_Ms t_Ms t_Ms_ok n_Ms 4 (by decide) rfl w_104 rfl rfl rfl (by simp only [List.length]; decide) rfl d_Ms_init_50 (fun f128 H locs hI hO hf128 => ?_)
  have hN := hN.put hf128 no_hN
  have hX := hX.put hf128
  have hFr : ∀ i, 38 ≤ i → i < 42 → (va_up (va_up (va_up (va_up (fun _ => 0) 38 q1) 39 q2) 40 q3) 41 q4) i ∉ L ∧ (va_up (va_up (va_up (va_up (fun _ => 0) 38 t1) 39 t2) 40 t3) 41 t4) i ∉ L := by
    intro i g1 g2
    rcases (show i = 38 ∨ i = 39 ∨ i = 40 ∨ i = 41 by omega) with rfl | rfl | rfl | rfl
    · exact ⟨nL_q1, nL_t1⟩
    · exact ⟨nL_q2, nL_t2⟩
    · exact ⟨nL_q3, nL_t3⟩
    · exact ⟨nL_q4, nL_t4⟩
  exact hw_vret hx hb hr hlocks hI d_Ms_init_53 ⟨rfl, _, _, _, hN, hFr, hO, hX⟩
set_option maxHeartbeats 4000000 in
set_option maxRecDepth 100000 in
theorem c_Rk_init (l : Launch) (D : va_G) (t0 : Nat) (L : List Nat) (f : Nat → va_E) (sz : Nat) (a0 : Nat) (ad : Nat) (hO : hw_c L f a0 (.inr (3, [.null, .null, .null, .null, .null, .null, .null])))  : Met l y_Rk_init (Cond.code y_Rk_init b_Rk_init 2 none :: TT) ({ frames := 3, cells := 22, slots := 442, locals := 81 } : Room) (hw_Pc t0 [.ref (a0), .ref (ad)] D L f sz) (hw_Q D L sz (fun oc L' f' => oc = .returned none ∧ ∃ o r x a16 am, AN 32 42 D L' f' o r x ∧ (∀ i, 32 ≤ i → i < 42 → o i ∉ L ∧ r i ∉ L) ∧ a16 ∉ L ∧ am ∉ L ∧ a16 ≠ am ∧ hw_c L' f' am (cMs o ad 39 40 41 0 0 0 0) ∧ hw_c L' f' a16 (.inr (1, [.ref (o 32), .ref (o 33), .int (nI 0)])) ∧ hw_c L' f' a0 (.inr (3, [.ref ad, .ref am, .ref a16, .ref (o 34), .ref (o 35), .ref (o 36), .ref (o 37)])) ∧ Ext L f L' f' a0)) 22 442 (hw_A L sz) := by
  refine Met.ofW (cc := b_Rk_init) (maxL := 2) (ret := none) (by decide) rfl ?_
  intro p e s m args below meth c s₁ B hml hv
  obtain ⟨rfl, rfl, hI⟩ := hw_start hv
  clear hv
  have hx := B.exec
  have hb := B.bytes
  have hr := B.returns
  have hlocks := B.notSynchronized
  have hown : s.vm.findClass "WallFractions$Reckoner" = some m.cls := findClass_of_methodNamed B.named
  have hT : ∀ w ∈ TT, w.before ([.ref (a0), .ref (ad)]).toArray s = true := fun w h => atoms_spec (ws := (Cond.code y_Rk_init b_Rk_init 2 none :: TT)) B.pre w (List.mem_cons_of_mem _ h)
  have S : CallFix p m c b_Rk_init 2 s ([.ref (a0), .ref (ad)]).toArray TT "WallFractions$Reckoner" := ⟨hx, hb, hml, hown, hT⟩
  have hin2 : meth.name = "<init>" := (name_of_methodNamed B.named B.method).1
  have hl := lv_entry ([.ref (a0), .ref (ad)]) (n := 2) (Nat.le_of_ble_eq_true rfl)
  rw [lg_entry_eq]
  generalize (lg_sl ([.ref (a0), .ref (ad)]) ++ List.replicate (2 - (lg_sl ([.ref (a0), .ref (ad)])).length) Slot.unset).toArray = ls at hl ⊢
  have hl : lv_has ls 2 [(0, .ref (a0)), (1, .ref (ad))] := hl
  have hX : Ext L f L f a0 := Ext.refl
  refine lv_aload_n hx hb d_Rk_init_0 rfl (lv_at hl 0 rfl) ?_
  refine W.objInit hx hb hown (hT _ w_91) (hT _ w_24) (hT _ w_25) rfl (by rw [hml]; exact hl.1) rfl d_Rk_init_1 (Nat.le_of_ble_eq_true rfl) (Nat.le_of_ble_eq_true rfl) ?_
  refine W.eq (g2 := F0 m 4 ls []) rfl ?_
  refine lv_aload_n hx hb d_Rk_init_4 rfl (lv_at hl 0 rfl) ?_
  refine lv_aload_n hx hb d_Rk_init_5 rfl (lv_at hl 1 rfl) ?_
  have hO9 := hO
  refine ob_putF S hI hO (fs' := [.ref (ad), .null, .null, .null, .null, .null, .null]) (C := R_Rk) (T := F_Rk) (N := 7) (ref := "WallFractions$Reckoner") rfl i_Rk t_Rk t_Rk_ok n_Rk 0 (by decide) rfl w_132 rfl hin2 rfl rfl rfl (by simp only [List.length]; decide) rfl d_Rk_init_6 (fun f129 H locs hI hO hf129 => ?_)
  have hX := hX.put hf129
  refine lv_aload_n hx hb d_Rk_init_9 rfl (lv_at hl 0 rfl) ?_
  refine hw_new S hI (ci := 2) (C := R_Ms) (T := F_Ms) (N := 9) rfl i_Ms t_Ms t_Ms_ok w_92 w_93 w_6 (fs := [.null, .null, .null, .null, .null, .long (lN 0), .long (lN 0), .long (lN 0), .long (lN 0)]) (by decide +kernel) (Nat.le_of_ble_eq_true rfl) (Nat.le_of_ble_eq_true rfl) d_Rk_init_10 (fun am L130 f130 H hI hq130 ham hk130 => ?_)
  have ne_hO_am : a0 ≠ am := fun e => hq130 (e ▸ hO.1)
  have nL_am : am ∉ L := fun h => hq130 (hX am h).1
  have hO := grow_c hk130 hO
  have hX := hX.new hk130
  refine W.cs (cells' := 1) (slots' := 9) rfl rfl ?_
  refine lv_dup hx hb d_Rk_init_13 rfl ?_
  refine lv_aload_n hx hb d_Rk_init_14 rfl (lv_at hl 1 rfl) ?_
  refine hw_cI (As := [.ref (ad)]) (rest := [.ref (am), .ref (a0)]) S hI m_Ms_init w_94 (c_Ms_init l D t0 L130 f130 _ am ad ham ) hl.1 rfl rfl (Nat.le_of_ble_eq_true rfl) d_Rk_init_15 ⟨Nat.le_of_ble_eq_true rfl, Nat.le_of_ble_eq_true rfl⟩ ⟨Nat.le_of_ble_eq_true rfl, Nat.le_of_ble_eq_true rfl⟩ (fun v9 L131 f131 H locs hp hI => ?_)
  refine W.cs (cells' := 9) (slots' := 181) rfl rfl ?_
  obtain ⟨hv9, om, rm, xm, hM, fM, ham, hE0⟩ := hp
  cases hv9
  refine hw_stk (st' := [.ref (am), .ref (a0)]) rfl ?_
  have fM : ∀ i, 38 ≤ i → i < 42 → om i ∉ L ∧ rm i ∉ L := fun i g1 g2 => ⟨fun h => (fM i g1 g2).1 (hX _ h).1, fun h => (fM i g1 g2).2 (hX _ h).1⟩
  have hO := hE0.c hO ne_hO_am
  have hX := hX.sub nL_am hE0
  have hO9 := hO
  have no_hM := hM.ne hO (by decide)
  have no_ham := hw_c.ne ham hO (by first | (intro e; cases e; done) | (intro e; simp at e; done) | (unfold cMs cFr cWt; intro e; simp at e))
  refine ob_putF S hI hO (fs' := [.ref (ad), .ref (am), .null, .null, .null, .null, .null]) (C := R_Rk) (T := F_Rk) (N := 7) (ref := "WallFractions$Reckoner") rfl i_Rk t_Rk t_Rk_ok n_Rk 1 (by decide) rfl w_133 rfl hin2 rfl rfl rfl (by simp only [List.length]; decide) rfl d_Rk_init_18 (fun f132 H locs hI hO hf132 => ?_)
  have hM := hM.put hf132 no_hM
  have ham := hw_c.fr ham (hf132 _ no_ham)
  have hX := hX.put hf132
  refine lv_aload_n hx hb d_Rk_init_21 rfl (lv_at hl 0 rfl) ?_
  refine hw_new S hI (ci := 1) (C := R_Fr) (T := F_Fr) (N := 3) rfl i_Fr t_Fr t_Fr_ok w_128 w_28 w_2 (fs := [.null, .null, .int (nI 0)]) (by decide +kernel) (Nat.le_of_ble_eq_true rfl) (Nat.le_of_ble_eq_true rfl) d_Rk_init_22 (fun a16 L133 f133 H hI hq133 ha16 hk133 => ?_)
  have ne_hM_a16 := hM.nin hq133
  have ne_ham_a16 := (fun e => hq133 (e ▸ ham.1) : _ ≠ a16)
  have ne_hO_a16 : a0 ≠ a16 := fun e => hq133 (e ▸ hO.1)
  have nL_a16 : a16 ∉ L := fun h => hq133 (hX a16 h).1
  have hM := hM.new hk133
  have ham := grow_c hk133 ham
  have hO := grow_c hk133 hO
  have hX := hX.new hk133
  refine W.cs (cells' := 10) (slots' := 184) rfl rfl ?_
  refine lv_dup hx hb d_Rk_init_25 rfl ?_
  refine hw_cI (As := []) (rest := [.ref (a16), .ref (a0)]) S hI m_Fr_init w_129 (c_Fr_init l D t0 L133 f133 _ a16  ha16 ) hl.1 rfl rfl (Nat.le_of_ble_eq_true rfl) d_Rk_init_26 ⟨Nat.le_of_ble_eq_true rfl, Nat.le_of_ble_eq_true rfl⟩ ⟨Nat.le_of_ble_eq_true rfl, Nat.le_of_ble_eq_true rfl⟩ (fun v9 L134 f134 H locs hp hI => ?_)
  refine W.cs (cells' := 14) (slots' := 270) rfl rfl ?_
  obtain ⟨hv9, q1, t1, q2, t2, n1, n2, n3, n4, n5, n6, ha16, hW1, hW2, hE1⟩ := hp
  cases hv9
  refine hw_stk (st' := [.ref (a16), .ref (a0)]) rfl ?_
  have nL_q1 : q1 ∉ L := fun h => n1 (hX _ h).1
  have nL_t1 : t1 ∉ L := fun h => n2 (hX _ h).1
  have nL_q2 : q2 ∉ L := fun h => n3 (hX _ h).1
  have nL_t2 : t2 ∉ L := fun h => n4 (hX _ h).1
  have mq1 := hM.nin n1
  have mt1 := hM.nin n2
  have mq2 := hM.nin n3
  have mt2 := hM.nin n4
  have hM := hM.ext hE1 ne_hM_a16
  have ham := hE1.c ham ne_ham_a16
  have hO := hE1.c hO ne_hO_a16
  have hX := hX.sub nL_a16 hE1
  have hN : AN 32 34 D L134 f134 (va_up (va_up (fun _ => 0) 32 q1) 33 q2) (va_up (va_up (fun _ => 0) 32 t1) 33 t2) (va_up (va_up (fun _ => 0) 32 0) 33 1) := (AN.push (AN.push (AN.nil (lo := 32)) (by decide) hW1 (fun i g1 g2 => absurd g2 (by omega))) (by decide) hW2 (fun i g1 g2 => by obtain rfl : i = 32 := (by omega); exact ⟨n5, n6⟩))
  have hO9 := hO
  have no_hM := hM.ne hO (by decide)
  have no_ham := hw_c.ne ham hO (by first | (intro e; cases e; done) | (intro e; simp at e; done) | (unfold cMs cFr cWt; intro e; simp at e))
  have no_ha16 := hw_c.ne ha16 hO (by first | (intro e; cases e; done) | (intro e; simp at e; done) | (unfold cMs cFr cWt; intro e; simp at e))
  have no_hN := hN.ne hO (by decide)
  refine ob_putF S hI hO (fs' := [.ref (ad), .ref (am), .ref (a16), .null, .null, .null, .null]) (C := R_Rk) (T := F_Rk) (N := 7) (ref := "WallFractions$Reckoner") rfl i_Rk t_Rk t_Rk_ok n_Rk 2 (by decide) rfl w_134 rfl hin2 rfl rfl rfl (by simp only [List.length]; decide) rfl d_Rk_init_29 (fun f135 H locs hI hO hf135 => ?_)
  have hM := hM.put hf135 no_hM
  have ham := hw_c.fr ham (hf135 _ no_ham)
  have ha16 := hw_c.fr ha16 (hf135 _ no_ha16)
  have hN := hN.put hf135 no_hN
  have hX := hX.put hf135
  refine lv_aload_n hx hb d_Rk_init_32 rfl (lv_at hl 0 rfl) ?_
  refine hw_new S hI (ci := 5) (C := R_Wh) (T := F_Wh) (N := 2) rfl i_Wh t_Wh t_Wh_ok w_130 w_34 w_3 (fs := [.null, .int (nI 0)]) (by decide +kernel) (Nat.le_of_ble_eq_true rfl) (Nat.le_of_ble_eq_true rfl) d_Rk_init_33 (fun q3 L136 f136 H hI hq136 hq3 hk136 => ?_)
  have ne_hM_q3 := hM.nin hq136
  have ne_ham_q3 := (fun e => hq136 (e ▸ ham.1) : _ ≠ q3)
  have ne_ha16_q3 := (fun e => hq136 (e ▸ ha16.1) : _ ≠ q3)
  have ne_hN_q3 := hN.nin hq136
  have ne_hO_q3 : a0 ≠ q3 := fun e => hq136 (e ▸ hO.1)
  have nL_q3 : q3 ∉ L := fun h => hq136 (hX q3 h).1
  have hM := hM.new hk136
  have ham := grow_c hk136 ham
  have ha16 := grow_c hk136 ha16
  have hN := hN.new hk136
  have hO := grow_c hk136 hO
  have hX := hX.new hk136
  refine W.cs (cells' := 15) (slots' := 272) rfl rfl ?_
  refine lv_dup hx hb d_Rk_init_36 rfl ?_
  refine hw_cI (As := []) (rest := [.ref (q3), .ref (a0)]) S hI m_Wh_init w_131 (c_Wh_init l D t0 L136 f136 _ q3  hq3 ) hl.1 rfl rfl (Nat.le_of_ble_eq_true rfl) d_Rk_init_37 ⟨Nat.le_of_ble_eq_true rfl, Nat.le_of_ble_eq_true rfl⟩ ⟨Nat.le_of_ble_eq_true rfl, Nat.le_of_ble_eq_true rfl⟩ (fun v9 L137 f137 H locs hp hI => ?_)
  refine W.cs (cells' := 16) (slots' := 313) rfl rfl ?_
  obtain ⟨hv9, t3, hb3, hW3, hE3⟩ := hp
  cases hv9
  refine hw_stk (st' := [.ref (q3), .ref (a0)]) rfl ?_
  have nL_t3 : t3 ∉ L := fun h => hb3 (hX t3 h).1
  have nt_hM_3 := hM.nin hb3
  have nt_hN_3 := hN.nin hb3
  have hM := hM.ext hE3 ne_hM_q3
  have ham := hE3.c ham ne_ham_q3
  have ha16 := hE3.c ha16 ne_ha16_q3
  have hN := hN.ext hE3 ne_hN_q3
  have hO := hE3.c hO ne_hO_q3
  have hX := hX.sub nL_q3 hE3
  have hN := hN.push (by decide) hW3 (fun i g1 g2 => ⟨(ne_hN_q3 i g1 g2).1, (nt_hN_3 i g1 g2).2⟩)
  have mq3 := fun i g1 g2 => (ne_hM_q3 i g1 g2)
  have mt3 := nt_hM_3
  have hO9 := hO
  have no_hM := hM.ne hO (by decide)
  have no_ham := hw_c.ne ham hO (by first | (intro e; cases e; done) | (intro e; simp at e; done) | (unfold cMs cFr cWt; intro e; simp at e))
  have no_ha16 := hw_c.ne ha16 hO (by first | (intro e; cases e; done) | (intro e; simp at e; done) | (unfold cMs cFr cWt; intro e; simp at e))
  have no_hN := hN.ne hO (by decide)
  refine ob_putF S hI hO (fs' := [.ref (ad), .ref (am), .ref (a16), .ref (q3), .null, .null, .null]) (C := R_Rk) (T := F_Rk) (N := 7) (ref := "WallFractions$Reckoner") rfl i_Rk t_Rk t_Rk_ok n_Rk 3 (by decide) rfl w_136 rfl hin2 rfl rfl rfl (by simp only [List.length]; decide) rfl d_Rk_init_40 (fun f138 H locs hI hO hf138 => ?_)
  have hM := hM.put hf138 no_hM
  have ham := hw_c.fr ham (hf138 _ no_ham)
  have ha16 := hw_c.fr ha16 (hf138 _ no_ha16)
  have hN := hN.put hf138 no_hN
  have hX := hX.put hf138
  refine lv_aload_n hx hb d_Rk_init_43 rfl (lv_at hl 0 rfl) ?_
  refine hw_new S hI (ci := 5) (C := R_Wh) (T := F_Wh) (N := 2) rfl i_Wh t_Wh t_Wh_ok w_130 w_34 w_3 (fs := [.null, .int (nI 0)]) (by decide +kernel) (Nat.le_of_ble_eq_true rfl) (Nat.le_of_ble_eq_true rfl) d_Rk_init_44 (fun q4 L139 f139 H hI hq139 hq4 hk139 => ?_)
  have ne_hM_q4 := hM.nin hq139
  have ne_ham_q4 := (fun e => hq139 (e ▸ ham.1) : _ ≠ q4)
  have ne_ha16_q4 := (fun e => hq139 (e ▸ ha16.1) : _ ≠ q4)
  have ne_hN_q4 := hN.nin hq139
  have ne_hO_q4 : a0 ≠ q4 := fun e => hq139 (e ▸ hO.1)
  have nL_q4 : q4 ∉ L := fun h => hq139 (hX q4 h).1
  have hM := hM.new hk139
  have ham := grow_c hk139 ham
  have ha16 := grow_c hk139 ha16
  have hN := hN.new hk139
  have hO := grow_c hk139 hO
  have hX := hX.new hk139
  refine W.cs (cells' := 17) (slots' := 315) rfl rfl ?_
  refine lv_dup hx hb d_Rk_init_47 rfl ?_
  refine hw_cI (As := []) (rest := [.ref (q4), .ref (a0)]) S hI m_Wh_init w_131 (c_Wh_init l D t0 L139 f139 _ q4  hq4 ) hl.1 rfl rfl (Nat.le_of_ble_eq_true rfl) d_Rk_init_48 ⟨Nat.le_of_ble_eq_true rfl, Nat.le_of_ble_eq_true rfl⟩ ⟨Nat.le_of_ble_eq_true rfl, Nat.le_of_ble_eq_true rfl⟩ (fun v9 L140 f140 H locs hp hI => ?_)
  refine W.cs (cells' := 18) (slots' := 356) rfl rfl ?_
  obtain ⟨hv9, t4, hb4, hW4, hE4⟩ := hp
  cases hv9
  refine hw_stk (st' := [.ref (q4), .ref (a0)]) rfl ?_
  have nL_t4 : t4 ∉ L := fun h => hb4 (hX t4 h).1
  have nt_hM_4 := hM.nin hb4
  have nt_hN_4 := hN.nin hb4
  have hM := hM.ext hE4 ne_hM_q4
  have ham := hE4.c ham ne_ham_q4
  have ha16 := hE4.c ha16 ne_ha16_q4
  have hN := hN.ext hE4 ne_hN_q4
  have hO := hE4.c hO ne_hO_q4
  have hX := hX.sub nL_q4 hE4
  have hN := hN.push (by decide) hW4 (fun i g1 g2 => ⟨(ne_hN_q4 i g1 g2).1, (nt_hN_4 i g1 g2).2⟩)
  have mq4 := fun i g1 g2 => (ne_hM_q4 i g1 g2)
  have mt4 := nt_hM_4
  have hO9 := hO
  have no_hM := hM.ne hO (by decide)
  have no_ham := hw_c.ne ham hO (by first | (intro e; cases e; done) | (intro e; simp at e; done) | (unfold cMs cFr cWt; intro e; simp at e))
  have no_ha16 := hw_c.ne ha16 hO (by first | (intro e; cases e; done) | (intro e; simp at e; done) | (unfold cMs cFr cWt; intro e; simp at e))
  have no_hN := hN.ne hO (by decide)
  refine ob_putF S hI hO (fs' := [.ref (ad), .ref (am), .ref (a16), .ref (q3), .ref (q4), .null, .null]) (C := R_Rk) (T := F_Rk) (N := 7) (ref := "WallFractions$Reckoner") rfl i_Rk t_Rk t_Rk_ok n_Rk 4 (by decide) rfl w_137 rfl hin2 rfl rfl rfl (by simp only [List.length]; decide) rfl d_Rk_init_51 (fun f141 H locs hI hO hf141 => ?_)
  have hM := hM.put hf141 no_hM
  have ham := hw_c.fr ham (hf141 _ no_ham)
  have ha16 := hw_c.fr ha16 (hf141 _ no_ha16)
  have hN := hN.put hf141 no_hN
  have hX := hX.put hf141
  refine lv_aload_n hx hb d_Rk_init_54 rfl (lv_at hl 0 rfl) ?_
  refine hw_new S hI (ci := 5) (C := R_Wh) (T := F_Wh) (N := 2) rfl i_Wh t_Wh t_Wh_ok w_130 w_34 w_3 (fs := [.null, .int (nI 0)]) (by decide +kernel) (Nat.le_of_ble_eq_true rfl) (Nat.le_of_ble_eq_true rfl) d_Rk_init_55 (fun q5 L142 f142 H hI hq142 hq5 hk142 => ?_)
  have ne_hM_q5 := hM.nin hq142
  have ne_ham_q5 := (fun e => hq142 (e ▸ ham.1) : _ ≠ q5)
  have ne_ha16_q5 := (fun e => hq142 (e ▸ ha16.1) : _ ≠ q5)
  have ne_hN_q5 := hN.nin hq142
  have ne_hO_q5 : a0 ≠ q5 := fun e => hq142 (e ▸ hO.1)
  have nL_q5 : q5 ∉ L := fun h => hq142 (hX q5 h).1
  have hM := hM.new hk142
  have ham := grow_c hk142 ham
  have ha16 := grow_c hk142 ha16
  have hN := hN.new hk142
  have hO := grow_c hk142 hO
  have hX := hX.new hk142
  refine W.cs (cells' := 19) (slots' := 358) rfl rfl ?_
  refine lv_dup hx hb d_Rk_init_58 rfl ?_
  refine hw_cI (As := []) (rest := [.ref (q5), .ref (a0)]) S hI m_Wh_init w_131 (c_Wh_init l D t0 L142 f142 _ q5  hq5 ) hl.1 rfl rfl (Nat.le_of_ble_eq_true rfl) d_Rk_init_59 ⟨Nat.le_of_ble_eq_true rfl, Nat.le_of_ble_eq_true rfl⟩ ⟨Nat.le_of_ble_eq_true rfl, Nat.le_of_ble_eq_true rfl⟩ (fun v9 L143 f143 H locs hp hI => ?_)
  refine W.cs (cells' := 20) (slots' := 399) rfl rfl ?_
  obtain ⟨hv9, t5, hb5, hW5, hE5⟩ := hp
  cases hv9
  refine hw_stk (st' := [.ref (q5), .ref (a0)]) rfl ?_
  have nL_t5 : t5 ∉ L := fun h => hb5 (hX t5 h).1
  have nt_hM_5 := hM.nin hb5
  have nt_hN_5 := hN.nin hb5
  have hM := hM.ext hE5 ne_hM_q5
  have ham := hE5.c ham ne_ham_q5
  have ha16 := hE5.c ha16 ne_ha16_q5
  have hN := hN.ext hE5 ne_hN_q5
  have hO := hE5.c hO ne_hO_q5
  have hX := hX.sub nL_q5 hE5
  have hN := hN.push (by decide) hW5 (fun i g1 g2 => ⟨(ne_hN_q5 i g1 g2).1, (nt_hN_5 i g1 g2).2⟩)
  have mq5 := fun i g1 g2 => (ne_hM_q5 i g1 g2)
  have mt5 := nt_hM_5
  have hO9 := hO
  have no_hM := hM.ne hO (by decide)
  have no_ham := hw_c.ne ham hO (by first | (intro e; cases e; done) | (intro e; simp at e; done) | (unfold cMs cFr cWt; intro e; simp at e))
  have no_ha16 := hw_c.ne ha16 hO (by first | (intro e; cases e; done) | (intro e; simp at e; done) | (unfold cMs cFr cWt; intro e; simp at e))
  have no_hN := hN.ne hO (by decide)
  refine ob_putF S hI hO (fs' := [.ref (ad), .ref (am), .ref (a16), .ref (q3), .ref (q4), .ref (q5), .null]) (C := R_Rk) (T := F_Rk) (N := 7) (ref := "WallFractions$Reckoner") rfl i_Rk t_Rk t_Rk_ok n_Rk 5 (by decide) rfl w_138 rfl hin2 rfl rfl rfl (by simp only [List.length]; decide) rfl d_Rk_init_62 (fun f144 H locs hI hO hf144 => ?_)
  have hM := hM.put hf144 no_hM
  have ham := hw_c.fr ham (hf144 _ no_ham)
  have ha16 := hw_c.fr ha16 (hf144 _ no_ha16)
  have hN := hN.put hf144 no_hN
  have hX := hX.put hf144
  refine lv_aload_n hx hb d_Rk_init_65 rfl (lv_at hl 0 rfl) ?_
  refine hw_new S hI (ci := 5) (C := R_Wh) (T := F_Wh) (N := 2) rfl i_Wh t_Wh t_Wh_ok w_130 w_34 w_3 (fs := [.null, .int (nI 0)]) (by decide +kernel) (Nat.le_of_ble_eq_true rfl) (Nat.le_of_ble_eq_true rfl) d_Rk_init_66 (fun q6 L145 f145 H hI hq145 hq6 hk145 => ?_)
  have ne_hM_q6 := hM.nin hq145
  have ne_ham_q6 := (fun e => hq145 (e ▸ ham.1) : _ ≠ q6)
  have ne_ha16_q6 := (fun e => hq145 (e ▸ ha16.1) : _ ≠ q6)
  have ne_hN_q6 := hN.nin hq145
  have ne_hO_q6 : a0 ≠ q6 := fun e => hq145 (e ▸ hO.1)
  have nL_q6 : q6 ∉ L := fun h => hq145 (hX q6 h).1
  have hM := hM.new hk145
  have ham := grow_c hk145 ham
  have ha16 := grow_c hk145 ha16
  have hN := hN.new hk145
  have hO := grow_c hk145 hO
  have hX := hX.new hk145
  refine W.cs (cells' := 21) (slots' := 401) rfl rfl ?_
  refine lv_dup hx hb d_Rk_init_69 rfl ?_
  refine hw_cI (As := []) (rest := [.ref (q6), .ref (a0)]) S hI m_Wh_init w_131 (c_Wh_init l D t0 L145 f145 _ q6  hq6 ) hl.1 rfl rfl (Nat.le_of_ble_eq_true rfl) d_Rk_init_70 ⟨Nat.le_of_ble_eq_true rfl, Nat.le_of_ble_eq_true rfl⟩ ⟨Nat.le_of_ble_eq_true rfl, Nat.le_of_ble_eq_true rfl⟩ (fun v9 L146 f146 H locs hp hI => ?_)
  refine W.cs (cells' := 22) (slots' := 442) rfl rfl ?_
  obtain ⟨hv9, t6, hb6, hW6, hE6⟩ := hp
  cases hv9
  refine hw_stk (st' := [.ref (q6), .ref (a0)]) rfl ?_
  have nL_t6 : t6 ∉ L := fun h => hb6 (hX t6 h).1
  have nt_hM_6 := hM.nin hb6
  have nt_hN_6 := hN.nin hb6
  have hM := hM.ext hE6 ne_hM_q6
  have ham := hE6.c ham ne_ham_q6
  have ha16 := hE6.c ha16 ne_ha16_q6
  have hN := hN.ext hE6 ne_hN_q6
  have hO := hE6.c hO ne_hO_q6
  have hX := hX.sub nL_q6 hE6
  have hN := hN.push (by decide) hW6 (fun i g1 g2 => ⟨(ne_hN_q6 i g1 g2).1, (nt_hN_6 i g1 g2).2⟩)
  have mq6 := fun i g1 g2 => (ne_hM_q6 i g1 g2)
  have mt6 := nt_hM_6
  have hO9 := hO
  have no_hM := hM.ne hO (by decide)
  have no_ham := hw_c.ne ham hO (by first | (intro e; cases e; done) | (intro e; simp at e; done) | (unfold cMs cFr cWt; intro e; simp at e))
  have no_ha16 := hw_c.ne ha16 hO (by first | (intro e; cases e; done) | (intro e; simp at e; done) | (unfold cMs cFr cWt; intro e; simp at e))
  have no_hN := hN.ne hO (by decide)
  refine ob_putF S hI hO (fs' := [.ref (ad), .ref (am), .ref (a16), .ref (q3), .ref (q4), .ref (q5), .ref (q6)]) (C := R_Rk) (T := F_Rk) (N := 7) (ref := "WallFractions$Reckoner") rfl i_Rk t_Rk t_Rk_ok n_Rk 6 (by decide) rfl w_139 rfl hin2 rfl rfl rfl (by simp only [List.length]; decide) rfl d_Rk_init_73 (fun f147 H locs hI hO hf147 => ?_)
  have hM := hM.put hf147 no_hM
  have ham := hw_c.fr ham (hf147 _ no_ham)
  have ha16 := hw_c.fr ha16 (hf147 _ no_ha16)
  have hN := hN.put hf147 no_hN
  have hX := hX.put hf147
  have hFr : ∀ i, 32 ≤ i → i < 38 → (va_up (va_up (va_up (va_up (va_up (va_up (fun _ => 0) 32 q1) 33 q2) 34 q3) 35 q4) 36 q5) 37 q6) i ∉ L ∧ (va_up (va_up (va_up (va_up (va_up (va_up (fun _ => 0) 32 t1) 33 t2) 34 t3) 35 t4) 36 t5) 37 t6) i ∉ L := by
    intro i g1 g2
    rcases (show i = 32 ∨ i = 33 ∨ i = 34 ∨ i = 35 ∨ i = 36 ∨ i = 37 by omega) with rfl | rfl | rfl | rfl | rfl | rfl
    · exact ⟨nL_q1, nL_t1⟩
    · exact ⟨nL_q2, nL_t2⟩
    · exact ⟨nL_q3, nL_t3⟩
    · exact ⟨nL_q4, nL_t4⟩
    · exact ⟨nL_q5, nL_t5⟩
    · exact ⟨nL_q6, nL_t6⟩
  have hJ := AN.join hN hM (fun i j g1 g2 g3 g4 => by
    rcases (show i = 32 ∨ i = 33 ∨ i = 34 ∨ i = 35 ∨ i = 36 ∨ i = 37 by omega) with rfl | rfl | rfl | rfl | rfl | rfl
    · exact ⟨(mq1 j g3 g4).1.symm, (mt1 j g3 g4).2.symm⟩
    · exact ⟨(mq2 j g3 g4).1.symm, (mt2 j g3 g4).2.symm⟩
    · exact ⟨(mq3 j g3 g4).1.symm, (mt3 j g3 g4).2.symm⟩
    · exact ⟨(mq4 j g3 g4).1.symm, (mt4 j g3 g4).2.symm⟩
    · exact ⟨(mq5 j g3 g4).1.symm, (mt5 j g3 g4).2.symm⟩
    · exact ⟨(mq6 j g3 g4).1.symm, (mt6 j g3 g4).2.symm⟩)
  have hFj : ∀ i, 32 ≤ i → i < 42 → jn 38 (va_up (va_up (va_up (va_up (va_up (va_up (fun _ => 0) 32 q1) 33 q2) 34 q3) 35 q4) 36 q5) 37 q6) om i ∉ L ∧ jn 38 (va_up (va_up (va_up (va_up (va_up (va_up (fun _ => 0) 32 t1) 33 t2) 34 t3) 35 t4) 36 t5) 37 t6) rm i ∉ L := fun i g1 g2 => by
    rcases Nat.lt_or_ge i 38 with g | g
    · rw [jn_lt g, jn_lt g]; exact hFr i g1 g
    · rw [jn_ge g, jn_ge g]; exact fM i g g2
  exact hw_vret hx hb hr hlocks hI d_Rk_init_76 ⟨rfl, _, _, _, a16, am, hJ, hFj, nL_a16, nL_am, fun e => ne_ham_a16 e.symm, ham, ha16, hO, hX⟩
set_option maxHeartbeats 4000000 in
set_option maxRecDepth 100000 in
theorem c_Sh_init (l : Launch) (D : va_G) (t0 : Nat) (L : List Nat) (f : Nat → va_E) (sz : Nat) (a0 : Nat) (ad : Nat) (hO : hw_c L f a0 (.inr (4, [.null, .null, .null, .null, .null, .null, .null])))  : Met l y_Sh_init (Cond.code y_Sh_init b_Sh_init 2 none :: TT) ({ frames := 2, cells := 10, slots := 192, locals := 60 } : Room) (hw_Pc t0 [.ref (a0), .ref (ad)] D L f sz) (hw_Q D L sz (fun oc L' f' => oc = .returned none ∧ ∃ o r x aw ar, AN 42 46 D L' f' o r x ∧ (∀ i, 42 ≤ i → i < 46 → o i ∉ L ∧ r i ∉ L) ∧ aw ∉ L ∧ ar ∉ L ∧ hw_c L' f' aw (cWt D (fun _ => 0)) ∧ arrN D L' f' ar 10 (fun _ => 0) ∧ hw_c L' f' a0 (cSh o ad aw ar) ∧ Ext L f L' f' a0)) 10 192 (hw_A L sz) := by
  refine Met.ofW (cc := b_Sh_init) (maxL := 2) (ret := none) (by decide) rfl ?_
  intro p e s m args below meth c s₁ B hml hv
  obtain ⟨rfl, rfl, hI⟩ := hw_start hv
  clear hv
  have hx := B.exec
  have hb := B.bytes
  have hr := B.returns
  have hlocks := B.notSynchronized
  have hown : s.vm.findClass "WallFractions$Sharing" = some m.cls := findClass_of_methodNamed B.named
  have hT : ∀ w ∈ TT, w.before ([.ref (a0), .ref (ad)]).toArray s = true := fun w h => atoms_spec (ws := (Cond.code y_Sh_init b_Sh_init 2 none :: TT)) B.pre w (List.mem_cons_of_mem _ h)
  have S : CallFix p m c b_Sh_init 2 s ([.ref (a0), .ref (ad)]).toArray TT "WallFractions$Sharing" := ⟨hx, hb, hml, hown, hT⟩
  have hin2 : meth.name = "<init>" := (name_of_methodNamed B.named B.method).1
  have hl := lv_entry ([.ref (a0), .ref (ad)]) (n := 2) (Nat.le_of_ble_eq_true rfl)
  rw [lg_entry_eq]
  generalize (lg_sl ([.ref (a0), .ref (ad)]) ++ List.replicate (2 - (lg_sl ([.ref (a0), .ref (ad)])).length) Slot.unset).toArray = ls at hl ⊢
  have hl : lv_has ls 2 [(0, .ref (a0)), (1, .ref (ad))] := hl
  have hX : Ext L f L f a0 := Ext.refl
  refine lv_aload_n hx hb d_Sh_init_0 rfl (lv_at hl 0 rfl) ?_
  refine W.objInit hx hb hown (hT _ w_160) (hT _ w_24) (hT _ w_25) rfl (by rw [hml]; exact hl.1) rfl d_Sh_init_1 (Nat.le_of_ble_eq_true rfl) (Nat.le_of_ble_eq_true rfl) ?_
  refine W.eq (g2 := F0 m 4 ls []) rfl ?_
  have hN : AN 42 42 D L f (fun _ => 0) (fun _ => 0) (fun _ => 0) := AN.nil
  refine lv_aload_n hx hb d_Sh_init_4 rfl (lv_at hl 0 rfl) ?_
  refine lv_aload_n hx hb d_Sh_init_5 rfl (lv_at hl 1 rfl) ?_
  have hO9 := hO
  have no_hN := hN.ne hO (by decide)
  refine ob_putF S hI hO (fs' := [.ref (ad), .null, .null, .null, .null, .null, .null]) (C := R_Sh) (T := F_Sh) (N := 7) (ref := "WallFractions$Sharing") rfl i_Sh t_Sh t_Sh_ok n_Sh 0 (by decide) rfl w_163 rfl hin2 rfl rfl rfl (by simp only [List.length]; decide) rfl d_Sh_init_6 (fun f148 H locs hI hO hf148 => ?_)
  have hN := hN.put hf148 no_hN
  have hX := hX.put hf148
  refine lv_aload_n hx hb d_Sh_init_9 rfl (lv_at hl 0 rfl) ?_
  refine lv_bipush (v := nI 10) hx hb d_Sh_init_10 (by decide) ?_
  refine hw_newI S hI w_185 (by decide) (Nat.le_of_ble_eq_true rfl) (Nat.le_of_ble_eq_true rfl) d_Sh_init_12 (fun z1 L149 f149 H hI hq149 hz1 hk149 => ?_)
  have ne_hN_z1 := hN.nin hq149
  have ne_hO_z1 : a0 ≠ z1 := fun e => hq149 (e ▸ hO.1)
  have nL_z1 : z1 ∉ L := fun h => hq149 (hX z1 h).1
  have hN := hN.new hk149
  have hO := grow_c hk149 hO
  have hX := hX.new hk149
  refine W.cs (cells' := 1) (slots' := 10) rfl rfl ?_
  have hO9 := hO
  have no_hN := hN.ne hO (by decide)
  have no_hz1 := hw_c.ne hz1 hO (by first | (intro e; cases e; done) | (intro e; simp at e; done) | (unfold cMs cFr cWt; intro e; simp at e))
  refine ob_putF S hI hO (fs' := [.ref (ad), .ref (z1), .null, .null, .null, .null, .null]) (C := R_Sh) (T := F_Sh) (N := 7) (ref := "WallFractions$Sharing") rfl i_Sh t_Sh t_Sh_ok n_Sh 1 (by decide) rfl w_164 rfl hin2 rfl rfl rfl (by simp only [List.length]; decide) rfl d_Sh_init_14 (fun f150 H locs hI hO hf150 => ?_)
  have hN := hN.put hf150 no_hN
  have hz1 := hw_c.fr hz1 (hf150 _ no_hz1)
  have hX := hX.put hf150
  refine lv_aload_n hx hb d_Sh_init_17 rfl (lv_at hl 0 rfl) ?_
  refine lv_bipush (v := nI 10) hx hb d_Sh_init_18 (by decide) ?_
  refine hw_newL S hI w_51 (by decide) (Nat.le_of_ble_eq_true rfl) (Nat.le_of_ble_eq_true rfl) d_Sh_init_20 (fun z2 L151 f151 H hI hq151 hz2 hk151 => ?_)
  have ne_hN_z2 := hN.nin hq151
  have ne_hz1_z2 := (fun e => hq151 (e ▸ hz1.1) : _ ≠ z2)
  have ne_hO_z2 : a0 ≠ z2 := fun e => hq151 (e ▸ hO.1)
  have nL_z2 : z2 ∉ L := fun h => hq151 (hX z2 h).1
  have hN := hN.new hk151
  have hz1 := grow_c hk151 hz1
  have hO := grow_c hk151 hO
  have hX := hX.new hk151
  refine W.cs (cells' := 2) (slots' := 20) rfl rfl ?_
  have hO9 := hO
  have no_hN := hN.ne hO (by decide)
  have no_hz1 := hw_c.ne hz1 hO (by first | (intro e; cases e; done) | (intro e; simp at e; done) | (unfold cMs cFr cWt; intro e; simp at e))
  have no_hz2 := hw_c.ne hz2 hO (by first | (intro e; cases e; done) | (intro e; simp at e; done) | (unfold cMs cFr cWt; intro e; simp at e))
  refine ob_putF S hI hO (fs' := [.ref (ad), .ref (z1), .ref (z2), .null, .null, .null, .null]) (C := R_Sh) (T := F_Sh) (N := 7) (ref := "WallFractions$Sharing") rfl i_Sh t_Sh t_Sh_ok n_Sh 2 (by decide) rfl w_165 rfl hin2 rfl rfl rfl (by simp only [List.length]; decide) rfl d_Sh_init_22 (fun f152 H locs hI hO hf152 => ?_)
  have hN := hN.put hf152 no_hN
  have hz1 := hw_c.fr hz1 (hf152 _ no_hz1)
  have hz2 := hw_c.fr hz2 (hf152 _ no_hz2)
  have hX := hX.put hf152
  refine lv_aload_n hx hb d_Sh_init_25 rfl (lv_at hl 0 rfl) ?_
  refine hw_new S hI (ci := 5) (C := R_Wh) (T := F_Wh) (N := 2) rfl i_Wh t_Wh t_Wh_ok w_161 w_34 w_3 (fs := [.null, .int (nI 0)]) (by decide +kernel) (Nat.le_of_ble_eq_true rfl) (Nat.le_of_ble_eq_true rfl) d_Sh_init_26 (fun q1 L153 f153 H hI hq153 hq1 hk153 => ?_)
  have ne_hN_q1 := hN.nin hq153
  have ne_hz1_q1 := (fun e => hq153 (e ▸ hz1.1) : _ ≠ q1)
  have ne_hz2_q1 := (fun e => hq153 (e ▸ hz2.1) : _ ≠ q1)
  have ne_hO_q1 : a0 ≠ q1 := fun e => hq153 (e ▸ hO.1)
  have nL_q1 : q1 ∉ L := fun h => hq153 (hX q1 h).1
  have hN := hN.new hk153
  have hz1 := grow_c hk153 hz1
  have hz2 := grow_c hk153 hz2
  have hO := grow_c hk153 hO
  have hX := hX.new hk153
  refine W.cs (cells' := 3) (slots' := 22) rfl rfl ?_
  refine lv_dup hx hb d_Sh_init_29 rfl ?_
  refine hw_cI (As := []) (rest := [.ref (q1), .ref (a0)]) S hI m_Wh_init w_162 (c_Wh_init l D t0 L153 f153 _ q1  hq1 ) hl.1 rfl rfl (Nat.le_of_ble_eq_true rfl) d_Sh_init_30 ⟨Nat.le_of_ble_eq_true rfl, Nat.le_of_ble_eq_true rfl⟩ ⟨Nat.le_of_ble_eq_true rfl, Nat.le_of_ble_eq_true rfl⟩ (fun v9 L154 f154 H locs hp hI => ?_)
  refine W.cs (cells' := 4) (slots' := 63) rfl rfl ?_
  obtain ⟨hv9, t1, hb1, hW1, hE1⟩ := hp
  cases hv9
  refine hw_stk (st' := [.ref (q1), .ref (a0)]) rfl ?_
  have nL_t1 : t1 ∉ L := fun h => hb1 (hX t1 h).1
  have nt_hN_1 := hN.nin hb1
  have hN := hN.ext hE1 ne_hN_q1
  have hz1 := hE1.c hz1 ne_hz1_q1
  have hz2 := hE1.c hz2 ne_hz2_q1
  have hO := hE1.c hO ne_hO_q1
  have hX := hX.sub nL_q1 hE1
  have hN := hN.push (by decide) hW1 (fun i g1 g2 => ⟨(ne_hN_q1 i g1 g2).1, (nt_hN_1 i g1 g2).2⟩)
  have hO9 := hO
  have no_hN := hN.ne hO (by decide)
  have no_hz1 := hw_c.ne hz1 hO (by first | (intro e; cases e; done) | (intro e; simp at e; done) | (unfold cMs cFr cWt; intro e; simp at e))
  have no_hz2 := hw_c.ne hz2 hO (by first | (intro e; cases e; done) | (intro e; simp at e; done) | (unfold cMs cFr cWt; intro e; simp at e))
  refine ob_putF S hI hO (fs' := [.ref (ad), .ref (z1), .ref (z2), .ref (q1), .null, .null, .null]) (C := R_Sh) (T := F_Sh) (N := 7) (ref := "WallFractions$Sharing") rfl i_Sh t_Sh t_Sh_ok n_Sh 3 (by decide) rfl w_166 rfl hin2 rfl rfl rfl (by simp only [List.length]; decide) rfl d_Sh_init_33 (fun f155 H locs hI hO hf155 => ?_)
  have hN := hN.put hf155 no_hN
  have hz1 := hw_c.fr hz1 (hf155 _ no_hz1)
  have hz2 := hw_c.fr hz2 (hf155 _ no_hz2)
  have hX := hX.put hf155
  refine lv_aload_n hx hb d_Sh_init_36 rfl (lv_at hl 0 rfl) ?_
  refine hw_new S hI (ci := 5) (C := R_Wh) (T := F_Wh) (N := 2) rfl i_Wh t_Wh t_Wh_ok w_161 w_34 w_3 (fs := [.null, .int (nI 0)]) (by decide +kernel) (Nat.le_of_ble_eq_true rfl) (Nat.le_of_ble_eq_true rfl) d_Sh_init_37 (fun q2 L156 f156 H hI hq156 hq2 hk156 => ?_)
  have ne_hN_q2 := hN.nin hq156
  have ne_hz1_q2 := (fun e => hq156 (e ▸ hz1.1) : _ ≠ q2)
  have ne_hz2_q2 := (fun e => hq156 (e ▸ hz2.1) : _ ≠ q2)
  have ne_hO_q2 : a0 ≠ q2 := fun e => hq156 (e ▸ hO.1)
  have nL_q2 : q2 ∉ L := fun h => hq156 (hX q2 h).1
  have hN := hN.new hk156
  have hz1 := grow_c hk156 hz1
  have hz2 := grow_c hk156 hz2
  have hO := grow_c hk156 hO
  have hX := hX.new hk156
  refine W.cs (cells' := 5) (slots' := 65) rfl rfl ?_
  refine lv_dup hx hb d_Sh_init_40 rfl ?_
  refine hw_cI (As := []) (rest := [.ref (q2), .ref (a0)]) S hI m_Wh_init w_162 (c_Wh_init l D t0 L156 f156 _ q2  hq2 ) hl.1 rfl rfl (Nat.le_of_ble_eq_true rfl) d_Sh_init_41 ⟨Nat.le_of_ble_eq_true rfl, Nat.le_of_ble_eq_true rfl⟩ ⟨Nat.le_of_ble_eq_true rfl, Nat.le_of_ble_eq_true rfl⟩ (fun v9 L157 f157 H locs hp hI => ?_)
  refine W.cs (cells' := 6) (slots' := 106) rfl rfl ?_
  obtain ⟨hv9, t2, hb2, hW2, hE2⟩ := hp
  cases hv9
  refine hw_stk (st' := [.ref (q2), .ref (a0)]) rfl ?_
  have nL_t2 : t2 ∉ L := fun h => hb2 (hX t2 h).1
  have nt_hN_2 := hN.nin hb2
  have hN := hN.ext hE2 ne_hN_q2
  have hz1 := hE2.c hz1 ne_hz1_q2
  have hz2 := hE2.c hz2 ne_hz2_q2
  have hO := hE2.c hO ne_hO_q2
  have hX := hX.sub nL_q2 hE2
  have hN := hN.push (by decide) hW2 (fun i g1 g2 => ⟨(ne_hN_q2 i g1 g2).1, (nt_hN_2 i g1 g2).2⟩)
  have hO9 := hO
  have no_hN := hN.ne hO (by decide)
  have no_hz1 := hw_c.ne hz1 hO (by first | (intro e; cases e; done) | (intro e; simp at e; done) | (unfold cMs cFr cWt; intro e; simp at e))
  have no_hz2 := hw_c.ne hz2 hO (by first | (intro e; cases e; done) | (intro e; simp at e; done) | (unfold cMs cFr cWt; intro e; simp at e))
  refine ob_putF S hI hO (fs' := [.ref (ad), .ref (z1), .ref (z2), .ref (q1), .ref (q2), .null, .null]) (C := R_Sh) (T := F_Sh) (N := 7) (ref := "WallFractions$Sharing") rfl i_Sh t_Sh t_Sh_ok n_Sh 4 (by decide) rfl w_167 rfl hin2 rfl rfl rfl (by simp only [List.length]; decide) rfl d_Sh_init_44 (fun f158 H locs hI hO hf158 => ?_)
  have hN := hN.put hf158 no_hN
  have hz1 := hw_c.fr hz1 (hf158 _ no_hz1)
  have hz2 := hw_c.fr hz2 (hf158 _ no_hz2)
  have hX := hX.put hf158
  refine lv_aload_n hx hb d_Sh_init_47 rfl (lv_at hl 0 rfl) ?_
  refine hw_new S hI (ci := 5) (C := R_Wh) (T := F_Wh) (N := 2) rfl i_Wh t_Wh t_Wh_ok w_161 w_34 w_3 (fs := [.null, .int (nI 0)]) (by decide +kernel) (Nat.le_of_ble_eq_true rfl) (Nat.le_of_ble_eq_true rfl) d_Sh_init_48 (fun q3 L159 f159 H hI hq159 hq3 hk159 => ?_)
  have ne_hN_q3 := hN.nin hq159
  have ne_hz1_q3 := (fun e => hq159 (e ▸ hz1.1) : _ ≠ q3)
  have ne_hz2_q3 := (fun e => hq159 (e ▸ hz2.1) : _ ≠ q3)
  have ne_hO_q3 : a0 ≠ q3 := fun e => hq159 (e ▸ hO.1)
  have nL_q3 : q3 ∉ L := fun h => hq159 (hX q3 h).1
  have hN := hN.new hk159
  have hz1 := grow_c hk159 hz1
  have hz2 := grow_c hk159 hz2
  have hO := grow_c hk159 hO
  have hX := hX.new hk159
  refine W.cs (cells' := 7) (slots' := 108) rfl rfl ?_
  refine lv_dup hx hb d_Sh_init_51 rfl ?_
  refine hw_cI (As := []) (rest := [.ref (q3), .ref (a0)]) S hI m_Wh_init w_162 (c_Wh_init l D t0 L159 f159 _ q3  hq3 ) hl.1 rfl rfl (Nat.le_of_ble_eq_true rfl) d_Sh_init_52 ⟨Nat.le_of_ble_eq_true rfl, Nat.le_of_ble_eq_true rfl⟩ ⟨Nat.le_of_ble_eq_true rfl, Nat.le_of_ble_eq_true rfl⟩ (fun v9 L160 f160 H locs hp hI => ?_)
  refine W.cs (cells' := 8) (slots' := 149) rfl rfl ?_
  obtain ⟨hv9, t3, hb3, hW3, hE3⟩ := hp
  cases hv9
  refine hw_stk (st' := [.ref (q3), .ref (a0)]) rfl ?_
  have nL_t3 : t3 ∉ L := fun h => hb3 (hX t3 h).1
  have nt_hN_3 := hN.nin hb3
  have hN := hN.ext hE3 ne_hN_q3
  have hz1 := hE3.c hz1 ne_hz1_q3
  have hz2 := hE3.c hz2 ne_hz2_q3
  have hO := hE3.c hO ne_hO_q3
  have hX := hX.sub nL_q3 hE3
  have hN := hN.push (by decide) hW3 (fun i g1 g2 => ⟨(ne_hN_q3 i g1 g2).1, (nt_hN_3 i g1 g2).2⟩)
  have hO9 := hO
  have no_hN := hN.ne hO (by decide)
  have no_hz1 := hw_c.ne hz1 hO (by first | (intro e; cases e; done) | (intro e; simp at e; done) | (unfold cMs cFr cWt; intro e; simp at e))
  have no_hz2 := hw_c.ne hz2 hO (by first | (intro e; cases e; done) | (intro e; simp at e; done) | (unfold cMs cFr cWt; intro e; simp at e))
  refine ob_putF S hI hO (fs' := [.ref (ad), .ref (z1), .ref (z2), .ref (q1), .ref (q2), .ref (q3), .null]) (C := R_Sh) (T := F_Sh) (N := 7) (ref := "WallFractions$Sharing") rfl i_Sh t_Sh t_Sh_ok n_Sh 5 (by decide) rfl w_168 rfl hin2 rfl rfl rfl (by simp only [List.length]; decide) rfl d_Sh_init_55 (fun f161 H locs hI hO hf161 => ?_)
  have hN := hN.put hf161 no_hN
  have hz1 := hw_c.fr hz1 (hf161 _ no_hz1)
  have hz2 := hw_c.fr hz2 (hf161 _ no_hz2)
  have hX := hX.put hf161
  refine lv_aload_n hx hb d_Sh_init_58 rfl (lv_at hl 0 rfl) ?_
  refine hw_new S hI (ci := 5) (C := R_Wh) (T := F_Wh) (N := 2) rfl i_Wh t_Wh t_Wh_ok w_161 w_34 w_3 (fs := [.null, .int (nI 0)]) (by decide +kernel) (Nat.le_of_ble_eq_true rfl) (Nat.le_of_ble_eq_true rfl) d_Sh_init_59 (fun q4 L162 f162 H hI hq162 hq4 hk162 => ?_)
  have ne_hN_q4 := hN.nin hq162
  have ne_hz1_q4 := (fun e => hq162 (e ▸ hz1.1) : _ ≠ q4)
  have ne_hz2_q4 := (fun e => hq162 (e ▸ hz2.1) : _ ≠ q4)
  have ne_hO_q4 : a0 ≠ q4 := fun e => hq162 (e ▸ hO.1)
  have nL_q4 : q4 ∉ L := fun h => hq162 (hX q4 h).1
  have hN := hN.new hk162
  have hz1 := grow_c hk162 hz1
  have hz2 := grow_c hk162 hz2
  have hO := grow_c hk162 hO
  have hX := hX.new hk162
  refine W.cs (cells' := 9) (slots' := 151) rfl rfl ?_
  refine lv_dup hx hb d_Sh_init_62 rfl ?_
  refine hw_cI (As := []) (rest := [.ref (q4), .ref (a0)]) S hI m_Wh_init w_162 (c_Wh_init l D t0 L162 f162 _ q4  hq4 ) hl.1 rfl rfl (Nat.le_of_ble_eq_true rfl) d_Sh_init_63 ⟨Nat.le_of_ble_eq_true rfl, Nat.le_of_ble_eq_true rfl⟩ ⟨Nat.le_of_ble_eq_true rfl, Nat.le_of_ble_eq_true rfl⟩ (fun v9 L163 f163 H locs hp hI => ?_)
  refine W.cs (cells' := 10) (slots' := 192) rfl rfl ?_
  obtain ⟨hv9, t4, hb4, hW4, hE4⟩ := hp
  cases hv9
  refine hw_stk (st' := [.ref (q4), .ref (a0)]) rfl ?_
  have nL_t4 : t4 ∉ L := fun h => hb4 (hX t4 h).1
  have nt_hN_4 := hN.nin hb4
  have hN := hN.ext hE4 ne_hN_q4
  have hz1 := hE4.c hz1 ne_hz1_q4
  have hz2 := hE4.c hz2 ne_hz2_q4
  have hO := hE4.c hO ne_hO_q4
  have hX := hX.sub nL_q4 hE4
  have hN := hN.push (by decide) hW4 (fun i g1 g2 => ⟨(ne_hN_q4 i g1 g2).1, (nt_hN_4 i g1 g2).2⟩)
  have hO9 := hO
  have no_hN := hN.ne hO (by decide)
  have no_hz1 := hw_c.ne hz1 hO (by first | (intro e; cases e; done) | (intro e; simp at e; done) | (unfold cMs cFr cWt; intro e; simp at e))
  have no_hz2 := hw_c.ne hz2 hO (by first | (intro e; cases e; done) | (intro e; simp at e; done) | (unfold cMs cFr cWt; intro e; simp at e))
  refine ob_putF S hI hO (fs' := [.ref (ad), .ref (z1), .ref (z2), .ref (q1), .ref (q2), .ref (q3), .ref (q4)]) (C := R_Sh) (T := F_Sh) (N := 7) (ref := "WallFractions$Sharing") rfl i_Sh t_Sh t_Sh_ok n_Sh 6 (by decide) rfl w_169 rfl hin2 rfl rfl rfl (by simp only [List.length]; decide) rfl d_Sh_init_66 (fun f164 H locs hI hO hf164 => ?_)
  have hN := hN.put hf164 no_hN
  have hz1 := hw_c.fr hz1 (hf164 _ no_hz1)
  have hz2 := hw_c.fr hz2 (hf164 _ no_hz2)
  have hX := hX.put hf164
  have hFr : ∀ i, 42 ≤ i → i < 46 → (va_up (va_up (va_up (va_up (fun _ => 0) 42 q1) 43 q2) 44 q3) 45 q4) i ∉ L ∧ (va_up (va_up (va_up (va_up (fun _ => 0) 42 t1) 43 t2) 44 t3) 45 t4) i ∉ L := by
    intro i g1 g2
    rcases (show i = 42 ∨ i = 43 ∨ i = 44 ∨ i = 45 by omega) with rfl | rfl | rfl | rfl
    · exact ⟨nL_q1, nL_t1⟩
    · exact ⟨nL_q2, nL_t2⟩
    · exact ⟨nL_q3, nL_t3⟩
    · exact ⟨nL_q4, nL_t4⟩
  exact hw_vret hx hb hr hlocks hI d_Sh_init_69 ⟨rfl, _, _, _, z1, z2, hN, hFr, nL_z1, nL_z2, hz1, hz2, hO, hX⟩

set_option maxHeartbeats 4000000 in
set_option maxRecDepth 100000 in
theorem c_Mo_init (l : Launch) (D : va_G) (t0 : Nat) (L : List Nat) (f : Nat → va_E) (sz : Nat) (a0 : Nat)  (hO : hw_c L f a0 (.inr (7, [.int (nI 0), .null, .null, .null, .null, .null])))  : Met l y_Mo_init (Cond.code y_Mo_init b_Mo_init 2 none :: TT) ({ frames := 1, cells := 5, slots := 6486, locals := 40 } : Room) (hw_Pc t0 [.ref (a0)] D L f sz) (hw_Q D L sz (fun oc L' f' => oc = .returned none ∧ ∃ mc ml mg mw mr, mc ∉ L ∧ ml ∉ L ∧ mg ∉ L ∧ mw ∉ L ∧ mr ∉ L ∧ Mg D L' f' a0 mc ml mg mw mr (nI 0) σ0 (fun _ => 0) ∧ Ext L f L' f' a0)) 5 6486 (hw_A L sz) := by
  refine Met.ofW (cc := b_Mo_init) (maxL := 2) (ret := none) (by decide) rfl ?_
  intro p e s m args below meth c s₁ B hml hv
  obtain ⟨rfl, rfl, hI⟩ := hw_start hv
  clear hv
  have hx := B.exec
  have hb := B.bytes
  have hr := B.returns
  have hlocks := B.notSynchronized
  have hown : s.vm.findClass "WallFractionsModel" = some m.cls := findClass_of_methodNamed B.named
  have hT : ∀ w ∈ TT, w.before ([.ref (a0)]).toArray s = true := fun w h => atoms_spec (ws := (Cond.code y_Mo_init b_Mo_init 2 none :: TT)) B.pre w (List.mem_cons_of_mem _ h)
  have S : CallFix p m c b_Mo_init 2 s ([.ref (a0)]).toArray TT "WallFractionsModel" := ⟨hx, hb, hml, hown, hT⟩
  have hin2 : meth.name = "<init>" := (name_of_methodNamed B.named B.method).1
  have hl := lv_entry ([.ref (a0)]) (n := 2) (Nat.le_of_ble_eq_true rfl)
  rw [lg_entry_eq]
  generalize (lg_sl ([.ref (a0)]) ++ List.replicate (2 - (lg_sl ([.ref (a0)])).length) Slot.unset).toArray = ls at hl ⊢
  have hl : lv_has ls 2 [(0, .ref (a0))] := hl
  have hX : Ext L f L f a0 := Ext.refl
  refine lv_aload_n hx hb d_Mo_init_0 rfl (lv_at hl 0 rfl) ?_
  refine W.objInit hx hb hown (hT _ w_765) (hT _ w_24) (hT _ w_25) rfl (by rw [hml]; exact hl.1) rfl d_Mo_init_1 (Nat.le_of_ble_eq_true rfl) (Nat.le_of_ble_eq_true rfl) ?_
  refine W.eq (g2 := F0 m 4 ls []) rfl ?_
  refine lv_aload_n hx hb d_Mo_init_4 rfl (lv_at hl 0 rfl) ?_
  refine lv_sipush (v := nI 6400) hx hb d_Mo_init_5 (by decide) ?_
  refine hw_newI S hI w_185 (by decide) (Nat.le_of_ble_eq_true rfl) (Nat.le_of_ble_eq_true rfl) d_Mo_init_8 (fun mc L101 f101 H hI hq101 hmc hk101 => ?_)
  have ne_hO_mc : a0 ≠ mc := fun e => hq101 (e ▸ hO.1)
  have nL_mc : mc ∉ L := fun h => hq101 (hX mc h).1
  have hO := grow_c hk101 hO
  have hX := hX.new hk101
  refine W.cs (cells' := 1) (slots' := 6400) rfl rfl ?_
  have hO9 := hO
  have no_hmc := hw_c.ne hmc hO (by first | (intro e; cases e; done) | (intro e; simp at e; done) | (unfold cMs cFr cWt; intro e; simp at e))
  refine ob_putF S hI hO (fs' := [.int (nI 0), .ref (mc), .null, .null, .null, .null]) (C := R_Mo) (T := F_Mo) (N := 6) (ref := "WallFractionsModel") rfl i_Mo t_Mo t_Mo_ok n_Mo 1 (by decide) rfl w_772 rfl hin2 rfl rfl rfl (by simp only [List.length]; decide) rfl d_Mo_init_10 (fun f102 H locs hI hO hf102 => ?_)
  have hmc := hw_c.fr hmc (hf102 _ no_hmc)
  have hX := hX.put hf102
  refine lv_aload_n hx hb d_Mo_init_13 rfl (lv_at hl 0 rfl) ?_
  refine lv_bipush (v := nI 50) hx hb d_Mo_init_14 (by decide) ?_
  refine hw_newI S hI w_185 (by decide) (Nat.le_of_ble_eq_true rfl) (Nat.le_of_ble_eq_true rfl) d_Mo_init_16 (fun ml L103 f103 H hI hq103 hml hk103 => ?_)
  have ne_hmc_ml := (fun e => hq103 (e ▸ hmc.1) : _ ≠ ml)
  have ne_hO_ml : a0 ≠ ml := fun e => hq103 (e ▸ hO.1)
  have nL_ml : ml ∉ L := fun h => hq103 (hX ml h).1
  have hmc := grow_c hk103 hmc
  have hO := grow_c hk103 hO
  have hX := hX.new hk103
  refine W.cs (cells' := 2) (slots' := 6450) rfl rfl ?_
  have hO9 := hO
  have no_hmc := hw_c.ne hmc hO (by first | (intro e; cases e; done) | (intro e; simp at e; done) | (unfold cMs cFr cWt; intro e; simp at e))
  have no_hml := hw_c.ne hml hO (by first | (intro e; cases e; done) | (intro e; simp at e; done) | (unfold cMs cFr cWt; intro e; simp at e))
  refine ob_putF S hI hO (fs' := [.int (nI 0), .ref (mc), .ref (ml), .null, .null, .null]) (C := R_Mo) (T := F_Mo) (N := 6) (ref := "WallFractionsModel") rfl i_Mo t_Mo t_Mo_ok n_Mo 2 (by decide) rfl w_773 rfl hin2 rfl rfl rfl (by simp only [List.length]; decide) rfl d_Mo_init_18 (fun f104 H locs hI hO hf104 => ?_)
  have hmc := hw_c.fr hmc (hf104 _ no_hmc)
  have hml := hw_c.fr hml (hf104 _ no_hml)
  have hX := hX.put hf104
  refine lv_aload_n hx hb d_Mo_init_21 rfl (lv_at hl 0 rfl) ?_
  refine lv_bipush (v := nI 16) hx hb d_Mo_init_22 (by decide) ?_
  refine hw_newI S hI w_185 (by decide) (Nat.le_of_ble_eq_true rfl) (Nat.le_of_ble_eq_true rfl) d_Mo_init_24 (fun mg L105 f105 H hI hq105 hmg hk105 => ?_)
  have ne_hmc_mg := (fun e => hq105 (e ▸ hmc.1) : _ ≠ mg)
  have ne_hml_mg := (fun e => hq105 (e ▸ hml.1) : _ ≠ mg)
  have ne_hO_mg : a0 ≠ mg := fun e => hq105 (e ▸ hO.1)
  have nL_mg : mg ∉ L := fun h => hq105 (hX mg h).1
  have hmc := grow_c hk105 hmc
  have hml := grow_c hk105 hml
  have hO := grow_c hk105 hO
  have hX := hX.new hk105
  refine W.cs (cells' := 3) (slots' := 6466) rfl rfl ?_
  have hO9 := hO
  have no_hmc := hw_c.ne hmc hO (by first | (intro e; cases e; done) | (intro e; simp at e; done) | (unfold cMs cFr cWt; intro e; simp at e))
  have no_hml := hw_c.ne hml hO (by first | (intro e; cases e; done) | (intro e; simp at e; done) | (unfold cMs cFr cWt; intro e; simp at e))
  have no_hmg := hw_c.ne hmg hO (by first | (intro e; cases e; done) | (intro e; simp at e; done) | (unfold cMs cFr cWt; intro e; simp at e))
  refine ob_putF S hI hO (fs' := [.int (nI 0), .ref (mc), .ref (ml), .ref (mg), .null, .null]) (C := R_Mo) (T := F_Mo) (N := 6) (ref := "WallFractionsModel") rfl i_Mo t_Mo t_Mo_ok n_Mo 3 (by decide) rfl w_774 rfl hin2 rfl rfl rfl (by simp only [List.length]; decide) rfl d_Mo_init_26 (fun f106 H locs hI hO hf106 => ?_)
  have hmc := hw_c.fr hmc (hf106 _ no_hmc)
  have hml := hw_c.fr hml (hf106 _ no_hml)
  have hmg := hw_c.fr hmg (hf106 _ no_hmg)
  have hX := hX.put hf106
  refine lv_aload_n hx hb d_Mo_init_29 rfl (lv_at hl 0 rfl) ?_
  refine lv_bipush (v := nI 10) hx hb d_Mo_init_30 (by decide) ?_
  refine hw_newI S hI w_185 (by decide) (Nat.le_of_ble_eq_true rfl) (Nat.le_of_ble_eq_true rfl) d_Mo_init_32 (fun mw L107 f107 H hI hq107 hmw hk107 => ?_)
  have ne_hmc_mw := (fun e => hq107 (e ▸ hmc.1) : _ ≠ mw)
  have ne_hml_mw := (fun e => hq107 (e ▸ hml.1) : _ ≠ mw)
  have ne_hmg_mw := (fun e => hq107 (e ▸ hmg.1) : _ ≠ mw)
  have ne_hO_mw : a0 ≠ mw := fun e => hq107 (e ▸ hO.1)
  have nL_mw : mw ∉ L := fun h => hq107 (hX mw h).1
  have hmc := grow_c hk107 hmc
  have hml := grow_c hk107 hml
  have hmg := grow_c hk107 hmg
  have hO := grow_c hk107 hO
  have hX := hX.new hk107
  refine W.cs (cells' := 4) (slots' := 6476) rfl rfl ?_
  have hO9 := hO
  have no_hmc := hw_c.ne hmc hO (by first | (intro e; cases e; done) | (intro e; simp at e; done) | (unfold cMs cFr cWt; intro e; simp at e))
  have no_hml := hw_c.ne hml hO (by first | (intro e; cases e; done) | (intro e; simp at e; done) | (unfold cMs cFr cWt; intro e; simp at e))
  have no_hmg := hw_c.ne hmg hO (by first | (intro e; cases e; done) | (intro e; simp at e; done) | (unfold cMs cFr cWt; intro e; simp at e))
  have no_hmw := hw_c.ne hmw hO (by first | (intro e; cases e; done) | (intro e; simp at e; done) | (unfold cMs cFr cWt; intro e; simp at e))
  refine ob_putF S hI hO (fs' := [.int (nI 0), .ref (mc), .ref (ml), .ref (mg), .ref (mw), .null]) (C := R_Mo) (T := F_Mo) (N := 6) (ref := "WallFractionsModel") rfl i_Mo t_Mo t_Mo_ok n_Mo 4 (by decide) rfl w_775 rfl hin2 rfl rfl rfl (by simp only [List.length]; decide) rfl d_Mo_init_34 (fun f108 H locs hI hO hf108 => ?_)
  have hmc := hw_c.fr hmc (hf108 _ no_hmc)
  have hml := hw_c.fr hml (hf108 _ no_hml)
  have hmg := hw_c.fr hmg (hf108 _ no_hmg)
  have hmw := hw_c.fr hmw (hf108 _ no_hmw)
  have hX := hX.put hf108
  refine lv_aload_n hx hb d_Mo_init_37 rfl (lv_at hl 0 rfl) ?_
  refine lv_bipush (v := nI 10) hx hb d_Mo_init_38 (by decide) ?_
  refine hw_newL S hI w_51 (by decide) (Nat.le_of_ble_eq_true rfl) (Nat.le_of_ble_eq_true rfl) d_Mo_init_40 (fun mr L109 f109 H hI hq109 hmr hk109 => ?_)
  have ne_hmc_mr := (fun e => hq109 (e ▸ hmc.1) : _ ≠ mr)
  have ne_hml_mr := (fun e => hq109 (e ▸ hml.1) : _ ≠ mr)
  have ne_hmg_mr := (fun e => hq109 (e ▸ hmg.1) : _ ≠ mr)
  have ne_hmw_mr := (fun e => hq109 (e ▸ hmw.1) : _ ≠ mr)
  have ne_hO_mr : a0 ≠ mr := fun e => hq109 (e ▸ hO.1)
  have nL_mr : mr ∉ L := fun h => hq109 (hX mr h).1
  have hmc := grow_c hk109 hmc
  have hml := grow_c hk109 hml
  have hmg := grow_c hk109 hmg
  have hmw := grow_c hk109 hmw
  have hO := grow_c hk109 hO
  have hX := hX.new hk109
  refine W.cs (cells' := 5) (slots' := 6486) rfl rfl ?_
  have hO9 := hO
  have no_hmc := hw_c.ne hmc hO (by first | (intro e; cases e; done) | (intro e; simp at e; done) | (unfold cMs cFr cWt; intro e; simp at e))
  have no_hml := hw_c.ne hml hO (by first | (intro e; cases e; done) | (intro e; simp at e; done) | (unfold cMs cFr cWt; intro e; simp at e))
  have no_hmg := hw_c.ne hmg hO (by first | (intro e; cases e; done) | (intro e; simp at e; done) | (unfold cMs cFr cWt; intro e; simp at e))
  have no_hmw := hw_c.ne hmw hO (by first | (intro e; cases e; done) | (intro e; simp at e; done) | (unfold cMs cFr cWt; intro e; simp at e))
  have no_hmr := hw_c.ne hmr hO (by first | (intro e; cases e; done) | (intro e; simp at e; done) | (unfold cMs cFr cWt; intro e; simp at e))
  refine ob_putF S hI hO (fs' := [.int (nI 0), .ref (mc), .ref (ml), .ref (mg), .ref (mw), .ref (mr)]) (C := R_Mo) (T := F_Mo) (N := 6) (ref := "WallFractionsModel") rfl i_Mo t_Mo t_Mo_ok n_Mo 5 (by decide) rfl w_776 rfl hin2 rfl rfl rfl (by simp only [List.length]; decide) rfl d_Mo_init_42 (fun f110 H locs hI hO hf110 => ?_)
  have hmc := hw_c.fr hmc (hf110 _ no_hmc)
  have hml := hw_c.fr hml (hf110 _ no_hml)
  have hmg := hw_c.fr hmg (hf110 _ no_hmg)
  have hmw := hw_c.fr hmw (hf110 _ no_hmw)
  have hmr := hw_c.fr hmr (hf110 _ no_hmr)
  have hX := hX.put hf110
  refine lv_iconst (v := nI 0) hx hb d_Mo_init_45 (by decide) ?_
  refine lv_istore_n (lv' := [(1, .int (nI 0)), (0, .ref (a0))]) hx hb d_Mo_init_46 rfl hl (by decide) rfl (fun ls hl => ?_)
  have hn : Mn D L109 f110 a0 mc ml mg mw mr (nI 0) (fun _ => 0) (fun _ => nI 0) (fun _ => 0) (fun _ => 0) := ⟨fun _ => 0, fun _ => 0, ⟨hO, hmc, hml, hmg, hmw, hmr⟩, fun _ => mpos, fun i hi => ⟨Nat.zero_le _, nOk.mk0 (fun _ => mpos)⟩⟩
  have loop : ∀ (g t : Nat) (y1 : Nat → Nat) (f1 : Nat → va_E) (H : Heap) (locs : List Loc) (ls : Array Slot), t + g = 16 → (∀ k, k < 16 → y1 k = 0) → (∀ k, 16 ≤ k → k < 16 + t → y1 k = 1) → Mn D L109 f1 a0 mc ml mg mw mr (nI 0) y1 (fun _ => nI 0) (fun _ => 0) (fun _ => 0) → Fo a0 mc ml mg mw mr f110 f1 → hw_I D t0 (hw_A L s.heap.size) s L109 f1 H locs → lv_has ls 2 [(1, .int (nI t)), (0, .ref (a0))] → W p l e (headSpec (Cond.code y_Mo_init b_Mo_init 2 none :: TT) ({ frames := 1, cells := 5, slots := 6486, locals := 40 } : Room)).room s m ([.ref (a0)]).toArray below meth c H locs 5 6486 (MQ below (hw_Q D L s.heap.size (fun oc L' f' => oc = .returned none ∧ ∃ mc ml mg mw mr, mc ∉ L ∧ ml ∉ L ∧ mg ∉ L ∧ mw ∉ L ∧ mr ∉ L ∧ Mg D L' f' a0 mc ml mg mw mr (nI 0) σ0 (fun _ => 0) ∧ Ext L f L' f' a0)) ([.ref (a0)]).toArray s 5 6486 (hw_A L s.heap.size)) (F0 m 47 ls []) := by
    intro g
    induction g with
    | zero =>
      intro t y1 f9 H locs ls htg h0 h1 hn hF hI hl
      refine lv_iload_n hx hb d_Mo_init_47 rfl (lv_at hl 0 rfl) ?_
      refine lv_bipush (v := nI 16) hx hb d_Mo_init_48 (by decide) ?_
      refine hw_icmp_ge (tgt := 68) hx hb d_Mo_init_50 (by decide) (by omega) (by omega) (fun c111 => ?_) (fun c111 => ?_)
      · exact hw_vret hx hb hr hlocks hI d_Mo_init_68 ⟨rfl, mc, ml, mg, mw, mr, nL_mc, nL_ml, nL_mg, nL_mw, nL_mr, ⟨y1, _, _, hn, fun k hk => ⟨h0 k hk, h1 _ (by omega) (by omega), rfl⟩⟩, fun z hz => ⟨(hX z hz).1, fun e => (hF z (fun q => by rcases q with q | q | q | q | q | q; exact e q; exact nL_mc (q ▸ hz); exact nL_ml (q ▸ hz); exact nL_mg (q ▸ hz); exact nL_mw (q ▸ hz); exact nL_mr (q ▸ hz))).trans ((hX z hz).2 e)⟩⟩
      · exact absurd c111 (by omega)
    | succ g ih =>
      intro t y1 f9 H locs ls htg h0 h1 hn hF hI hl
      refine lv_iload_n hx hb d_Mo_init_47 rfl (lv_at hl 0 rfl) ?_
      refine lv_bipush (v := nI 16) hx hb d_Mo_init_48 (by decide) ?_
      refine hw_icmp_ge (tgt := 68) hx hb d_Mo_init_50 (by decide) (by omega) (by omega) (fun c112 => ?_) (fun c112 => ?_)
      · exact absurd c112 (by omega)
      · obtain ⟨cs, ns, hm, -⟩ := id hn
        refine lv_aload_n hx hb d_Mo_init_53 rfl (lv_at hl 1 rfl) ?_
        refine lv_bipush (v := nI 16) hx hb d_Mo_init_54 (by decide) ?_
        refine lv_iload_n hx hb d_Mo_init_56 rfl (lv_at hl 0 rfl) ?_
        refine lv_iadd hx hb d_Mo_init_57 ?_
        refine hw_ti (nI_add _ _) ?_
        refine lv_lconst (v := lN 1) hx hb d_Mo_init_58 rfl ?_
        refine hw_cV (As := [.int (nI (16 + t)), .long (lN 1)]) (rest := []) S hI m_Mo_setLong w_766 (c_Mo_setLong l D t0 _ _ _ a0 mc ml mg mw mr (nI 0) y1 (fun _ => nI 0) (fun _ => 0) (fun _ => 0) (16 + t) 1 hn (by omega) (by decide)) hm.1 rfl hl.1 rfl rfl (Nat.le_of_ble_eq_true rfl) d_Mo_init_59 ⟨Nat.le_of_ble_eq_true rfl, Nat.le_of_ble_eq_true rfl⟩ ⟨Nat.le_of_ble_eq_true rfl, Nat.le_of_ble_eq_true rfl⟩ (fun v9 L9 f113 H locs hp hI => ?_)
        refine W.cs (cells' := 5) (slots' := 6486) rfl rfl ?_
        obtain ⟨hv9, rfl, hn, hF9⟩ := hp
        cases hv9
        refine hw_stk (st' := []) rfl ?_
        refine lv_iinc (v := nI (t + 1)) (lv' := [(1, .int (nI (t + 1))), (0, .ref (a0))]) hx hb d_Mo_init_62 hl (k := 0) rfl (nI_1 _) (by decide) rfl (fun ls hl => ?_)
        refine lv_goto (tgt := 47) hx hb d_Mo_init_65 (by decide) ?_
        exact ih (t + 1) _ _ _ _ _ (by omega) (fun k hk => by rw [hw_up_ne (by omega)]; exact h0 k hk) (fun k k1 k2 => by by_cases e : k = 16 + t; (rw [e, hw_up_eq]); (rw [hw_up_ne e]; exact h1 k k1 (by omega))) hn (hF.trans hF9) hI hl
  exact loop 16 0 _ _ _ _ _ (by decide) (fun _ _ => rfl) (fun k k1 k2 => absurd k2 (by omega)) hn Fo.refl hI hl
set_option maxHeartbeats 4000000 in
set_option maxRecDepth 100000 in
theorem c_Wf_init (l : Launch) (D : va_G) (t0 : Nat) (L : List Nat) (f : Nat → va_E) (sz : Nat) (a0 : Nat)  (hO : hw_c L f a0 (.inr (6, [.null, .null, .null])))  : Met l y_Wf_init (Cond.code y_Wf_init b_Wf_init 2 none :: TT) ({ frames := 4, cells := 118, slots := 2174, locals := 102 } : Room) (hw_Pc t0 [.ref (a0)] D L f sz) (hw_Q D L sz (fun oc L' f' => oc = .returned none ∧ ∃ (o r fr : Nat → Nat) (ad al ab am ak ah aw ar rg : Nat), Gl o r fr ad al ab am ak ah aw ar rg a0 ∧ Sd D L' f' o r fr ad al ab am ak ah aw ar rg a0 σ0 (fun _ => 0) ∧ (∀ q, Own o r fr ad al ab am ak ah aw ar rg a0 q → q ∈ L') ∧ Ext L f L' f' a0)) 118 2174 (hw_A L sz) := by
  refine Met.ofW (cc := b_Wf_init) (maxL := 2) (ret := none) (by decide) rfl ?_
  intro p e s m args below meth c s₁ B hml hv
  obtain ⟨rfl, rfl, hI⟩ := hw_start hv
  clear hv
  have hx := B.exec
  have hb := B.bytes
  have hr := B.returns
  have hlocks := B.notSynchronized
  have hown : s.vm.findClass "WallFractions" = some m.cls := findClass_of_methodNamed B.named
  have hT : ∀ w ∈ TT, w.before ([.ref (a0)]).toArray s = true := fun w h => atoms_spec (ws := (Cond.code y_Wf_init b_Wf_init 2 none :: TT)) B.pre w (List.mem_cons_of_mem _ h)
  have S : CallFix p m c b_Wf_init 2 s ([.ref (a0)]).toArray TT "WallFractions" := ⟨hx, hb, hml, hown, hT⟩
  have hin2 : meth.name = "<init>" := (name_of_methodNamed B.named B.method).1
  have hl := lv_entry ([.ref (a0)]) (n := 2) (Nat.le_of_ble_eq_true rfl)
  rw [lg_entry_eq]
  generalize (lg_sl ([.ref (a0)]) ++ List.replicate (2 - (lg_sl ([.ref (a0)])).length) Slot.unset).toArray = ls at hl ⊢
  have hl : lv_has ls 2 [(0, .ref (a0))] := hl
  have hX : Ext L f L f a0 := Ext.refl
  refine lv_aload_n hx hb d_Wf_init_0 rfl (lv_at hl 0 rfl) ?_
  refine W.objInit hx hb hown (hT _ w_23) (hT _ w_24) (hT _ w_25) rfl (by rw [hml]; exact hl.1) rfl d_Wf_init_1 (Nat.le_of_ble_eq_true rfl) (Nat.le_of_ble_eq_true rfl) ?_
  refine W.eq (g2 := F0 m 4 ls []) rfl ?_
  refine lv_aload_n hx hb d_Wf_init_4 rfl (lv_at hl 0 rfl) ?_
  refine lv_bipush (v := nI 16) hx hb d_Wf_init_5 (by decide) ?_
  refine hw_newQ S hI w_26 (Nat.le_of_ble_eq_true rfl) (Nat.le_of_ble_eq_true rfl) d_Wf_init_7 (fun rg L114 f114 H hI hq114 hrg hk114 => ?_)
  have ne_hO_rg : a0 ≠ rg := fun e => hq114 (e ▸ hO.1)
  have nL_rg : rg ∉ L := fun h => hq114 (hX rg h).1
  have hO := grow_c hk114 hO
  have hX := hX.new hk114
  refine W.cs (cells' := 1) (slots' := 16) rfl rfl ?_
  have ne_rg_a0 : rg ≠ a0 := fun e => ne_hO_rg e.symm
  have hO9 := hO
  have no_hrg := hw_c.ne hrg hO (by first | (intro e; cases e; done) | (intro e; simp at e; done) | (unfold cMs cFr cWt; intro e; simp at e))
  refine ob_putF S hI hO (fs' := [.ref (rg), .null, .null]) (C := R_Wf) (T := F_Wf) (N := 3) (ref := "WallFractions") rfl i_Wf t_Wf t_Wf_ok n_Wf 0 (by decide) rfl w_186 rfl hin2 rfl rfl rfl (by simp only [List.length]; decide) rfl d_Wf_init_10 (fun f116 H locs hI hO hf116 => ?_)
  have hrg := hw_c.fr hrg (hf116 _ no_hrg)
  have hX := hX.put hf116
  refine lv_iconst (v := nI 0) hx hb d_Wf_init_13 (by decide) ?_
  refine lv_istore_n (lv' := [(1, .int (nI 0)), (0, .ref (a0))]) hx hb d_Wf_init_14 rfl hl (by decide) rfl (fun ls hl => ?_)
  have hG : RG 0 D L L114 f116 (fun _ => 0) (fun _ => 0) (fun _ => 0) (fun _ => 0) := RG.nil
  have loop : ∀ (g t : Nat) (o r x fr : Nat → Nat) (h9 : Nat → Option Nat) (L1 : List Nat) (f1 : Nat → va_E) (H : Heap) (locs : List Loc) (ls : Array Slot), t + g = 16 → RG t D L L1 f1 o r x fr → hw_c L1 f1 rg (cRq D h9) → (∀ k, k < t → h9 k = some (fr k)) → hw_c L1 f1 a0 (.inr (6, [.ref rg, .null, .null])) → Ext L f L1 f1 a0 → hw_I D t0 (hw_A L s.heap.size) s L1 f1 H locs → lv_has ls 2 [(1, .int (nI t)), (0, .ref (a0))] → W p l e (headSpec (Cond.code y_Wf_init b_Wf_init 2 none :: TT) ({ frames := 4, cells := 118, slots := 2174, locals := 102 } : Room)).room s m ([.ref (a0)]).toArray below meth c H locs (1 + 5 * t) (16 + 89 * t) (MQ below (hw_Q D L s.heap.size (fun oc L' f' => oc = .returned none ∧ ∃ (o r fr : Nat → Nat) (ad al ab am ak ah aw ar rg : Nat), Gl o r fr ad al ab am ak ah aw ar rg a0 ∧ Sd D L' f' o r fr ad al ab am ak ah aw ar rg a0 σ0 (fun _ => 0) ∧ (∀ q, Own o r fr ad al ab am ak ah aw ar rg a0 q → q ∈ L') ∧ Ext L f L' f' a0)) ([.ref (a0)]).toArray s 118 2174 (hw_A L s.heap.size)) (F0 m 15 ls []) := by
    intro g
    induction g with
    | zero =>
      intro t o1 r1 x1 fr1 h9 L1 f1 H locs ls htg hG hrg hh hO hX hI hl
      refine lv_iload_n hx hb d_Wf_init_15 rfl (lv_at hl 0 rfl) ?_
      refine lv_bipush (v := nI 16) hx hb d_Wf_init_16 (by decide) ?_
      refine hw_icmp_ge (tgt := 40) hx hb d_Wf_init_18 (by decide) (by omega) (by omega) (fun c119 => ?_) (fun c119 => ?_)
      · obtain rfl : t = 16 := by omega
        refine W.cs (cells' := 81) (slots' := 1440) rfl rfl ?_
        refine hw_new S hI (ci := 0) (C := R_Dv) (T := F_Dv) (N := 2) rfl i_Dv t_Dv t_Dv_ok w_73 w_74 w_4 (fs := [.null, .null]) (by decide +kernel) (Nat.le_of_ble_eq_true rfl) (Nat.le_of_ble_eq_true rfl) d_Wf_init_40 (fun ad L120 f120 H hI hq120 had hk120 => ?_)
        have ne_hG_ad := hG.nin hq120
        have ne_hrg_ad := (fun e => hq120 (e ▸ hrg.1) : _ ≠ ad)
        have ne_hO_ad : a0 ≠ ad := fun e => hq120 (e ▸ hO.1)
        have nL_ad : ad ∉ L := fun h => hq120 (hX ad h).1
        have hG := hG.new hk120
        have hrg := grow_c hk120 hrg
        have hO := grow_c hk120 hO
        have hX := hX.new hk120
        refine W.cs (cells' := 82) (slots' := 1442) rfl rfl ?_
        refine lv_dup hx hb d_Wf_init_43 rfl ?_
        refine hw_cI (As := []) (rest := [.ref (ad)]) S hI m_Dv_init w_75 (c_Dv_init l D t0 L120 f120 _ ad  had ) hl.1 rfl rfl (Nat.le_of_ble_eq_true rfl) d_Wf_init_44 ⟨Nat.le_of_ble_eq_true rfl, Nat.le_of_ble_eq_true rfl⟩ ⟨Nat.le_of_ble_eq_true rfl, Nat.le_of_ble_eq_true rfl⟩ (fun v9 L121 f121 H locs hp hI => ?_)
        refine W.cs (cells' := 84) (slots' := 1526) rfl rfl ?_
        obtain ⟨hv9, al, ab, n1, n2, n3, had, hal, hab, hE0⟩ := hp
        cases hv9
        refine hw_stk (st' := [.ref (ad)]) rfl ?_
        have nL_al : al ∉ L := fun h => n1 (hX _ h).1
        have oG_al := hG.nin n1
        have nL_ab : ab ∉ L := fun h => n2 (hX _ h).1
        have oG_ab := hG.nin n2
        have hG : RG 16 D L L121 f121 o1 r1 x1 fr1 := ⟨hG.1.ext hE0 (fun i _ g => ne_hG_ad.1 i g), hG.2.1, fun k hk => ⟨hE0.c (hG.2.2.1 k hk).1 (ne_hG_ad.2 k hk), (hG.2.2.1 k hk).2⟩, hG.2.2.2⟩
        have hrg := hE0.c hrg ne_hrg_ad
        have hO := hE0.c hO ne_hO_ad
        have hX := hX.sub nL_ad hE0
        refine lv_astore_n (lv' := [(1, .ref (ad)), (0, .ref (a0))]) hx hb d_Wf_init_47 rfl hl (by decide) rfl (fun ls hl => ?_)
        refine lv_aload_n hx hb d_Wf_init_48 rfl (lv_at hl 1 rfl) ?_
        refine hw_new S hI (ci := 3) (C := R_Rk) (T := F_Rk) (N := 7) rfl i_Rk t_Rk t_Rk_ok w_86 w_87 w_5 (fs := [.null, .null, .null, .null, .null, .null, .null]) (by decide +kernel) (Nat.le_of_ble_eq_true rfl) (Nat.le_of_ble_eq_true rfl) d_Wf_init_49 (fun ak L122 f122 H hI hq122 hak hk122 => ?_)
        have ne_hG_ak := hG.nin hq122
        have ne_hrg_ak := (fun e => hq122 (e ▸ hrg.1) : _ ≠ ak)
        have ne_had_ak := (fun e => hq122 (e ▸ had.1) : _ ≠ ak)
        have ne_hal_ak := (fun e => hq122 (e ▸ hal.1) : _ ≠ ak)
        have ne_hab_ak := (fun e => hq122 (e ▸ hab.1) : _ ≠ ak)
        have ne_hO_ak : a0 ≠ ak := fun e => hq122 (e ▸ hO.1)
        have nL_ak : ak ∉ L := fun h => hq122 (hX ak h).1
        have hG := hG.new hk122
        have hrg := grow_c hk122 hrg
        have had := grow_c hk122 had
        have hal := grow_c hk122 hal
        have hab := grow_c hk122 hab
        have hO := grow_c hk122 hO
        have hX := hX.new hk122
        refine W.cs (cells' := 85) (slots' := 1533) rfl rfl ?_
        refine lv_dup hx hb d_Wf_init_52 rfl ?_
        refine lv_aload_n hx hb d_Wf_init_53 rfl (lv_at hl 0 rfl) ?_
        refine hw_cI (As := [.ref (ad)]) (rest := [.ref (ak), .ref (a0)]) S hI m_Rk_init w_88 (c_Rk_init l D t0 L122 f122 _ ak ad hak ) hl.1 rfl rfl (Nat.le_of_ble_eq_true rfl) d_Wf_init_54 ⟨Nat.le_of_ble_eq_true rfl, Nat.le_of_ble_eq_true rfl⟩ ⟨Nat.le_of_ble_eq_true rfl, Nat.le_of_ble_eq_true rfl⟩ (fun v9 L123 f123 H locs hp hI => ?_)
        refine W.cs (cells' := 107) (slots' := 1975) rfl rfl ?_
        obtain ⟨hv9, o2, r2, x2, a16, am, hN2, fN2, k16, kam, kn, ham, ha16, hak, hE1⟩ := hp
        cases hv9
        refine hw_stk (st' := [.ref (ak), .ref (a0)]) rfl ?_
        have gN2 : ∀ i j, i < 32 → 32 ≤ j → j < 42 → o1 i ≠ o2 j ∧ r1 i ≠ r2 j := fun i j g1 g2 g3 => ⟨fun e => (fN2 j g2 g3).1 (e ▸ (hG.1.1 i (Nat.zero_le _) g1).mem.1), fun e => (fN2 j g2 g3).2 (e ▸ (hG.1.1 i (Nat.zero_le _) g1).mem.2)⟩
        have g16 : ∀ k, k < 16 → fr1 k ≠ a16 := (hG.nin k16).2
        have nL_a16 : a16 ∉ L := fun h => k16 (hX _ h).1
        have nL_am : am ∉ L := fun h => kam (hX _ h).1
        have hG : RG 16 D L L123 f123 o1 r1 x1 fr1 := ⟨hG.1.ext hE1 (fun i _ g => ne_hG_ak.1 i g), hG.2.1, fun k hk => ⟨hE1.c (hG.2.2.1 k hk).1 (ne_hG_ak.2 k hk), (hG.2.2.1 k hk).2⟩, hG.2.2.2⟩
        have hrg := hE1.c hrg ne_hrg_ak
        have had := hE1.c had ne_had_ak
        have hal := hE1.c hal ne_hal_ak
        have hab := hE1.c hab ne_hab_ak
        have hO := hE1.c hO ne_hO_ak
        have hX := hX.sub nL_ak hE1
        have nG := hG.neO hO
        have hO9 := hO
        have no_hrg := hw_c.ne hrg hO (by first | (intro e; cases e; done) | (intro e; simp at e; done) | (unfold cMs cFr cWt; intro e; simp at e))
        have no_had := hw_c.ne had hO (by first | (intro e; cases e; done) | (intro e; simp at e; done) | (unfold cMs cFr cWt; intro e; simp at e))
        have no_hal := hw_c.ne hal hO (by first | (intro e; cases e; done) | (intro e; simp at e; done) | (unfold cMs cFr cWt; intro e; simp at e))
        have no_hab := hw_c.ne hab hO (by first | (intro e; cases e; done) | (intro e; simp at e; done) | (unfold cMs cFr cWt; intro e; simp at e))
        have no_hN2 := hN2.ne hO (by decide)
        have no_ham := hw_c.ne ham hO (by first | (intro e; cases e; done) | (intro e; simp at e; done) | (unfold cMs cFr cWt; intro e; simp at e))
        have no_ha16 := hw_c.ne ha16 hO (by first | (intro e; cases e; done) | (intro e; simp at e; done) | (unfold cMs cFr cWt; intro e; simp at e))
        have no_hak := hw_c.ne hak hO (by first | (intro e; cases e; done) | (intro e; simp at e; done) | (unfold cMs cFr cWt; intro e; simp at e))
        refine ob_putF S hI hO (fs' := [.ref rg, .ref (ak), .null]) (C := R_Wf) (T := F_Wf) (N := 3) (ref := "WallFractions") rfl i_Wf t_Wf t_Wf_ok n_Wf 1 (by decide) rfl w_187 rfl hin2 rfl rfl rfl (by simp only [List.length]; decide) rfl d_Wf_init_57 (fun f124 H locs hI hO hf124 => ?_)
        have hrg := hw_c.fr hrg (hf124 _ no_hrg)
        have had := hw_c.fr had (hf124 _ no_had)
        have hal := hw_c.fr hal (hf124 _ no_hal)
        have hab := hw_c.fr hab (hf124 _ no_hab)
        have hN2 := hN2.put hf124 no_hN2
        have ham := hw_c.fr ham (hf124 _ no_ham)
        have ha16 := hw_c.fr ha16 (hf124 _ no_ha16)
        have hak := hw_c.fr hak (hf124 _ no_hak)
        have hX := hX.put hf124
        have hG := hG.put hf124 nG.1 nG.2
        refine lv_aload_n hx hb d_Wf_init_60 rfl (lv_at hl 1 rfl) ?_
        refine hw_new S hI (ci := 4) (C := R_Sh) (T := F_Sh) (N := 7) rfl i_Sh t_Sh t_Sh_ok w_155 w_156 w_7 (fs := [.null, .null, .null, .null, .null, .null, .null]) (by decide +kernel) (Nat.le_of_ble_eq_true rfl) (Nat.le_of_ble_eq_true rfl) d_Wf_init_61 (fun ah L125 f125 H hI hq125 hah hk125 => ?_)
        have ne_hG_ah := hG.nin hq125
        have ne_hrg_ah := (fun e => hq125 (e ▸ hrg.1) : _ ≠ ah)
        have ne_had_ah := (fun e => hq125 (e ▸ had.1) : _ ≠ ah)
        have ne_hal_ah := (fun e => hq125 (e ▸ hal.1) : _ ≠ ah)
        have ne_hab_ah := (fun e => hq125 (e ▸ hab.1) : _ ≠ ah)
        have ne_hN2_ah := hN2.nin hq125
        have ne_ham_ah := (fun e => hq125 (e ▸ ham.1) : _ ≠ ah)
        have ne_ha16_ah := (fun e => hq125 (e ▸ ha16.1) : _ ≠ ah)
        have ne_hak_ah := (fun e => hq125 (e ▸ hak.1) : _ ≠ ah)
        have ne_hO_ah : a0 ≠ ah := fun e => hq125 (e ▸ hO.1)
        have nL_ah : ah ∉ L := fun h => hq125 (hX ah h).1
        have hG := hG.new hk125
        have hrg := grow_c hk125 hrg
        have had := grow_c hk125 had
        have hal := grow_c hk125 hal
        have hab := grow_c hk125 hab
        have hN2 := hN2.new hk125
        have ham := grow_c hk125 ham
        have ha16 := grow_c hk125 ha16
        have hak := grow_c hk125 hak
        have hO := grow_c hk125 hO
        have hX := hX.new hk125
        refine W.cs (cells' := 108) (slots' := 1982) rfl rfl ?_
        refine lv_dup hx hb d_Wf_init_64 rfl ?_
        refine lv_aload_n hx hb d_Wf_init_65 rfl (lv_at hl 0 rfl) ?_
        refine hw_cI (As := [.ref (ad)]) (rest := [.ref (ah), .ref (a0)]) S hI m_Sh_init w_157 (c_Sh_init l D t0 L125 f125 _ ah ad hah ) hl.1 rfl rfl (Nat.le_of_ble_eq_true rfl) d_Wf_init_66 ⟨Nat.le_of_ble_eq_true rfl, Nat.le_of_ble_eq_true rfl⟩ ⟨Nat.le_of_ble_eq_true rfl, Nat.le_of_ble_eq_true rfl⟩ (fun v9 L126 f126 H locs hp hI => ?_)
        refine W.cs (cells' := 118) (slots' := 2174) rfl rfl ?_
        obtain ⟨hv9, o3, r3, x3, aw, ar, hN3, fN3, kaw, kar, haw, har, hah, hE2⟩ := hp
        cases hv9
        refine hw_stk (st' := [.ref (ah), .ref (a0)]) rfl ?_
        have gN3 : ∀ i j, i < 42 → 42 ≤ j → j < 46 → jn 32 o1 o2 i ≠ o3 j ∧ jn 32 r1 r2 i ≠ r3 j := fun i j g1 g2 g3 => by
          rcases Nat.lt_or_ge i 32 with g | g
          · rw [jn_lt g, jn_lt g]; exact ⟨fun e => (fN3 j g2 g3).1 (e ▸ (hG.1.1 i (Nat.zero_le _) g).mem.1), fun e => (fN3 j g2 g3).2 (e ▸ (hG.1.1 i (Nat.zero_le _) g).mem.2)⟩
          · rw [jn_ge g, jn_ge g]; exact ⟨fun e => (fN3 j g2 g3).1 (e ▸ (hN2.1 i g g1).mem.1), fun e => (fN3 j g2 g3).2 (e ▸ (hN2.1 i g g1).mem.2)⟩
        have hG : RG 16 D L L126 f126 o1 r1 x1 fr1 := ⟨hG.1.ext hE2 (fun i _ g => ne_hG_ah.1 i g), hG.2.1, fun k hk => ⟨hE2.c (hG.2.2.1 k hk).1 (ne_hG_ah.2 k hk), (hG.2.2.1 k hk).2⟩, hG.2.2.2⟩
        have hrg := hE2.c hrg ne_hrg_ah
        have had := hE2.c had ne_had_ah
        have hal := hE2.c hal ne_hal_ah
        have hab := hE2.c hab ne_hab_ah
        have hN2 := hN2.ext hE2 ne_hN2_ah
        have ham := hE2.c ham ne_ham_ah
        have ha16 := hE2.c ha16 ne_ha16_ah
        have hak := hE2.c hak ne_hak_ah
        have hO := hE2.c hO ne_hO_ah
        have hX := hX.sub nL_ah hE2
        have nG := hG.neO hO
        have hO9 := hO
        have no_hrg := hw_c.ne hrg hO (by first | (intro e; cases e; done) | (intro e; simp at e; done) | (unfold cMs cFr cWt; intro e; simp at e))
        have no_had := hw_c.ne had hO (by first | (intro e; cases e; done) | (intro e; simp at e; done) | (unfold cMs cFr cWt; intro e; simp at e))
        have no_hal := hw_c.ne hal hO (by first | (intro e; cases e; done) | (intro e; simp at e; done) | (unfold cMs cFr cWt; intro e; simp at e))
        have no_hab := hw_c.ne hab hO (by first | (intro e; cases e; done) | (intro e; simp at e; done) | (unfold cMs cFr cWt; intro e; simp at e))
        have no_hN2 := hN2.ne hO (by decide)
        have no_ham := hw_c.ne ham hO (by first | (intro e; cases e; done) | (intro e; simp at e; done) | (unfold cMs cFr cWt; intro e; simp at e))
        have no_ha16 := hw_c.ne ha16 hO (by first | (intro e; cases e; done) | (intro e; simp at e; done) | (unfold cMs cFr cWt; intro e; simp at e))
        have no_hak := hw_c.ne hak hO (by first | (intro e; cases e; done) | (intro e; simp at e; done) | (unfold cMs cFr cWt; intro e; simp at e))
        have no_hN3 := hN3.ne hO (by decide)
        have no_haw := hw_c.ne haw hO (by first | (intro e; cases e; done) | (intro e; simp at e; done) | (unfold cMs cFr cWt; intro e; simp at e))
        have no_har := hw_c.ne har hO (by first | (intro e; cases e; done) | (intro e; simp at e; done) | (unfold cMs cFr cWt; intro e; simp at e))
        have no_hah := hw_c.ne hah hO (by first | (intro e; cases e; done) | (intro e; simp at e; done) | (unfold cMs cFr cWt; intro e; simp at e))
        refine ob_putF S hI hO (fs' := [.ref rg, .ref (ak), .ref (ah)]) (C := R_Wf) (T := F_Wf) (N := 3) (ref := "WallFractions") rfl i_Wf t_Wf t_Wf_ok n_Wf 2 (by decide) rfl w_188 rfl hin2 rfl rfl rfl (by simp only [List.length]; decide) rfl d_Wf_init_69 (fun f127 H locs hI hO hf127 => ?_)
        have hrg := hw_c.fr hrg (hf127 _ no_hrg)
        have had := hw_c.fr had (hf127 _ no_had)
        have hal := hw_c.fr hal (hf127 _ no_hal)
        have hab := hw_c.fr hab (hf127 _ no_hab)
        have hN2 := hN2.put hf127 no_hN2
        have ham := hw_c.fr ham (hf127 _ no_ham)
        have ha16 := hw_c.fr ha16 (hf127 _ no_ha16)
        have hak := hw_c.fr hak (hf127 _ no_hak)
        have hN3 := hN3.put hf127 no_hN3
        have haw := hw_c.fr haw (hf127 _ no_haw)
        have har := hw_c.fr har (hf127 _ no_har)
        have hah := hw_c.fr hah (hf127 _ no_hah)
        have hX := hX.put hf127
        have hG := hG.put hf127 nG.1 nG.2
        have hJ := (AN.join hG.1 hN2 (fun i j _ g2 g3 g4 => gN2 i j g2 g3 g4)).join hN3 (fun i j _ g2 g3 g4 => gN3 i j g2 g3 g4)
        obtain ⟨hAll, hLay⟩ := hJ.all
        have hfr : ∀ k, k < 16 → va_up fr1 16 a16 k = fr1 k := fun k hk => hw_up_ne (by omega)
        have hI := hI.regs (g := fun k => some (va_up fr1 16 a16 k)) hrg (fun j hj => by rw [hh j hj, hfr j hj])
        have hf9 : ∀ z, z ≠ rg → (va_up f127 rg (cRq D (fun k => some (va_up fr1 16 a16 k)))) z = f127 z := fun z hz => hw_up_ne hz
        have rA := hG.neA hrg
        have hOne : a0 ≠ rg := fun e => hw_ne hrg hO e.symm
        have had := hw_c.fr had (hf9 _ (fun e => hw_ne hrg had e.symm))
        have ham := hw_c.fr ham (hf9 _ (fun e => hw_ne hrg ham e.symm))
        have ha16 := hw_c.fr ha16 (hf9 _ (fun e => hw_ne hrg ha16 e.symm))
        have hak := hw_c.fr hak (hf9 _ (fun e => hw_ne hrg hak e.symm))
        have hah := hw_c.fr hah (hf9 _ (fun e => hw_ne hrg hah e.symm))
        have hal := hw_c.fr hal (hf9 _ (hw_c.ne hal hrg (by unfold cRq; first | (intro e; cases e; done) | (intro e; simp at e; done) | (unfold cWt; intro e; simp at e))))
        have hab := hw_c.fr hab (hf9 _ (hw_c.ne hab hrg (by unfold cRq; first | (intro e; cases e; done) | (intro e; simp at e; done) | (unfold cWt; intro e; simp at e))))
        have haw := hw_c.fr haw (hf9 _ (hw_c.ne haw hrg (by unfold cRq; first | (intro e; cases e; done) | (intro e; simp at e; done) | (unfold cWt; intro e; simp at e))))
        have har := hw_c.fr har (hf9 _ (hw_c.ne har hrg (by unfold cRq; first | (intro e; cases e; done) | (intro e; simp at e; done) | (unfold cWt; intro e; simp at e))))
        have hO := hw_c.fr hO (hf9 _ hOne)
        have hAll := hAll.frame (f' := (va_up f127 rg (cRq D (fun k => some (va_up fr1 16 a16 k))))) (fun i hi => by obtain ⟨v9, h8, -⟩ := id hAll; exact ⟨hf9 _ (fun e => hw_ne hrg (h8 i hi).1 e.symm), hf9 _ (hw_c.ne (h8 i hi).2 hrg (by unfold cRq; intro e; simp at e))⟩)
        have hFrs : ∀ k, k < 16 → hw_c L126 (va_up f127 rg (cRq D (fun k => some (va_up fr1 16 a16 k)))) (fr1 k) (cFr o1 k false) := fun k hk => hw_c.fr (hG.2.2.1 k hk).1 (hf9 _ (rA.2 k hk))
        have hrg : hw_c L126 (va_up f127 rg (cRq D (fun k => some (va_up fr1 16 a16 k)))) rg (cRg D (va_up fr1 16 a16)) := hrg.self
        have hX := hX.put2 nL_rg hf9
        have hc17 : ∀ k, k < 17 → hw_c L126 (va_up f127 rg (cRq D (fun k => some (va_up fr1 16 a16 k)))) (va_up fr1 16 a16 k) (cFr (jn 42 (jn 32 o1 o2) o3) k false) := fun k hk => by
          by_cases e : k = 16
          · subst e; rw [hw_up_eq]; exact ha16
          · rw [hw_up_ne e]; unfold cFr; rw [jn_lt (show 2 * k < 42 by omega), jn_lt (show 2 * k < 32 by omega), jn_lt (show 2 * k + 1 < 42 by omega), jn_lt (show 2 * k + 1 < 32 by omega)]; exact hFrs k (by omega)
        have hWd : Wd D L126 (va_up f127 rg (cRq D (fun k => some (va_up fr1 16 a16 k)))) (jn 42 (jn 32 o1 o2) o3) (jn 42 (jn 32 r1 r2) r3) (va_up fr1 16 a16) ad al ab am ak ah aw ar rg a0 _ (fun _ => false) (fun _ => 0) (fun _ => 0) := ⟨hAll, ⟨_, _, had, hal, hab⟩, ⟨39, 40, 41, 0, 0, 0, 0, ⟨by decide, by decide, by decide, by decide, by decide, by decide, by decide, by decide, by decide⟩, ham⟩, hak, hc17, hah, haw, har, hrg, hO⟩
        have hRp : Rp σ0 (jn 42 (jn 32 x1 x2) x3) (fun _ => false) := fun k hk => ⟨by rw [jn_lt (by omega), jn_lt (by omega)]; exact (hG.2.2.1 k hk).2.2.1, by rw [jn_lt (by omega), jn_lt (by omega)]; exact (hG.2.2.1 k hk).2.2.2, rfl⟩
        have hGl : Gl (jn 42 (jn 32 o1 o2) o3) (jn 42 (jn 32 r1 r2) r3) (va_up fr1 16 a16) ad al ab am ak ah aw ar rg a0 := ⟨hLay, n3, fun i j hi hj e => by
          by_cases e1 : i = 16
          · by_cases e2 : j = 16
            · rw [e1, e2]
            · rw [e1, hw_up_eq, hw_up_ne e2] at e; exact absurd e.symm (g16 j (by omega))
          · by_cases e2 : j = 16
            · rw [e2, hw_up_eq, hw_up_ne e1] at e; exact absurd e (g16 i (by omega))
            · rw [hw_up_ne e1, hw_up_ne e2] at e; exact hG.2.2.2 i j (by omega) (by omega) e⟩
        have hOw : ∀ q, Own (jn 42 (jn 32 o1 o2) o3) (jn 42 (jn 32 r1 r2) r3) (va_up fr1 16 a16) ad al ab am ak ah aw ar rg a0 q → q ∈ L126 := fun q hq => by
          obtain ⟨v9, h8, -⟩ := id hAll
          rcases hq with ⟨i, hi, h | h⟩ | ⟨k, hk, h⟩ | h | h | h | h | h
          · rw [h]; exact (h8 i hi).1.1
          · rw [h]; exact (h8 i hi).2.1
          · rw [h]; exact (hc17 k hk).1
          · rw [h]; exact hal.1
          · rw [h]; exact hab.1
          · rw [h]; exact ham.1
          · rw [h]; exact haw.1
          · rw [h]; exact har.1
        exact hw_vret hx hb hr hlocks hI d_Wf_init_72 ⟨rfl, _, _, _, ad, al, ab, am, ak, ah, aw, ar, rg, hGl, ⟨_, _, _, hWd, hRp⟩, hOw, hX⟩
      · exact absurd c119 (by omega)
    | succ g ih =>
      intro t o r x fr h9 L1 f1 H locs ls htg hG hrg hh hO hX hI hl
      refine lv_iload_n hx hb d_Wf_init_15 rfl (lv_at hl 0 rfl) ?_
      refine lv_bipush (v := nI 16) hx hb d_Wf_init_16 (by decide) ?_
      refine hw_icmp_ge (tgt := 40) hx hb d_Wf_init_18 (by decide) (by omega) (by omega) (fun c117 => ?_) (fun c117 => ?_)
      · exact absurd c117 (by omega)
      · refine lv_aload_n hx hb d_Wf_init_21 rfl (lv_at hl 1 rfl) ?_
        refine ob_get S hI hO (C := R_Wf) (T := F_Wf) (N := 3) (ref := "WallFractions") rfl i_Wf 0 (by decide) rfl w_186 rfl d_Wf_init_22 ?_
        refine lv_iload_n hx hb d_Wf_init_25 rfl (lv_at hl 0 rfl) ?_
        refine hw_new S hI (ci := 1) (C := R_Fr) (T := F_Fr) (N := 3) rfl i_Fr t_Fr t_Fr_ok w_26 w_28 w_2 (fs := [.null, .null, .int (nI 0)]) (by decide +kernel) (by show 1 + 5 * t + 1 ≤ 118; omega) (by show 16 + 89 * t + 3 ≤ 2174; omega) d_Wf_init_26 (fun af L2 f2 H hI hq2 haf hk2 => ?_)
        refine lv_dup hx hb d_Wf_init_29 rfl ?_
        refine hw_cI (As := []) (rest := [.ref (af), .int (nI t), .ref (rg)]) S hI m_Fr_init w_29 (c_Fr_init l D t0 L2 f2 _ af haf) hl.1 rfl rfl (Nat.le_of_ble_eq_true rfl) d_Wf_init_30 ⟨Nat.le_of_ble_eq_true rfl, Nat.le_of_ble_eq_true rfl⟩ ⟨by show 1 + 5 * t + 1 + 4 ≤ 118; omega, by show 16 + 89 * t + 3 + 86 ≤ 2174; omega⟩ (fun v9 L3 f3 H locs hp hI => ?_)
        obtain ⟨hv9, q1, t1, q2, t2, m1, m2, m3, m4, m5, m6, ha3, hW1, hW2, hE⟩ := hp
        cases hv9
        refine hw_stk (st' := [.ref (af), .int (nI t), .ref (rg)]) rfl ?_
        have hK : ∀ z, z ∈ L1 → z ∈ L3 ∧ f3 z = f1 z := fun z hz => ⟨(hE z (hk2 z hz).1).1, ((hE z (hk2 z hz).1).2 (fun e => hq2 (e ▸ hz))).trans (hk2 z hz).2⟩
        have nq : ∀ {z}, z ∉ L2 → z ∉ L1 := fun h g => h (hk2 _ g).1
        have nl : ∀ {z}, z ∉ L1 → z ∉ L := fun h g => h (hX _ g).1
        have hP := (hG.new hK).push hW1 hW2 ha3 (fun i g => ⟨((hG.nin (nq m1)).1 i g).1, ((hG.nin (nq m2)).1 i g).2⟩) (fun i g => ⟨((hG.nin (nq m3)).1 i g).1, ((hG.nin (nq m4)).1 i g).2⟩) m5 m6 (hG.nin hq2).2 (nl (nq m1)) (nl (nq m2)) (nl (nq m3)) (nl (nq m4)) (nl hq2)
        have hrg := grow_c hK hrg
        have hO := grow_c hK hO
        have hX := hX.new hK
        have nA := hP.neA hrg
        have nO := hw_ne hrg hO
        refine hw_aast S hI hrg ha3 (by omega) d_Wf_init_33 (fun f4 H locs hI hrg hf4 => ?_)
        have hP := hP.put hf4 nA.1 nA.2
        have hO := hw_c.fr hO (hf4 _ (fun e => nO e.symm))
        have hX := hX.put2 nL_rg hf4
        refine lv_iinc (v := nI (t + 1)) (lv' := [(1, .int (nI (t + 1))), (0, .ref (a0))]) hx hb d_Wf_init_34 hl (k := 0) rfl (nI_1 _) (by decide) rfl (fun ls hl => ?_)
        refine lv_goto (tgt := 15) hx hb d_Wf_init_37 (by decide) ?_
        exact W.cs (cells' := 1 + 5 * t + 1 + 4) (slots' := 16 + 89 * t + 3 + 86) rfl rfl (by rw [show 1 + 5 * t + 1 + 4 = 1 + 5 * (t + 1) by omega, show 16 + 89 * t + 3 + 86 = 16 + 89 * (t + 1) by omega]; exact ih (t + 1) _ _ _ _ _ _ _ _ _ _ (by omega) hP hrg (fun k hk => by by_cases e : k = t; (rw [e, hw_up_eq, hw_up_eq]); (rw [hw_up_ne e, hw_up_ne e]; exact hh k (by omega))) hO hX hI hl)
  exact loop 16 0 _ _ _ _ _ _ _ _ _ _ (by decide) hG hrg (fun k hk => absurd hk (by omega)) hO hX hI hl

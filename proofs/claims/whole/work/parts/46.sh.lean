set_option maxHeartbeats 4000000 in
set_option maxRecDepth 100000 in
theorem c_Sh_exchange (l : Launch) (D : va_G) (t0 : Nat) (L : List Nat) (f : Nat → va_E) (sz : Nat) (o r fr : Nat → Nat) (ad al ab am ak ah aw ar rg wf : Nat) (x : Nat → Nat) (sg : Nat → Bool) (wt rs : Nat → Nat) (k v : Nat) (hg : Gl o r fr ad al ab am ak ah aw ar rg wf) (hW : Wd D L f o r fr ad al ab am ak ah aw ar rg wf x sg wt rs) (hk : k < 10) : Met l y_Sh_exchange (Cond.code y_Sh_exchange b_Sh_exchange 4 (some .int) :: TT) ({ frames := 0, cells := 0, slots := 0, locals := 0 } : Room) (hw_Pc t0 [.ref (ah), .int (nI k), .int (nI v)] D L f sz) (hw_Q D L sz (fun oc L' f' => oc = .returned (some (.int (nI (wt k)))) ∧ L = L' ∧ Wd D L f' o r fr ad al ab am ak ah aw ar rg wf x sg (va_up wt k v) rs ∧ Fm o r fr ad al ab am ak ah aw ar rg wf f f')) 0 0 (hw_A L sz) := by
  refine Met.ofW (cc := b_Sh_exchange) (maxL := 4) (ret := (some .int)) (by decide) rfl ?_
  intro p e s m args below meth c s₁ B hml hv
  obtain ⟨rfl, rfl, hI⟩ := hw_start hv
  clear hv
  have hx := B.exec
  have hb := B.bytes
  have hr := B.returns
  have hlocks := B.notSynchronized
  have hown : s.vm.findClass "WallFractions$Sharing" = some m.cls := findClass_of_methodNamed B.named
  have hT : ∀ w ∈ TT, w.before ([.ref (ah), .int (nI k), .int (nI v)]).toArray s = true := fun w h => atoms_spec (ws := (Cond.code y_Sh_exchange b_Sh_exchange 4 (some .int) :: TT)) B.pre w (List.mem_cons_of_mem _ h)
  have S : CallFix p m c b_Sh_exchange 4 s ([.ref (ah), .int (nI k), .int (nI v)]).toArray TT "WallFractions$Sharing" := ⟨hx, hb, hml, hown, hT⟩
  have hl := lv_entry ([.ref (ah), .int (nI k), .int (nI v)]) (n := 4) (Nat.le_of_ble_eq_true rfl)
  rw [lg_entry_eq]
  generalize (lg_sl ([.ref (ah), .int (nI k), .int (nI v)]) ++ List.replicate (4 - (lg_sl ([.ref (ah), .int (nI k), .int (nI v)])).length) Slot.unset).toArray = ls at hl ⊢
  have hl : lv_has ls 4 [(0, .ref (ah)), (1, .int (nI k)), (2, .int (nI v))] := hl
  skip
  have hY := hg.1
  have hF : Fm o r fr ad al ab am ak ah aw ar rg wf f f := Fm.refl
  have hs : ∀ z, z < 32 → x z = x z := fun _ _ => rfl
  have ht : ∀ k, k < 16 → sg k = sg k := fun _ _ => rfl
  refine lv_aload_n hx hb d_Sh_exchange_0 rfl (lv_at hl 0 rfl) ?_
  refine ob_get S hI hW.Sh (C := R_Sh) (T := F_Sh) (N := 7) (ref := "WallFractions$Sharing") rfl i_Sh 1 (by decide) rfl w_164 rfl d_Sh_exchange_1 ?_
  refine lv_iload_n hx hb d_Sh_exchange_4 rfl (lv_at hl 1 rfl) ?_
  refine ia_ld S hI hW.Wt (by decide) (by omega) d_Sh_exchange_5 ?_
  refine lv_istore_n (lv' := [(3, .int (nI (wt k))), (0, .ref (ah)), (1, .int (nI k)), (2, .int (nI v))]) hx hb d_Sh_exchange_6 rfl hl (by decide) rfl (fun ls hl => ?_)
  refine lv_aload_n hx hb d_Sh_exchange_7 rfl (lv_at hl 1 rfl) ?_
  refine ob_get S hI hW.Sh (C := R_Sh) (T := F_Sh) (N := 7) (ref := "WallFractions$Sharing") rfl i_Sh 1 (by decide) rfl w_164 rfl d_Sh_exchange_8 ?_
  refine lv_iload_n hx hb d_Sh_exchange_11 rfl (lv_at hl 2 rfl) ?_
  refine lv_iload_n hx hb d_Sh_exchange_12 rfl (lv_at hl 3 rfl) ?_
  refine ia_st S hI hW.Wt (by decide) hk d_Sh_exchange_13 (fun f2 H locs hI hR9 hf9 => ?_)
  have hF := hF.wt hf9
  have hW := hW.pwt hf9 hR9
  refine lv_iload_n hx hb d_Sh_exchange_14 rfl (lv_at hl 0 rfl) ?_
  exact hw_iret hx hb hr hlocks hI d_Sh_exchange_15 ⟨rfl, rfl, hW, hF⟩
set_option maxHeartbeats 4000000 in
set_option maxRecDepth 100000 in
theorem c_Sh_sumOfWeights (l : Launch) (D : va_G) (t0 : Nat) (L : List Nat) (f : Nat → va_E) (sz : Nat) (o r fr : Nat → Nat) (ad al ab am ak ah aw ar rg wf : Nat) (x : Nat → Nat) (sg : Nat → Bool) (wt rs : Nat → Nat) (hg : Gl o r fr ad al ab am ak ah aw ar rg wf) (hW : Wd D L f o r fr ad al ab am ak ah aw ar rg wf x sg wt rs) (hwt : ∀ q, q < 10 → wt q ≤ 1000000000) : Met l y_Sh_sumOfWeights (Cond.code y_Sh_sumOfWeights b_Sh_sumOfWeights 4 (some .long) :: TT) ({ frames := 0, cells := 0, slots := 0, locals := 0 } : Room) (hw_Pc t0 [.ref (ah)] D L f sz) (hw_Q D L sz (fun oc L' f' => oc = .returned (some (.long (lN (sumN wt 10)))) ∧ L = L' ∧ f = f')) 0 0 (hw_A L sz) := by
  refine Met.ofW (cc := b_Sh_sumOfWeights) (maxL := 4) (ret := (some .long)) (by decide) rfl ?_
  intro p e s m args below meth c s₁ B hml hv
  obtain ⟨rfl, rfl, hI⟩ := hw_start hv
  clear hv
  have hx := B.exec
  have hb := B.bytes
  have hr := B.returns
  have hlocks := B.notSynchronized
  have hown : s.vm.findClass "WallFractions$Sharing" = some m.cls := findClass_of_methodNamed B.named
  have hT : ∀ w ∈ TT, w.before ([.ref (ah)]).toArray s = true := fun w h => atoms_spec (ws := (Cond.code y_Sh_sumOfWeights b_Sh_sumOfWeights 4 (some .long) :: TT)) B.pre w (List.mem_cons_of_mem _ h)
  have S : CallFix p m c b_Sh_sumOfWeights 4 s ([.ref (ah)]).toArray TT "WallFractions$Sharing" := ⟨hx, hb, hml, hown, hT⟩
  have hl := lv_entry ([.ref (ah)]) (n := 4) (Nat.le_of_ble_eq_true rfl)
  rw [lg_entry_eq]
  generalize (lg_sl ([.ref (ah)]) ++ List.replicate (4 - (lg_sl ([.ref (ah)])).length) Slot.unset).toArray = ls at hl ⊢
  have hl : lv_has ls 4 [(0, .ref (ah))] := hl
  skip
  have hY := hg.1
  have hF : Fm o r fr ad al ab am ak ah aw ar rg wf f f := Fm.refl
  have hs : ∀ z, z < 32 → x z = x z := fun _ _ => rfl
  have ht : ∀ k, k < 16 → sg k = sg k := fun _ _ => rfl
  have loop : ∀ (g t : Nat) (f1 : Nat → va_E) (H : Heap) (locs : List Loc) (ls : Array Slot), t + g = 10 → f = f1 → hw_I D t0 (hw_A L s.heap.size) s L f1 H locs → lv_has ls 4 [(3, .int (nI t)), (1, .long (lN (sumN wt t))), (0, .ref (ah))] → W p l e (headSpec (Cond.code y_Sh_sumOfWeights b_Sh_sumOfWeights 4 (some .long) :: TT) ({ frames := 0, cells := 0, slots := 0, locals := 0 } : Room)).room s m ([.ref (ah)]).toArray below meth c H locs 0 0 (MQ below (hw_Q D L s.heap.size (fun oc L' f' => oc = .returned (some (.long (lN (sumN wt 10)))) ∧ L = L' ∧ f = f')) ([.ref (ah)]).toArray s 0 0 (hw_A L s.heap.size)) (F0 m 4 ls []) := by
    intro g
    induction g with
    | zero =>
      intro t f1 H locs ls htg hf hI hl
      subst hf
      refine lv_iload_n hx hb d_Sh_sumOfWeights_4 rfl (lv_at hl 0 rfl) ?_
      refine lv_bipush (v := nI 10) hx hb d_Sh_sumOfWeights_5 (by decide) ?_
      refine hw_icmp_ge (tgt := 26) hx hb d_Sh_sumOfWeights_7 (by decide) (by omega) (by omega) (fun c1 => ?_) (fun c1 => ?_)
      · have ht : t = 10 := by omega
        subst ht
        refine lv_lload_n hx hb d_Sh_sumOfWeights_26 rfl (lv_at hl 1 rfl) ?_
        exact hw_lret hx hb hr hlocks hI d_Sh_sumOfWeights_27 ⟨rfl, rfl, rfl⟩
      · exact absurd c1 (by omega)
    | succ g ih =>
      intro t f1 H locs ls htg hf hI hl
      subst hf
      refine lv_iload_n hx hb d_Sh_sumOfWeights_4 rfl (lv_at hl 0 rfl) ?_
      refine lv_bipush (v := nI 10) hx hb d_Sh_sumOfWeights_5 (by decide) ?_
      refine hw_icmp_ge (tgt := 26) hx hb d_Sh_sumOfWeights_7 (by decide) (by omega) (by omega) (fun c2 => ?_) (fun c2 => ?_)
      · exact absurd c2 (by omega)
      · have hwt_t := hwt t (by omega)
        refine lv_lload_n hx hb d_Sh_sumOfWeights_10 rfl (lv_at hl 1 rfl) ?_
        refine lv_aload_n hx hb d_Sh_sumOfWeights_11 rfl (lv_at hl 2 rfl) ?_
        refine ob_get S hI hW.Sh (C := R_Sh) (T := F_Sh) (N := 7) (ref := "WallFractions$Sharing") rfl i_Sh 1 (by decide) rfl w_164 rfl d_Sh_sumOfWeights_12 ?_
        refine lv_iload_n hx hb d_Sh_sumOfWeights_15 rfl (lv_at hl 0 rfl) ?_
        refine ia_ld S hI hW.Wt (by decide) (by omega) d_Sh_sumOfWeights_16 ?_
        refine lv_i2l (v := lN (wt t)) hx hb d_Sh_sumOfWeights_17 (nI_l (by omega)) ?_
        refine lv_ladd hx hb d_Sh_sumOfWeights_18 ?_
        refine hw_tl (lN_add _ _) ?_
        refine lv_lstore_n (lv' := [(1, .long (lN ((sumN wt t) + (wt t)))), (3, .int (nI t)), (0, .ref (ah))]) hx hb d_Sh_sumOfWeights_19 rfl hl (by decide) rfl (fun ls hl => ?_)
        refine lv_iinc (v := nI (t + 1)) (lv' := [(3, .int (nI (t + 1))), (1, .long (lN ((sumN wt t) + (wt t)))), (0, .ref (ah))]) hx hb d_Sh_sumOfWeights_20 hl (k := 1) rfl (nI_1 _) (by decide) rfl (fun ls hl => ?_)
        refine lv_goto (tgt := 4) hx hb d_Sh_sumOfWeights_23 (by decide) ?_
        exact ih (t + 1) _ _ _ _ (by omega) rfl hI hl
  refine lv_lconst (v := lN 0) hx hb d_Sh_sumOfWeights_0 rfl ?_
  refine lv_lstore_n (lv' := [(1, .long (lN 0)), (0, .ref (ah))]) hx hb d_Sh_sumOfWeights_1 rfl hl (by decide) rfl (fun ls hl => ?_)
  refine lv_iconst (v := nI 0) hx hb d_Sh_sumOfWeights_2 (by decide) ?_
  refine lv_istore_n (lv' := [(3, .int (nI 0)), (1, .long (lN 0)), (0, .ref (ah))]) hx hb d_Sh_sumOfWeights_3 rfl hl (by decide) rfl (fun ls hl => ?_)
  exact loop 10 0 _ _ _ _ (by omega) rfl hI hl
set_option maxHeartbeats 4000000 in
set_option maxRecDepth 100000 in
theorem c_Sh_rank (l : Launch) (D : va_G) (t0 : Nat) (L : List Nat) (f : Nat → va_E) (sz : Nat) (o r fr : Nat → Nat) (ad al ab am ak ah aw ar rg wf : Nat) (x : Nat → Nat) (sg : Nat → Bool) (wt rs : Nat → Nat) (k : Nat) (hg : Gl o r fr ad al ab am ak ah aw ar rg wf) (hW : Wd D L f o r fr ad al ab am ak ah aw ar rg wf x sg wt rs) (hk : k < 10) (hrs : ∀ q, q < 10 → rs q < 2 ^ 63) : Met l y_Sh_rank (Cond.code y_Sh_rank b_Sh_rank 5 (some .long) :: TT) ({ frames := 0, cells := 0, slots := 0, locals := 0 } : Room) (hw_Pc t0 [.ref (ah), .int (nI k)] D L f sz) (hw_Q D L sz (fun oc L' f' => oc = .returned (some (.long (lN (rankN rs k 10)))) ∧ L = L' ∧ f = f')) 0 0 (hw_A L sz) := by
  refine Met.ofW (cc := b_Sh_rank) (maxL := 5) (ret := (some .long)) (by decide) rfl ?_
  intro p e s m args below meth c s₁ B hml hv
  obtain ⟨rfl, rfl, hI⟩ := hw_start hv
  clear hv
  have hx := B.exec
  have hb := B.bytes
  have hr := B.returns
  have hlocks := B.notSynchronized
  have hown : s.vm.findClass "WallFractions$Sharing" = some m.cls := findClass_of_methodNamed B.named
  have hT : ∀ w ∈ TT, w.before ([.ref (ah), .int (nI k)]).toArray s = true := fun w h => atoms_spec (ws := (Cond.code y_Sh_rank b_Sh_rank 5 (some .long) :: TT)) B.pre w (List.mem_cons_of_mem _ h)
  have S : CallFix p m c b_Sh_rank 5 s ([.ref (ah), .int (nI k)]).toArray TT "WallFractions$Sharing" := ⟨hx, hb, hml, hown, hT⟩
  have hl := lv_entry ([.ref (ah), .int (nI k)]) (n := 5) (Nat.le_of_ble_eq_true rfl)
  rw [lg_entry_eq]
  generalize (lg_sl ([.ref (ah), .int (nI k)]) ++ List.replicate (5 - (lg_sl ([.ref (ah), .int (nI k)])).length) Slot.unset).toArray = ls at hl ⊢
  have hl : lv_has ls 5 [(0, .ref (ah)), (1, .int (nI k))] := hl
  skip
  have hY := hg.1
  have hF : Fm o r fr ad al ab am ak ah aw ar rg wf f f := Fm.refl
  have hs : ∀ z, z < 32 → x z = x z := fun _ _ => rfl
  have ht : ∀ k, k < 16 → sg k = sg k := fun _ _ => rfl
  have loop : ∀ (g t : Nat) (f1 : Nat → va_E) (H : Heap) (locs : List Loc) (ls : Array Slot), t + g = 10 → f = f1 → hw_I D t0 (hw_A L s.heap.size) s L f1 H locs → lv_has ls 5 [(4, .int (nI t)), (2, .long (lN (rankN rs k t))), (1, .int (nI k)), (0, .ref (ah))] → W p l e (headSpec (Cond.code y_Sh_rank b_Sh_rank 5 (some .long) :: TT) ({ frames := 0, cells := 0, slots := 0, locals := 0 } : Room)).room s m ([.ref (ah), .int (nI k)]).toArray below meth c H locs 0 0 (MQ below (hw_Q D L s.heap.size (fun oc L' f' => oc = .returned (some (.long (lN (rankN rs k 10)))) ∧ L = L' ∧ f = f')) ([.ref (ah), .int (nI k)]).toArray s 0 0 (hw_A L s.heap.size)) (F0 m 5 ls []) := by
    intro g
    induction g with
    | zero =>
      intro t f1 H locs ls htg hf hI hl
      subst hf
      refine lv_iload hx hb d_Sh_rank_5 (lv_at hl 0 rfl) ?_
      refine lv_bipush (v := nI 10) hx hb d_Sh_rank_7 (by decide) ?_
      refine hw_icmp_ge (tgt := 62) hx hb d_Sh_rank_9 (by decide) (by omega) (by omega) (fun c3 => ?_) (fun c3 => ?_)
      · have ht : t = 10 := by omega
        subst ht
        refine lv_lload_n hx hb d_Sh_rank_62 rfl (lv_at hl 1 rfl) ?_
        exact hw_lret hx hb hr hlocks hI d_Sh_rank_63 ⟨rfl, rfl, rfl⟩
      · exact absurd c3 (by omega)
    | succ g ih =>
      intro t f1 H locs ls htg hf hI hl
      subst hf
      refine lv_iload hx hb d_Sh_rank_5 (lv_at hl 0 rfl) ?_
      refine lv_bipush (v := nI 10) hx hb d_Sh_rank_7 (by decide) ?_
      refine hw_icmp_ge (tgt := 62) hx hb d_Sh_rank_9 (by decide) (by omega) (by omega) (fun c4 => ?_) (fun c4 => ?_)
      · exact absurd c4 (by omega)
      · have r1 := hrs t (by omega)
        have r2 := hrs k hk
        have hR : rankN rs k (t + 1) = rankN rs k t + (if rs k < rs t ∨ (rs t = rs k ∧ t < k) then 1 else 0) := rfl
        refine lv_aload_n hx hb d_Sh_rank_12 rfl (lv_at hl 3 rfl) ?_
        refine ob_get S hI hW.Sh (C := R_Sh) (T := F_Sh) (N := 7) (ref := "WallFractions$Sharing") rfl i_Sh 2 (by decide) rfl w_165 rfl d_Sh_rank_13 ?_
        refine lv_iload hx hb d_Sh_rank_16 (lv_at hl 0 rfl) ?_
        refine ar_ld S hI hW.Rs (by decide) (by omega) d_Sh_rank_18 ?_
        refine lv_aload_n hx hb d_Sh_rank_19 rfl (lv_at hl 3 rfl) ?_
        refine ob_get S hI hW.Sh (C := R_Sh) (T := F_Sh) (N := 7) (ref := "WallFractions$Sharing") rfl i_Sh 2 (by decide) rfl w_165 rfl d_Sh_rank_20 ?_
        refine lv_iload_n hx hb d_Sh_rank_23 rfl (lv_at hl 2 rfl) ?_
        refine ar_ld S hI hW.Rs (by decide) (by omega) d_Sh_rank_24 ?_
        refine hw_l_gt (tgt := 52) hx hb d_Sh_rank_25 d_Sh_rank_26 (by decide) (fun c5 => ?_) (fun c5 => ?_)
        · have h1 : rs k < rs t := (pk_lLT r2 r1).mp c5
          refine lv_lload_n hx hb d_Sh_rank_52 rfl (lv_at hl 1 rfl) ?_
          refine lv_lconst (v := lN 1) hx hb d_Sh_rank_53 rfl ?_
          refine lv_ladd hx hb d_Sh_rank_54 ?_
          refine hw_tl (lN_add _ _) ?_
          refine lv_lstore_n (lv' := [(2, .long (lN ((rankN rs k t) + 1))), (4, .int (nI t)), (1, .int (nI k)), (0, .ref (ah))]) hx hb d_Sh_rank_55 rfl hl (by decide) rfl (fun ls hl => ?_)
          refine lv_iinc (v := nI (t + 1)) (lv' := [(4, .int (nI (t + 1))), (2, .long (lN ((rankN rs k t) + 1))), (1, .int (nI k)), (0, .ref (ah))]) hx hb d_Sh_rank_56 hl (k := 1) rfl (nI_1 _) (by decide) rfl (fun ls hl => ?_)
          refine lv_goto (tgt := 5) hx hb d_Sh_rank_59 (by decide) ?_
          exact ih (t + 1) _ _ _ _ (by omega) rfl hI (show lv_has ls 5 [(4, .int (nI (t + 1))), (2, .long (lN (rankN rs k (t + 1)))), (1, .int (nI k)), (0, .ref (ah))] from by rw [hR, if_pos (Or.inl h1)]; exact hl)
        · have h1 : rs t ≤ rs k := (pk_lLE r1 r2).mp c5
          refine lv_aload_n hx hb d_Sh_rank_29 rfl (lv_at hl 3 rfl) ?_
          refine ob_get S hI hW.Sh (C := R_Sh) (T := F_Sh) (N := 7) (ref := "WallFractions$Sharing") rfl i_Sh 2 (by decide) rfl w_165 rfl d_Sh_rank_30 ?_
          refine lv_iload hx hb d_Sh_rank_33 (lv_at hl 0 rfl) ?_
          refine ar_ld S hI hW.Rs (by decide) (by omega) d_Sh_rank_35 ?_
          refine lv_aload_n hx hb d_Sh_rank_36 rfl (lv_at hl 3 rfl) ?_
          refine ob_get S hI hW.Sh (C := R_Sh) (T := F_Sh) (N := 7) (ref := "WallFractions$Sharing") rfl i_Sh 2 (by decide) rfl w_165 rfl d_Sh_rank_37 ?_
          refine lv_iload_n hx hb d_Sh_rank_40 rfl (lv_at hl 2 rfl) ?_
          refine ar_ld S hI hW.Rs (by decide) (by omega) d_Sh_rank_41 ?_
          refine hw_l_ne (tgt := 56) hx hb d_Sh_rank_42 d_Sh_rank_43 (by decide) (fun c6 => ?_) (fun c6 => ?_)
          · have h2 : rs t ≠ rs k := fun h => c6 (by rw [h])
            refine lv_iinc (v := nI (t + 1)) (lv' := [(4, .int (nI (t + 1))), (2, .long (lN (rankN rs k t))), (1, .int (nI k)), (0, .ref (ah))]) hx hb d_Sh_rank_56 hl (k := 0) rfl (nI_1 _) (by decide) rfl (fun ls hl => ?_)
            refine lv_goto (tgt := 5) hx hb d_Sh_rank_59 (by decide) ?_
            exact ih (t + 1) _ _ _ _ (by omega) rfl hI (show lv_has ls 5 [(4, .int (nI (t + 1))), (2, .long (lN (rankN rs k (t + 1)))), (1, .int (nI k)), (0, .ref (ah))] from by rw [hR, if_neg (by omega), Nat.add_zero]; exact hl)
          · have h2 : rs t = rs k := (pk_lEQ r1 r2).mp c6
            refine lv_iload hx hb d_Sh_rank_46 (lv_at hl 0 rfl) ?_
            refine lv_iload_n hx hb d_Sh_rank_48 rfl (lv_at hl 2 rfl) ?_
            refine hw_icmp_ge (tgt := 56) hx hb d_Sh_rank_49 (by decide) (by omega) (by omega) (fun c7 => ?_) (fun c7 => ?_)
            · refine lv_iinc (v := nI (t + 1)) (lv' := [(4, .int (nI (t + 1))), (2, .long (lN (rankN rs k t))), (1, .int (nI k)), (0, .ref (ah))]) hx hb d_Sh_rank_56 hl (k := 0) rfl (nI_1 _) (by decide) rfl (fun ls hl => ?_)
              refine lv_goto (tgt := 5) hx hb d_Sh_rank_59 (by decide) ?_
              exact ih (t + 1) _ _ _ _ (by omega) rfl hI (show lv_has ls 5 [(4, .int (nI (t + 1))), (2, .long (lN (rankN rs k (t + 1)))), (1, .int (nI k)), (0, .ref (ah))] from by rw [hR, if_neg (by omega), Nat.add_zero]; exact hl)
            · refine lv_lload_n hx hb d_Sh_rank_52 rfl (lv_at hl 1 rfl) ?_
              refine lv_lconst (v := lN 1) hx hb d_Sh_rank_53 rfl ?_
              refine lv_ladd hx hb d_Sh_rank_54 ?_
              refine hw_tl (lN_add _ _) ?_
              refine lv_lstore_n (lv' := [(2, .long (lN ((rankN rs k t) + 1))), (4, .int (nI t)), (1, .int (nI k)), (0, .ref (ah))]) hx hb d_Sh_rank_55 rfl hl (by decide) rfl (fun ls hl => ?_)
              refine lv_iinc (v := nI (t + 1)) (lv' := [(4, .int (nI (t + 1))), (2, .long (lN ((rankN rs k t) + 1))), (1, .int (nI k)), (0, .ref (ah))]) hx hb d_Sh_rank_56 hl (k := 1) rfl (nI_1 _) (by decide) rfl (fun ls hl => ?_)
              refine lv_goto (tgt := 5) hx hb d_Sh_rank_59 (by decide) ?_
              exact ih (t + 1) _ _ _ _ (by omega) rfl hI (show lv_has ls 5 [(4, .int (nI (t + 1))), (2, .long (lN (rankN rs k (t + 1)))), (1, .int (nI k)), (0, .ref (ah))] from by rw [hR, if_pos (Or.inr ⟨h2, c7⟩)]; exact hl)
  refine lv_lconst (v := lN 0) hx hb d_Sh_rank_0 rfl ?_
  refine lv_lstore_n (lv' := [(2, .long (lN 0)), (0, .ref (ah)), (1, .int (nI k))]) hx hb d_Sh_rank_1 rfl hl (by decide) rfl (fun ls hl => ?_)
  refine lv_iconst (v := nI 0) hx hb d_Sh_rank_2 (by decide) ?_
  refine lv_istore (lv' := [(4, .int (nI 0)), (2, .long (lN 0)), (0, .ref (ah)), (1, .int (nI k))]) hx hb d_Sh_rank_3 hl (by decide) rfl (fun ls hl => ?_)
  exact loop 10 0 _ _ _ _ (by omega) rfl hI (lv_sub hl [0, 1, 3, 2] rfl)
set_option maxHeartbeats 4000000 in
set_option maxRecDepth 100000 in
theorem c_Sh_shareOf (l : Launch) (D : va_G) (t0 : Nat) (L : List Nat) (f : Nat → va_E) (sz : Nat) (o r fr : Nat → Nat) (ad al ab am ak ah aw ar rg wf : Nat) (x : Nat → Nat) (sg : Nat → Bool) (wt rs : Nat → Nat) (j k : Nat) (hg : Gl o r fr ad al ab am ak ah aw ar rg wf) (hW : Wd D L f o r fr ad al ab am ak ah aw ar rg wf x sg wt rs) (hwt : ∀ q, q < 10 → wt q ≤ 1000000000) (hj : j < 32) (hk : k < 10) (h20 : x j < nB ^ 20) (hall : 0 < sumN wt 10) : Met l y_Sh_shareOf (Cond.code y_Sh_shareOf b_Sh_shareOf 8 (some (.object "WallFractions$Whole")) :: TT) ({ frames := 9, cells := 0, slots := 0, locals := 192 } : Room) (hw_Pc t0 [.ref (ah), .ref (o j), .int (nI k)] D L f sz) (hw_Q D L sz (fun oc L' f' => oc = .returned (some (.ref (o 45))) ∧ L = L' ∧ ∃ x' rs', Wd D L f' o r fr ad al ab am ak ah aw ar rg wf x' sg wt rs' ∧ x' 45 = shF (x j) wt k ∧ (∀ z, z < 32 → x' z = x z) ∧ Fm o r fr ad al ab am ak ah aw ar rg wf f f')) 0 0 (hw_A L sz) := by
  refine Met.ofW (cc := b_Sh_shareOf) (maxL := 8) (ret := (some (.object "WallFractions$Whole"))) (by decide) rfl ?_
  intro p e s m args below meth c s₁ B hml hv
  obtain ⟨rfl, rfl, hI⟩ := hw_start hv
  clear hv
  have hx := B.exec
  have hb := B.bytes
  have hr := B.returns
  have hlocks := B.notSynchronized
  have hown : s.vm.findClass "WallFractions$Sharing" = some m.cls := findClass_of_methodNamed B.named
  have hT : ∀ w ∈ TT, w.before ([.ref (ah), .ref (o j), .int (nI k)]).toArray s = true := fun w h => atoms_spec (ws := (Cond.code y_Sh_shareOf b_Sh_shareOf 8 (some (.object "WallFractions$Whole")) :: TT)) B.pre w (List.mem_cons_of_mem _ h)
  have S : CallFix p m c b_Sh_shareOf 8 s ([.ref (ah), .ref (o j), .int (nI k)]).toArray TT "WallFractions$Sharing" := ⟨hx, hb, hml, hown, hT⟩
  have hl := lv_entry ([.ref (ah), .ref (o j), .int (nI k)]) (n := 8) (Nat.le_of_ble_eq_true rfl)
  rw [lg_entry_eq]
  generalize (lg_sl ([.ref (ah), .ref (o j), .int (nI k)]) ++ List.replicate (8 - (lg_sl ([.ref (ah), .ref (o j), .int (nI k)])).length) Slot.unset).toArray = ls at hl ⊢
  have hl : lv_has ls 8 [(0, .ref (ah)), (1, .ref (o j)), (2, .int (nI k))] := hl
  skip
  have hY := hg.1
  have hF : Fm o r fr ad al ab am ak ah aw ar rg wf f f := Fm.refl
  have hs : ∀ z, z < 32 → x z = x z := fun _ _ => rfl
  have ht : ∀ k, k < 16 → sg k = sg k := fun _ _ => rfl
  have hnB : nB = 1000000000 := rfl
  obtain ⟨al9, hal9⟩ : ∃ al9, al9 = sumN wt 10 := ⟨_, rfl⟩
  have hup := sumN_le hwt
  obtain ⟨N, hN⟩ : ∃ N, N = x j := ⟨_, rfl⟩
  rw [← hal9] at hall hup
  rw [← hN] at h20
  have hR : ∀ i, shR N wt i < al9 := fun i => by unfold shR; rw [← hal9]; exact Nat.mod_lt _ hall
  have h40 : nB ^ 20 ≤ nB ^ 40 := Nat.pow_le_pow_right nB_pos (by decide)
  have hn2 : nB ^ 2 = 1000000000000000000 := rfl
  refine lv_aload_n hx hb d_Sh_shareOf_0 rfl (lv_at hl 0 rfl) ?_
  refine hw_cV (As := []) (rest := []) S hI m_Sh_sumOfWeights w_749 (c_Sh_sumOfWeights l D t0 L _ _ o r fr ad al ab am ak ah aw ar rg wf x sg wt rs hg hW hwt) hW.Sh rfl hl.1 rfl rfl (Nat.le_of_ble_eq_true rfl) d_Sh_shareOf_1 ⟨Nat.le_of_ble_eq_true rfl, Nat.le_of_ble_eq_true rfl⟩ ⟨Nat.le_of_ble_eq_true rfl, Nat.le_of_ble_eq_true rfl⟩ (fun v9 L9 f8 H locs hp hI => ?_)
  refine W.cs (cells' := 0) (slots' := 0) rfl rfl ?_
  obtain ⟨hv9, rfl, rfl⟩ := hp
  cases hv9
  refine hw_stk (st' := [.long (lN (sumN wt 10))]) rfl ?_
  refine hw_tl (show _ = lN al9 from by rw [hal9]) ?_
  refine lv_lstore_n (lv' := [(3, .long (lN al9)), (0, .ref (ah)), (1, .ref (o j)), (2, .int (nI k))]) hx hb d_Sh_shareOf_4 rfl hl (by decide) rfl (fun ls hl => ?_)
  refine lv_lconst (v := lN 0) hx hb d_Sh_shareOf_5 rfl ?_
  refine lv_lstore (lv' := [(5, .long (lN 0)), (3, .long (lN al9)), (0, .ref (ah)), (1, .ref (o j)), (2, .int (nI k))]) hx hb d_Sh_shareOf_6 hl (by decide) rfl (fun ls hl => ?_)
  refine lv_aload_n hx hb d_Sh_shareOf_8 rfl (lv_at hl 2 rfl) ?_
  refine ob_get S hI hW.Sh (C := R_Sh) (T := F_Sh) (N := 7) (ref := "WallFractions$Sharing") rfl i_Sh 3 (by decide) rfl w_166 rfl d_Sh_shareOf_9 ?_
  refine lv_lload_n hx hb d_Sh_shareOf_12 rfl (lv_at hl 1 rfl) ?_
  refine hw_cV (As := [.long (lN al9)]) (rest := []) S hI m_Wh_become w_750 (c_Wh_become l D t0 L _ _ o r 46 x 42 al9 (by omega) hY hW.N (by omega)) (hW.rc (i := 42) (by omega)).choose_spec rfl hl.1 rfl rfl (Nat.le_of_ble_eq_true rfl) d_Sh_shareOf_13 ⟨Nat.le_of_ble_eq_true rfl, Nat.le_of_ble_eq_true rfl⟩ ⟨Nat.le_of_ble_eq_true rfl, Nat.le_of_ble_eq_true rfl⟩ (fun v9 L9 f9 H locs hp hI => ?_)
  refine W.cs (cells' := 0) (slots' := 0) rfl rfl ?_
  obtain ⟨hv9, rfl, hN9, hf9⟩ := hp
  cases hv9
  refine hw_stk (st' := []) rfl ?_
  have hF := hF.wh (fun q h9 _ _ _ => hf9 q (h9 42 (by omega)).1 (h9 42 (by omega)).2)
  obtain ⟨x9, hW, e9, s9⟩ := (hW.wh hN9 (fun q h9 => hf9 q (h9 42 (by omega)).1 (h9 42 (by omega)).2)).cut
  have n9 : x9 42 = al9 := by rw [e9]
  have e42 : x9 42 = al9 := n9
  have hs := fun z (hz : z < 32) => (s9 z (by omega)).trans (hs z hz)
  have loop : ∀ (g t tt : Nat) (xx rr : Nat → Nat) (f1 : Nat → va_E) (H : Heap) (locs : List Loc) (ls : Array Slot), t + g = 10 → tt = sumN (shR N wt) t → (∀ i, i < t → rr i = shR N wt i) → xx 42 = al9 → (k < t → xx 45 = N * wt k / al9) → Wd D L f1 o r fr ad al ab am ak ah aw ar rg wf xx sg wt rr → (∀ z, z < 32 → xx z = x z) → Fm o r fr ad al ab am ak ah aw ar rg wf f f1 → hw_I D t0 (hw_A L s.heap.size) s L f1 H locs → lv_has ls 8 [(7, .int (nI t)), (5, .long (lN tt)), (3, .long (lN al9)), (2, .int (nI k)), (1, .ref (o j)), (0, .ref (ah))] → W p l e (headSpec (Cond.code y_Sh_shareOf b_Sh_shareOf 8 (some (.object "WallFractions$Whole")) :: TT) ({ frames := 9, cells := 0, slots := 0, locals := 192 } : Room)).room s m ([.ref (ah), .ref (o j), .int (nI k)]).toArray below meth c H locs 0 0 (MQ below (hw_Q D L s.heap.size (fun oc L' f' => oc = .returned (some (.ref (o 45))) ∧ L = L' ∧ ∃ x' rs', Wd D L f' o r fr ad al ab am ak ah aw ar rg wf x' sg wt rs' ∧ x' 45 = shF (x j) wt k ∧ (∀ z, z < 32 → x' z = x z) ∧ Fm o r fr ad al ab am ak ah aw ar rg wf f f')) ([.ref (ah), .ref (o j), .int (nI k)]).toArray s 0 0 (hw_A L s.heap.size)) (F0 m 19 ls []) := by
    intro g
    induction g with
    | zero =>
      intro t tt xx rr f1 H locs ls htg htt hrr e42 h45 hW hs hF hI hl
      refine lv_iload hx hb d_Sh_shareOf_19 (lv_at hl 0 rfl) ?_
      refine lv_bipush (v := nI 10) hx hb d_Sh_shareOf_21 (by decide) ?_
      refine hw_icmp_ge (tgt := 122) hx hb d_Sh_shareOf_23 (by decide) (by omega) (by omega) (fun c10 => ?_) (fun c10 => ?_)
      · have ht : t = 10 := by omega
        subst ht
        have e45 := h45 hk
        have hrk : rankN rr k 10 = rankN (shR N wt) k 10 := rankN_congr (hrr k hk) hrr
        have hr10 := rankN_le (g := shR N wt) (k := k) (n := 10)
        have hti : tt ≤ 10 * al9 := by rw [htt]; exact sumN_le (fun q _ => Nat.le_of_lt (hR q))
        refine lv_aload_n hx hb d_Sh_shareOf_122 rfl (lv_at hl 5 rfl) ?_
        refine lv_iload_n hx hb d_Sh_shareOf_123 rfl (lv_at hl 3 rfl) ?_
        refine hw_cV (As := [.int (nI k)]) (rest := []) S hI m_Sh_rank w_755 (c_Sh_rank l D t0 L _ _ o r fr ad al ab am ak ah aw ar rg wf xx sg wt rr k hg hW hk (fun q hq => by rw [hrr q hq]; have := hR q; omega)) hW.Sh rfl hl.1 rfl rfl (Nat.le_of_ble_eq_true rfl) d_Sh_shareOf_124 ⟨Nat.le_of_ble_eq_true rfl, Nat.le_of_ble_eq_true rfl⟩ ⟨Nat.le_of_ble_eq_true rfl, Nat.le_of_ble_eq_true rfl⟩ (fun v9 L9 f11 H locs hp hI => ?_)
        refine W.cs (cells' := 0) (slots' := 0) rfl rfl ?_
        obtain ⟨hv9, rfl, rfl⟩ := hp
        cases hv9
        refine hw_stk (st' := [.long (lN (rankN rr k 10))]) rfl ?_
        obtain ⟨rk, hrk2⟩ : ∃ rk, rk = rankN (shR N wt) k 10 := ⟨_, rfl⟩
        rw [← hrk2] at hrk hr10
        refine hw_tl (show _ = lN rk from by rw [hrk]) ?_
        have hml9 : (rk + 1) * al9 ≤ 11 * al9 := Nat.mul_le_mul_right _ (by omega)
        refine lv_lconst (v := lN 1) hx hb d_Sh_shareOf_127 rfl ?_
        refine lv_ladd hx hb d_Sh_shareOf_128 ?_
        refine hw_tl (lN_add _ _) ?_
        refine lv_lload_n hx hb d_Sh_shareOf_129 rfl (lv_at hl 2 rfl) ?_
        refine lv_lmul hx hb d_Sh_shareOf_130 ?_
        refine hw_tl (lN_mul _ _) ?_
        refine lv_lload hx hb d_Sh_shareOf_131 (lv_at hl 1 rfl) ?_
        refine hw_l_gt (tgt := 146) hx hb d_Sh_shareOf_133 d_Sh_shareOf_134 (by decide) (fun c12 => ?_) (fun c12 => ?_)
        · have hgt : tt < (rk + 1) * al9 := (pk_lLT (by omega) (by omega)).mp c12
          refine lv_aload_n hx hb d_Sh_shareOf_146 rfl (lv_at hl 5 rfl) ?_
          refine ob_get S hI hW.Sh (C := R_Sh) (T := F_Sh) (N := 7) (ref := "WallFractions$Sharing") rfl i_Sh 6 (by decide) rfl w_169 rfl d_Sh_shareOf_147 ?_
          exact hw_aret hx hb hr hlocks hI d_Sh_shareOf_150 ⟨rfl, rfl, xx, rr, hW, by unfold shF; rw [e45, ← hN, ← hal9, ← hrk2, ← htt, if_neg (by omega), Nat.add_zero], hs, hF⟩
        · have hgt : (rk + 1) * al9 ≤ tt := (pk_lLE (by omega) (by omega)).mp c12
          have hq20 : N * wt k / al9 < nB ^ 40 := Nat.lt_of_le_of_lt (Nat.div_le_self _ _) (Nat.lt_of_lt_of_le (mul_lt_pow (m := 2) h20 (show wt k < nB ^ 2 by have := hwt k hk; omega)) (Nat.pow_le_pow_right nB_pos (by decide)))
          refine lv_aload_n hx hb d_Sh_shareOf_137 rfl (lv_at hl 5 rfl) ?_
          refine ob_get S hI hW.Sh (C := R_Sh) (T := F_Sh) (N := 7) (ref := "WallFractions$Sharing") rfl i_Sh 6 (by decide) rfl w_169 rfl d_Sh_shareOf_138 ?_
          refine lv_lconst (v := lN 1) hx hb d_Sh_shareOf_141 rfl ?_
          refine lv_lconst (v := lN 1) hx hb d_Sh_shareOf_142 rfl ?_
          refine hw_cV (As := [.long (lN 1), .long (lN 1)]) (rest := []) S hI m_Wh_grow w_752 (c_Wh_grow l D t0 L _ _ o r 46 xx 45 1 1 (by omega) hY hW.N (by rw [e45]; exact hq20) (by decide) (by decide)) (hW.rc (i := 45) (by omega)).choose_spec rfl hl.1 rfl rfl (Nat.le_of_ble_eq_true rfl) d_Sh_shareOf_143 ⟨Nat.le_of_ble_eq_true rfl, Nat.le_of_ble_eq_true rfl⟩ ⟨Nat.le_of_ble_eq_true rfl, Nat.le_of_ble_eq_true rfl⟩ (fun v9 L9 f13 H locs hp hI => ?_)
          refine W.cs (cells' := 0) (slots' := 0) rfl rfl ?_
          obtain ⟨hv9, rfl, hN9, hf9⟩ := hp
          cases hv9
          refine hw_stk (st' := []) rfl ?_
          have hF := hF.wh (fun q h9 _ _ _ => hf9 q (h9 45 (by omega)).1 (h9 45 (by omega)).2)
          obtain ⟨x13, hW, e9, s9⟩ := (hW.wh hN9 (fun q h9 => hf9 q (h9 45 (by omega)).1 (h9 45 (by omega)).2)).cut
          have n9 : x13 45 = N * wt k / al9 + 1 := by rw [e9, e45, Nat.mul_one]
          have e42 : x13 42 = al9 := (s9 42 (by omega)).trans e42
          have e45 : x13 45 = N * wt k / al9 + 1 := n9
          have hs := fun z (hz : z < 32) => (s9 z (by omega)).trans (hs z hz)
          refine lv_aload_n hx hb d_Sh_shareOf_146 rfl (lv_at hl 5 rfl) ?_
          refine ob_get S hI hW.Sh (C := R_Sh) (T := F_Sh) (N := 7) (ref := "WallFractions$Sharing") rfl i_Sh 6 (by decide) rfl w_169 rfl d_Sh_shareOf_147 ?_
          exact hw_aret hx hb hr hlocks hI d_Sh_shareOf_150 ⟨rfl, rfl, x13, rr, hW, by unfold shF; rw [e45, ← hN, ← hal9, ← hrk2, ← htt, if_pos (by omega)], hs, hF⟩
      · exact absurd c10 (by omega)
    | succ g ih =>
      intro t tt xx rr f1 H locs ls htg htt hrr e42 h45 hW hs hF hI hl
      refine lv_iload hx hb d_Sh_shareOf_19 (lv_at hl 0 rfl) ?_
      refine lv_bipush (v := nI 10) hx hb d_Sh_shareOf_21 (by decide) ?_
      refine hw_icmp_ge (tgt := 122) hx hb d_Sh_shareOf_23 (by decide) (by omega) (by omega) (fun c14 => ?_) (fun c14 => ?_)
      · exact absurd c14 (by omega)
      · have hwt_t := hwt t (by omega)
        have q1 := hs j (by omega)
        rw [← hN] at q1
        refine lv_aload_n hx hb d_Sh_shareOf_26 rfl (lv_at hl 5 rfl) ?_
        refine ob_get S hI hW.Sh (C := R_Sh) (T := F_Sh) (N := 7) (ref := "WallFractions$Sharing") rfl i_Sh 4 (by decide) rfl w_167 rfl d_Sh_shareOf_27 ?_
        refine lv_aload_n hx hb d_Sh_shareOf_30 rfl (lv_at hl 4 rfl) ?_
        refine hw_cV (As := [.ref (o j)]) (rest := []) S hI m_Wh_copyFrom w_751 (c_Wh_copyFrom l D t0 L _ _ o r 46 xx 43 j (by omega) hY hW.N (by omega)) (hW.rc (i := 43) (by omega)).choose_spec rfl hl.1 rfl rfl (Nat.le_of_ble_eq_true rfl) d_Sh_shareOf_31 ⟨Nat.le_of_ble_eq_true rfl, Nat.le_of_ble_eq_true rfl⟩ ⟨Nat.le_of_ble_eq_true rfl, Nat.le_of_ble_eq_true rfl⟩ (fun v9 L9 f15 H locs hp hI => ?_)
        refine W.cs (cells' := 0) (slots' := 0) rfl rfl ?_
        obtain ⟨hv9, rfl, hN9, hf9⟩ := hp
        cases hv9
        refine hw_stk (st' := []) rfl ?_
        have hF := hF.wh (fun q h9 _ _ _ => hf9 q (h9 43 (by omega)).1 (h9 43 (by omega)).2)
        obtain ⟨x15, hW, e9, s9⟩ := (hW.wh hN9 (fun q h9 => hf9 q (h9 43 (by omega)).1 (h9 43 (by omega)).2)).cut
        have n9 : x15 43 = N := by rw [e9, q1]
        have e42 : x15 42 = al9 := (s9 42 (by omega)).trans e42
        have e43 : x15 43 = N := n9
        have hs := fun z (hz : z < 32) => (s9 z (by omega)).trans (hs z hz)
        have h45 := fun h => (s9 45 (by omega)).trans (h45 h)
        refine lv_aload_n hx hb d_Sh_shareOf_34 rfl (lv_at hl 5 rfl) ?_
        refine ob_get S hI hW.Sh (C := R_Sh) (T := F_Sh) (N := 7) (ref := "WallFractions$Sharing") rfl i_Sh 4 (by decide) rfl w_167 rfl d_Sh_shareOf_35 ?_
        refine lv_aload_n hx hb d_Sh_shareOf_38 rfl (lv_at hl 5 rfl) ?_
        refine ob_get S hI hW.Sh (C := R_Sh) (T := F_Sh) (N := 7) (ref := "WallFractions$Sharing") rfl i_Sh 1 (by decide) rfl w_164 rfl d_Sh_shareOf_39 ?_
        refine lv_iload hx hb d_Sh_shareOf_42 (lv_at hl 0 rfl) ?_
        refine ia_ld S hI hW.Wt (by decide) (by omega) d_Sh_shareOf_44 ?_
        refine lv_i2l (v := lN (wt t)) hx hb d_Sh_shareOf_45 (nI_l (by omega)) ?_
        refine lv_lconst (v := lN 0) hx hb d_Sh_shareOf_46 rfl ?_
        refine hw_cV (As := [.long (lN (wt t)), .long (lN 0)]) (rest := []) S hI m_Wh_grow w_752 (c_Wh_grow l D t0 L _ _ o r 46 x15 43 (wt t) 0 (by omega) hY hW.N (by rw [e43]; omega) (by omega) nB_pos) (hW.rc (i := 43) (by omega)).choose_spec rfl hl.1 rfl rfl (Nat.le_of_ble_eq_true rfl) d_Sh_shareOf_47 ⟨Nat.le_of_ble_eq_true rfl, Nat.le_of_ble_eq_true rfl⟩ ⟨Nat.le_of_ble_eq_true rfl, Nat.le_of_ble_eq_true rfl⟩ (fun v9 L9 f16 H locs hp hI => ?_)
        refine W.cs (cells' := 0) (slots' := 0) rfl rfl ?_
        obtain ⟨hv9, rfl, hN9, hf9⟩ := hp
        cases hv9
        refine hw_stk (st' := []) rfl ?_
        have hF := hF.wh (fun q h9 _ _ _ => hf9 q (h9 43 (by omega)).1 (h9 43 (by omega)).2)
        obtain ⟨x16, hW, e9, s9⟩ := (hW.wh hN9 (fun q h9 => hf9 q (h9 43 (by omega)).1 (h9 43 (by omega)).2)).cut
        have n9 : x16 43 = N * wt t := by rw [e9, e43, Nat.add_zero]
        have e42 : x16 42 = al9 := (s9 42 (by omega)).trans e42
        have e43 : x16 43 = N * wt t := n9
        have hs := fun z (hz : z < 32) => (s9 z (by omega)).trans (hs z hz)
        have h45 := fun h => (s9 45 (by omega)).trans (h45 h)
        refine lv_aload_n hx hb d_Sh_shareOf_50 rfl (lv_at hl 5 rfl) ?_
        refine ob_get S hI hW.Sh (C := R_Sh) (T := F_Sh) (N := 7) (ref := "WallFractions$Sharing") rfl i_Sh 0 (by decide) rfl w_163 rfl d_Sh_shareOf_51 ?_
        refine lv_aload_n hx hb d_Sh_shareOf_54 rfl (lv_at hl 5 rfl) ?_
        refine ob_get S hI hW.Sh (C := R_Sh) (T := F_Sh) (N := 7) (ref := "WallFractions$Sharing") rfl i_Sh 4 (by decide) rfl w_167 rfl d_Sh_shareOf_55 ?_
        refine lv_aload_n hx hb d_Sh_shareOf_58 rfl (lv_at hl 5 rfl) ?_
        refine ob_get S hI hW.Sh (C := R_Sh) (T := F_Sh) (N := 7) (ref := "WallFractions$Sharing") rfl i_Sh 3 (by decide) rfl w_166 rfl d_Sh_shareOf_59 ?_
        refine lv_aload_n hx hb d_Sh_shareOf_62 rfl (lv_at hl 5 rfl) ?_
        refine ob_get S hI hW.Sh (C := R_Sh) (T := F_Sh) (N := 7) (ref := "WallFractions$Sharing") rfl i_Sh 4 (by decide) rfl w_167 rfl d_Sh_shareOf_63 ?_
        refine lv_aload_n hx hb d_Sh_shareOf_66 rfl (lv_at hl 5 rfl) ?_
        refine ob_get S hI hW.Sh (C := R_Sh) (T := F_Sh) (N := 7) (ref := "WallFractions$Sharing") rfl i_Sh 5 (by decide) rfl w_168 rfl d_Sh_shareOf_67 ?_
        obtain ⟨u9, w9, hA9, hU9, hWb9⟩ := hW.Dv
        refine hw_cV (As := [.ref (o 43), .ref (o 42), .ref (o 43), .ref (o 44)]) (rest := []) S hI m_Dv_split w_753 (c_Dv_split l D t0 L _ _ o r 46 x16 ad al ab u9 w9 43 42 43 44 hY hW.N hA9 hU9 hWb9 hg.2.1 hW.off.1 hW.off.2.1 (by omega) (by omega) (by omega) (by omega) (by omega) (by rw [e42]; exact hall)) hA9 rfl hl.1 rfl rfl (Nat.le_of_ble_eq_true rfl) d_Sh_shareOf_70 ⟨Nat.le_of_ble_eq_true rfl, Nat.le_of_ble_eq_true rfl⟩ ⟨Nat.le_of_ble_eq_true rfl, Nat.le_of_ble_eq_true rfl⟩ (fun v9 L9 f17 H locs hp hI => ?_)
        refine W.cs (cells' := 0) (slots' := 0) rfl rfl ?_
        obtain ⟨hv9, rfl, hN9, hd9, hf9⟩ := hp
        cases hv9
        refine hw_stk (st' := []) rfl ?_
        have hF := hF.wh (fun q h9 h7 h8 _ => hf9 q (h9 43 (by omega)).1 (h9 43 (by omega)).2 (h9 44 (by omega)).1 (h9 44 (by omega)).2 h7 h8)
        obtain ⟨x17, hW, e9, e8, s9⟩ := (hW.sp hN9 hd9 (fun q h9 h7 h8 => hf9 q (h9 43 (by omega)).1 (h9 43 (by omega)).2 (h9 44 (by omega)).1 (h9 44 (by omega)).2 h7 h8)).cut2 (by omega)
        have n9 : x17 43 = N * wt t / al9 := by rw [e9, e43, e42]
        have n8 : x17 44 = N * wt t % al9 := by rw [e8, e43, e42]
        have e42 : x17 42 = al9 := (s9 42 (by omega) (by omega)).trans e42
        have e43 : x17 43 = N * wt t / al9 := n9
        have e44 : x17 44 = N * wt t % al9 := n8
        have hs := fun z (hz : z < 32) => (s9 z (by omega) (by omega)).trans (hs z hz)
        have h45 := fun h => (s9 45 (by omega) (by omega)).trans (h45 h)
        have e44 : x17 44 = shR N wt t := by rw [e44]; unfold shR; rw [hal9]
        have hRt := hR t
        refine lv_aload_n hx hb d_Sh_shareOf_73 rfl (lv_at hl 5 rfl) ?_
        refine ob_get S hI hW.Sh (C := R_Sh) (T := F_Sh) (N := 7) (ref := "WallFractions$Sharing") rfl i_Sh 2 (by decide) rfl w_165 rfl d_Sh_shareOf_74 ?_
        refine lv_iload hx hb d_Sh_shareOf_77 (lv_at hl 0 rfl) ?_
        refine lv_aload_n hx hb d_Sh_shareOf_79 rfl (lv_at hl 5 rfl) ?_
        refine ob_get S hI hW.Sh (C := R_Sh) (T := F_Sh) (N := 7) (ref := "WallFractions$Sharing") rfl i_Sh 5 (by decide) rfl w_168 rfl d_Sh_shareOf_80 ?_
        refine hw_cV (As := []) (rest := [.int (nI t), .ref (ar)]) S hI m_Wh_lowest w_754 (c_Wh_lowest l D t0 L _ _ o r 46 x17 44 (by omega) hY hW.N (by rw [e44]; omega)) (hW.rc (i := 44) (by omega)).choose_spec rfl hl.1 rfl rfl (Nat.le_of_ble_eq_true rfl) d_Sh_shareOf_83 ⟨Nat.le_of_ble_eq_true rfl, Nat.le_of_ble_eq_true rfl⟩ ⟨Nat.le_of_ble_eq_true rfl, Nat.le_of_ble_eq_true rfl⟩ (fun v9 L9 f18 H locs hp hI => ?_)
        refine W.cs (cells' := 0) (slots' := 0) rfl rfl ?_
        obtain ⟨hv9, rfl, rfl⟩ := hp
        cases hv9
        refine hw_stk (st' := [.long (lN (x17 44)), .int (nI t), .ref (ar)]) rfl ?_
        refine hw_tl (show _ = lN (shR N wt t) from by rw [e44]) ?_
        refine ar_st S hI hW.Rs (by decide) (by omega) d_Sh_shareOf_86 (fun f19 H locs hI hR9 hf9 => ?_)
        have hF := hF.rs hf9
        have hW := hW.prs hf9 hR9
        have hrr2 : ∀ i, i < t + 1 → va_up rr t (shR N wt t) i = shR N wt i := fun i hi => by by_cases e9 : i = t; (subst e9; rw [hw_up_eq]); (rw [hw_up_ne e9]; exact hrr i (by omega))
        refine lv_lload hx hb d_Sh_shareOf_87 (lv_at hl 1 rfl) ?_
        refine lv_aload_n hx hb d_Sh_shareOf_89 rfl (lv_at hl 5 rfl) ?_
        refine ob_get S hI hW.Sh (C := R_Sh) (T := F_Sh) (N := 7) (ref := "WallFractions$Sharing") rfl i_Sh 2 (by decide) rfl w_165 rfl d_Sh_shareOf_90 ?_
        refine lv_iload hx hb d_Sh_shareOf_93 (lv_at hl 0 rfl) ?_
        refine ar_ld S hI hW.Rs (by decide) (by omega) d_Sh_shareOf_95 ?_
        refine hw_tl (show _ = lN (shR N wt t) from by rw [hw_up_eq]) ?_
        refine lv_ladd hx hb d_Sh_shareOf_96 ?_
        refine hw_tl (lN_add _ _) ?_
        refine lv_lstore (lv' := [(5, .long (lN (tt + (shR N wt t)))), (7, .int (nI t)), (3, .long (lN al9)), (2, .int (nI k)), (1, .ref (o j)), (0, .ref (ah))]) hx hb d_Sh_shareOf_97 hl (by decide) rfl (fun ls hl => ?_)
        refine lv_iload hx hb d_Sh_shareOf_99 (lv_at hl 1 rfl) ?_
        refine lv_iload_n hx hb d_Sh_shareOf_101 rfl (lv_at hl 3 rfl) ?_
        refine hw_icmp_ne (tgt := 116) hx hb d_Sh_shareOf_102 (by decide) (by omega) (by omega) (fun c20 => ?_) (fun c20 => ?_)
        · refine lv_iinc (v := nI (t + 1)) (lv' := [(7, .int (nI (t + 1))), (5, .long (lN (tt + (shR N wt t)))), (3, .long (lN al9)), (2, .int (nI k)), (1, .ref (o j)), (0, .ref (ah))]) hx hb d_Sh_shareOf_116 hl (k := 1) rfl (nI_1 _) (by decide) rfl (fun ls hl => ?_)
          refine lv_goto (tgt := 19) hx hb d_Sh_shareOf_119 (by decide) ?_
          exact ih (t + 1) (tt + shR N wt t) _ _ _ _ _ _ (by omega) (by rw [htt]; rfl) hrr2 e42 (fun h => h45 (by omega)) hW hs hF hI hl
        · refine lv_aload_n hx hb d_Sh_shareOf_105 rfl (lv_at hl 5 rfl) ?_
          refine ob_get S hI hW.Sh (C := R_Sh) (T := F_Sh) (N := 7) (ref := "WallFractions$Sharing") rfl i_Sh 6 (by decide) rfl w_169 rfl d_Sh_shareOf_106 ?_
          refine lv_aload_n hx hb d_Sh_shareOf_109 rfl (lv_at hl 5 rfl) ?_
          refine ob_get S hI hW.Sh (C := R_Sh) (T := F_Sh) (N := 7) (ref := "WallFractions$Sharing") rfl i_Sh 4 (by decide) rfl w_167 rfl d_Sh_shareOf_110 ?_
          refine hw_cV (As := [.ref (o 43)]) (rest := []) S hI m_Wh_copyFrom w_751 (c_Wh_copyFrom l D t0 L _ _ o r 46 x17 45 43 (by omega) hY hW.N (by omega)) (hW.rc (i := 45) (by omega)).choose_spec rfl hl.1 rfl rfl (Nat.le_of_ble_eq_true rfl) d_Sh_shareOf_113 ⟨Nat.le_of_ble_eq_true rfl, Nat.le_of_ble_eq_true rfl⟩ ⟨Nat.le_of_ble_eq_true rfl, Nat.le_of_ble_eq_true rfl⟩ (fun v9 L9 f21 H locs hp hI => ?_)
          refine W.cs (cells' := 0) (slots' := 0) rfl rfl ?_
          obtain ⟨hv9, rfl, hN9, hf9⟩ := hp
          cases hv9
          refine hw_stk (st' := []) rfl ?_
          have hF := hF.wh (fun q h9 _ _ _ => hf9 q (h9 45 (by omega)).1 (h9 45 (by omega)).2)
          obtain ⟨x21, hW, e9, s9⟩ := (hW.wh hN9 (fun q h9 => hf9 q (h9 45 (by omega)).1 (h9 45 (by omega)).2)).cut
          have n9 : x21 45 = N * wt t / al9 := by rw [e9, e43]
          have e42 : x21 42 = al9 := (s9 42 (by omega)).trans e42
          have e43 : x21 43 = N * wt t / al9 := (s9 43 (by omega)).trans e43
          have e44 : x21 44 = shR N wt t := (s9 44 (by omega)).trans e44
          have e45 : x21 45 = N * wt t / al9 := n9
          have hs := fun z (hz : z < 32) => (s9 z (by omega)).trans (hs z hz)
          refine lv_iinc (v := nI (t + 1)) (lv' := [(7, .int (nI (t + 1))), (5, .long (lN (tt + (shR N wt t)))), (3, .long (lN al9)), (2, .int (nI k)), (1, .ref (o j)), (0, .ref (ah))]) hx hb d_Sh_shareOf_116 hl (k := 1) rfl (nI_1 _) (by decide) rfl (fun ls hl => ?_)
          refine lv_goto (tgt := 19) hx hb d_Sh_shareOf_119 (by decide) ?_
          exact ih (t + 1) (tt + shR N wt t) _ _ _ _ _ _ (by omega) (by rw [htt]; rfl) hrr2 e42 (fun _ => by rw [e45, c20]) hW hs hF hI hl
  refine lv_iconst (v := nI 0) hx hb d_Sh_shareOf_16 (by decide) ?_
  refine lv_istore (lv' := [(7, .int (nI 0)), (5, .long (lN 0)), (3, .long (lN al9)), (0, .ref (ah)), (1, .ref (o j)), (2, .int (nI k))]) hx hb d_Sh_shareOf_17 hl (by decide) rfl (fun ls hl => ?_)
  exact loop 10 0 0 _ _ _ _ _ _ (by omega) rfl (fun i hi => absurd hi (by omega)) e42 (fun h => absurd h (by omega)) hW hs hF hI (lv_sub hl [0, 1, 2, 5, 4, 3] rfl)

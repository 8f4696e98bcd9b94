set_option maxHeartbeats 4000000 in
set_option maxRecDepth 100000 in
theorem c_Dv_lay (l : Launch) (D : va_G) (t0 : Nat) (L : List Nat) (f : Nat → va_E) (sz : Nat) (o r : Nat → Nat) (N : Nat) (v : Nat → Nat × (Nat → Nat)) (j a : Nat) (u : Nat → Nat) (sc : Nat) (hj : j < N) (hV : AllW D L f o r N v) (hU : arrN D L f a 42 u) (hra : ∀ z, z < N → a ≠ r z) (hn : (v j).1 ≤ 41) (hB : ∀ q, (v j).2 q < nB) (hsc : sc ≤ nB) : Met l y_Dv_lay (Cond.code y_Dv_lay b_Dv_lay 9 none :: TT) ({ frames := 0, cells := 0, slots := 0, locals := 0 } : Room) (hw_Pc t0 [.ref (o j), .long (lN sc), .ref (a)] D L f sz) (hw_Q D L sz (fun oc L' f' => oc = .returned none ∧ L = L' ∧ ∃ u', arrN D L f' a 42 u' ∧ (∀ q, q ≤ (v j).1 → u' q < nB) ∧ nvb nB u' ((v j).1 + 1) = nvb nB (v j).2 (v j).1 * sc ∧ ∀ q, q ≠ a → f' q = f q)) 0 0 (hw_A L sz) := by
  refine Met.ofW (cc := b_Dv_lay) (maxL := 9) (ret := none) (by decide) rfl ?_
  intro p e s m args below meth c s₁ B hml hv
  obtain ⟨rfl, rfl, hI⟩ := hw_start hv
  clear hv
  have hx := B.exec
  have hb := B.bytes
  have hr := B.returns
  have hlocks := B.notSynchronized
  have hown : s.vm.findClass "WallFractions$Divider" = some m.cls := findClass_of_methodNamed B.named
  have hT : ∀ w ∈ TT, w.before ([.ref (o j), .long (lN sc), .ref (a)]).toArray s = true := fun w h => atoms_spec (ws := (Cond.code y_Dv_lay b_Dv_lay 9 none :: TT)) B.pre w (List.mem_cons_of_mem _ h)
  have S : CallFix p m c b_Dv_lay 9 s ([.ref (o j), .long (lN sc), .ref (a)]).toArray TT "WallFractions$Divider" := ⟨hx, hb, hml, hown, hT⟩
  have hl := lv_entry ([.ref (o j), .long (lN sc), .ref (a)]) (n := 9) (Nat.le_of_ble_eq_true rfl)
  rw [lg_entry_eq]
  generalize (lg_sl ([.ref (o j), .long (lN sc), .ref (a)]) ++ List.replicate (9 - (lg_sl ([.ref (o j), .long (lN sc), .ref (a)])).length) Slot.unset).toArray = ls at hl ⊢
  have hl : lv_has ls 9 [(0, .ref (o j)), (1, .long (lN sc)), (3, .ref (a))] := hl
  skip
  have hnB : nB = 1000000000 := rfl
  obtain ⟨M, hM⟩ : ∃ M, M = (v j).1 := ⟨_, rfl⟩
  have hVo : ∀ z, z < N → o z ≠ a := fun z hz => hV.ne hU hz
  have loop : ∀ (g t cr : Nat) (u1 : Nat → Nat) (f1 : Nat → va_E) (H : Heap) (locs : List Loc) (ls : Array Slot), t + g = M → cr < nB → (∀ q, q < t → u1 q < nB) → nvb nB u1 t + cr * nB ^ t = nvb nB (v j).2 t * sc → AllW D L f1 o r N v → arrN D L f1 a 42 u1 → (∀ q, q ≠ a → f1 q = f q) → hw_I D t0 (hw_A L s.heap.size) s L f1 H locs → lv_has ls 9 [(6, .int (nI t)), (4, .long (lN cr)), (0, .ref (o j)), (1, .long (lN sc)), (3, .ref (a))] → W p l e (headSpec (Cond.code y_Dv_lay b_Dv_lay 9 none :: TT) ({ frames := 0, cells := 0, slots := 0, locals := 0 } : Room)).room s m ([.ref (o j), .long (lN sc), .ref (a)]).toArray below meth c H locs 0 0 (MQ below (hw_Q D L s.heap.size (fun oc L' f' => oc = .returned none ∧ L = L' ∧ ∃ u', arrN D L f' a 42 u' ∧ (∀ q, q ≤ (v j).1 → u' q < nB) ∧ nvb nB u' ((v j).1 + 1) = nvb nB (v j).2 (v j).1 * sc ∧ ∀ q, q ≠ a → f' q = f q)) ([.ref (o j), .long (lN sc), .ref (a)]).toArray s 0 0 (hw_A L s.heap.size)) (F0 m 6 ls []) := by
    intro g
    induction g with
    | zero =>
      intro t cr u1 f1 H locs ls htg hcr hB1 hS hV hU hF hI hl
      refine lv_iload hx hb d_Dv_lay_6 (lv_at hl 0 rfl) ?_
      refine lv_aload_n hx hb d_Dv_lay_8 rfl (lv_at hl 2 rfl) ?_
      refine wh_sizeN S hI hV hj (by decide) d_Dv_lay_9 ?_
      refine hw_ti (show _ = nI M from by rw [hM]) ?_
      refine hw_icmp_ge (tgt := 56) hx hb d_Dv_lay_12 (by decide) (by omega) (by omega) (fun c1 => ?_) (fun c1 => ?_)
      · refine lv_aload_n hx hb d_Dv_lay_56 rfl (lv_at hl 4 rfl) ?_
        refine lv_aload_n hx hb d_Dv_lay_57 rfl (lv_at hl 2 rfl) ?_
        refine wh_sizeN S hI hV hj (by decide) d_Dv_lay_58 ?_
        refine hw_ti (show _ = nI M from by rw [hM]) ?_
        refine lv_lload hx hb d_Dv_lay_61 (lv_at hl 1 rfl) ?_
        refine ar_st S hI hU (by decide) (by omega) d_Dv_lay_63 (fun f2 H locs hI hU hf2 => ?_)
        have hF := fun q (h1 : q ≠ a) => (hf2 q h1).trans (hF q h1)
        have hV := hV.fr (fun z hz => ⟨hf2 _ (hVo z hz), hf2 _ (fun e9 => hra z hz e9.symm)⟩)
        have htM : t = M := by omega
        rw [htM] at hS hB1
        exact hw_vret hx hb hr hlocks hI d_Dv_lay_64 ⟨rfl, rfl, _, hU, (fun q hq => by by_cases e9 : q = M; (subst e9; rw [hw_up_eq]; exact hcr); (rw [hw_up_ne e9]; exact hB1 q (by omega))), by rw [← hM, nvb_upS]; exact hS, hF⟩
      · exact absurd c1 (by omega)
    | succ g ih =>
      intro t cr u1 f1 H locs ls htg hcr hB1 hS hV hU hF hI hl
      refine lv_iload hx hb d_Dv_lay_6 (lv_at hl 0 rfl) ?_
      refine lv_aload_n hx hb d_Dv_lay_8 rfl (lv_at hl 2 rfl) ?_
      refine wh_sizeN S hI hV hj (by decide) d_Dv_lay_9 ?_
      refine hw_ti (show _ = nI M from by rw [hM]) ?_
      refine hw_icmp_ge (tgt := 56) hx hb d_Dv_lay_12 (by decide) (by omega) (by omega) (fun c3 => ?_) (fun c3 => ?_)
      · exact absurd c3 (by omega)
      · have hvt := hB t
        have hpr : (v j).2 t * sc ≤ (nB - 1) * nB := Nat.mul_le_mul (by omega) hsc
        have hnn : nB * nB = 1000000000000000000 := rfl
        have hn2 : (nB - 1) * nB = 999999999000000000 := rfl
        have hq : ((v j).2 t * sc + cr) / nB < nB := (Nat.div_lt_iff_lt_mul nB_pos).mpr (by omega)
        have hdm := Nat.div_add_mod ((v j).2 t * sc + cr) nB
        have hml9 := Nat.mod_lt ((v j).2 t * sc + cr) nB_pos
        rw [Nat.mul_comm] at hdm
        refine lv_aload_n hx hb d_Dv_lay_15 rfl (lv_at hl 2 rfl) ?_
        refine wh_limbsN S hI hV hj (by decide) d_Dv_lay_16 ?_
        refine lv_iload hx hb d_Dv_lay_19 (lv_at hl 0 rfl) ?_
        refine wh_ld S hI hV hj (by omega) d_Dv_lay_21 ?_
        refine lv_lload_n hx hb d_Dv_lay_22 rfl (lv_at hl 3 rfl) ?_
        refine lv_lmul hx hb d_Dv_lay_23 ?_
        refine hw_tl (lN_mul _ _) ?_
        refine lv_lload hx hb d_Dv_lay_24 (lv_at hl 1 rfl) ?_
        refine lv_ladd hx hb d_Dv_lay_26 ?_
        refine hw_tl (lN_add _ _) ?_
        refine lv_lstore (lv' := [(7, .long (lN ((((v j).2 t) * sc) + cr))), (6, .int (nI t)), (4, .long (lN cr)), (0, .ref (o j)), (1, .long (lN sc)), (3, .ref (a))]) hx hb d_Dv_lay_27 hl (by decide) rfl (fun ls hl => ?_)
        refine lv_lload hx hb d_Dv_lay_29 (lv_at hl 0 rfl) ?_
        refine hw_ldc2 (v := lN nB) hx hb hown (hT _ w_482) d_Dv_lay_31 ?_
        refine lv_ldiv hx hb d_Dv_lay_34 (by intro h9; have h8 := (pk_lEQ (b := 0) (by omega) (by decide)).mp h9; omega) ?_
        refine hw_tl (pk_lDiv (by omega) (by omega) (by omega)) ?_
        refine lv_lstore (lv' := [(4, .long (lN (((((v j).2 t) * sc) + cr) / nB))), (7, .long (lN ((((v j).2 t) * sc) + cr))), (6, .int (nI t)), (0, .ref (o j)), (1, .long (lN sc)), (3, .ref (a))]) hx hb d_Dv_lay_35 hl (by decide) rfl (fun ls hl => ?_)
        refine lv_aload_n hx hb d_Dv_lay_37 rfl (lv_at hl 5 rfl) ?_
        refine lv_iload hx hb d_Dv_lay_38 (lv_at hl 2 rfl) ?_
        refine lv_lload hx hb d_Dv_lay_40 (lv_at hl 1 rfl) ?_
        refine lv_lload hx hb d_Dv_lay_42 (lv_at hl 0 rfl) ?_
        refine hw_ldc2 (v := lN nB) hx hb hown (hT _ w_482) d_Dv_lay_44 ?_
        refine lv_lmul hx hb d_Dv_lay_47 ?_
        refine hw_tl (lN_mul _ _) ?_
        refine lv_lsub hx hb d_Dv_lay_48 ?_
        refine hw_tl (lN_sub (by omega)) ?_
        refine ar_st S hI hU (by decide) (by omega) d_Dv_lay_49 (fun f4 H locs hI hU hf4 => ?_)
        have hF := fun q (h1 : q ≠ a) => (hf4 q h1).trans (hF q h1)
        have hV := hV.fr (fun z hz => ⟨hf4 _ (hVo z hz), hf4 _ (fun e9 => hra z hz e9.symm)⟩)
        refine lv_iinc (v := nI (t + 1)) (lv' := [(6, .int (nI (t + 1))), (4, .long (lN (((((v j).2 t) * sc) + cr) / nB))), (7, .long (lN ((((v j).2 t) * sc) + cr))), (0, .ref (o j)), (1, .long (lN sc)), (3, .ref (a))]) hx hb d_Dv_lay_50 hl (k := 2) rfl (nI_1 _) (by decide) rfl (fun ls hl => ?_)
        refine lv_goto (tgt := 6) hx hb d_Dv_lay_53 (by decide) ?_
        exact ih (t + 1) (((v j).2 t * sc + cr) / nB) _ _ _ _ _ (by omega) hq (fun q hq => by by_cases e9 : q = t; (subst e9; rw [hw_up_eq]; omega); (rw [hw_up_ne e9]; exact hB1 q (by omega))) (by rw [nvb_digit (w := (v j).2 t * sc) hS (by omega), nvb_succ, Nat.add_mul]; grind) hV hU hF hI (lv_sub hl [0, 1, 3, 4, 5] rfl)
  refine lv_lconst (v := lN 0) hx hb d_Dv_lay_0 rfl ?_
  refine lv_lstore (lv' := [(4, .long (lN 0)), (0, .ref (o j)), (1, .long (lN sc)), (3, .ref (a))]) hx hb d_Dv_lay_1 hl (by decide) rfl (fun ls hl => ?_)
  refine lv_iconst (v := nI 0) hx hb d_Dv_lay_3 (by decide) ?_
  refine lv_istore (lv' := [(6, .int (nI 0)), (4, .long (lN 0)), (0, .ref (o j)), (1, .long (lN sc)), (3, .ref (a))]) hx hb d_Dv_lay_4 hl (by decide) rfl (fun ls hl => ?_)
  exact loop M 0 0 u _ _ _ _ (by omega) nB_pos (fun q hq => absurd hq (by omega)) (by simp [nvb_zero]) hV hU (fun _ _ => rfl) hI hl
set_option maxHeartbeats 4000000 in
set_option maxRecDepth 100000 in
theorem c_Dv_guess (l : Launch) (D : va_G) (t0 : Nat) (L : List Nat) (f : Nat → va_E) (sz : Nat) (ad al ab : Nat) (u w : Nat → Nat) (p9 n W9 U0 V0 U V : Nat) (hA : hw_c L f ad (.inr (0, [.ref al, .ref ab]))) (hU : arrN D L f al 42 u) (hWb : arrN D L f ab 42 w) (hab : al ≠ ab) (hn : 2 ≤ n) (hpn : p9 + n ≤ 41) (hu : ∀ q, q ≤ n → u (p9 + q) < nB) (hw : ∀ q, q < n → w q < nB) (hK : kd_at nB (w (n - 1)) (w (n - 2)) (u (p9 + n) * nB + u (p9 + n - 1)) (u (p9 + n - 2)) W9 U0 V0 U V) : Met l y_Dv_guess (Cond.code y_Dv_guess b_Dv_guess 11 (some .long) :: TT) ({ frames := 0, cells := 0, slots := 0, locals := 0 } : Room) (hw_Pc t0 [.ref (ad), .int (nI p9), .int (nI n)] D L f sz) (hw_Q D L sz (fun oc L' f' => (∃ t, oc = .returned (some (.long (lN t))) ∧ U / V ≤ t ∧ t ≤ U / V + 1 ∧ t < nB) ∧ L = L' ∧ f = f')) 0 0 (hw_A L sz) := by
  refine Met.ofW (cc := b_Dv_guess) (maxL := 11) (ret := (some .long)) (by decide) rfl ?_
  intro p e s m args below meth c s₁ B hml hv
  obtain ⟨rfl, rfl, hI⟩ := hw_start hv
  clear hv
  have hx := B.exec
  have hb := B.bytes
  have hr := B.returns
  have hlocks := B.notSynchronized
  have hown : s.vm.findClass "WallFractions$Divider" = some m.cls := findClass_of_methodNamed B.named
  have hT : ∀ w ∈ TT, w.before ([.ref (ad), .int (nI p9), .int (nI n)]).toArray s = true := fun w h => atoms_spec (ws := (Cond.code y_Dv_guess b_Dv_guess 11 (some .long) :: TT)) B.pre w (List.mem_cons_of_mem _ h)
  have S : CallFix p m c b_Dv_guess 11 s ([.ref (ad), .int (nI p9), .int (nI n)]).toArray TT "WallFractions$Divider" := ⟨hx, hb, hml, hown, hT⟩
  have hl := lv_entry ([.ref (ad), .int (nI p9), .int (nI n)]) (n := 11) (Nat.le_of_ble_eq_true rfl)
  rw [lg_entry_eq]
  generalize (lg_sl ([.ref (ad), .int (nI p9), .int (nI n)]) ++ List.replicate (11 - (lg_sl ([.ref (ad), .int (nI p9), .int (nI n)])).length) Slot.unset).toArray = ls at hl ⊢
  have hl : lv_has ls 11 [(0, .ref (ad)), (1, .int (nI p9)), (2, .int (nI n))] := hl
  skip
  have hnB : nB = 1000000000 := rfl
  have hnn : nB * nB = 1000000000000000000 := rfl
  obtain ⟨hi, hhi⟩ : ∃ hi, hi = u (p9 + n) * nB + u (p9 + n - 1) := ⟨_, rfl⟩
  obtain ⟨wt, hwt⟩ : ∃ wt, wt = w (n - 1) := ⟨_, rfl⟩
  obtain ⟨w2, hw2⟩ : ∃ w2, w2 = w (n - 2) := ⟨_, rfl⟩
  obtain ⟨u2, hu2⟩ : ∃ u2, u2 = u (p9 + n - 2) := ⟨_, rfl⟩
  rw [← hhi, ← hwt, ← hw2, ← hu2] at hK
  have hx1 := hu n (Nat.le_refl _)
  have hx2 := hu (n - 1) (by omega)
  rw [show p9 + (n - 1) = p9 + n - 1 by omega] at hx2
  have hpr : u (p9 + n) * nB ≤ (nB - 1) * nB := Nat.mul_le_mul_right _ (by omega)
  have hn2 : (nB - 1) * nB = 999999999000000000 := rfl
  have hhiB : hi < nB * nB := by omega
  have hwtB : wt < nB := hK.2.2.1
  have hw2B : w2 < nB := hK.2.2.2.1
  have hu2B : u2 < nB := hK.2.2.2.2.1
  have hwt0 : 0 < wt := by have := hK.2.1; omega
  have hq := hK.q
  have hhat := hK.hat
  have htop := hK.top
  have hdml := Nat.div_mul_le_self hi wt
  have loop : ∀ (g ci t ov : Nat) (f1 : Nat → va_E) (H : Heap) (locs : List Loc) (ls : Array Slot), ci + g = 2 → ov + t * wt = hi → U / V ≤ t → t + ci = hi / wt → f = f1 → hw_I D t0 (hw_A L s.heap.size) s L f1 H locs → lv_has ls 11 [(10, .int (nI ci)), (8, .long (lN ov)), (6, .long (lN t)), (4, .long (lN hi)), (3, .int (nI (p9 + n))), (0, .ref (ad)), (1, .int (nI p9)), (2, .int (nI n))] → W p l e (headSpec (Cond.code y_Dv_guess b_Dv_guess 11 (some .long) :: TT) ({ frames := 0, cells := 0, slots := 0, locals := 0 } : Room)).room s m ([.ref (ad), .int (nI p9), .int (nI n)]).toArray below meth c H locs 0 0 (MQ below (hw_Q D L s.heap.size (fun oc L' f' => (∃ t, oc = .returned (some (.long (lN t))) ∧ U / V ≤ t ∧ t ≤ U / V + 1 ∧ t < nB) ∧ L = L' ∧ f = f')) ([.ref (ad), .int (nI p9), .int (nI n)]).toArray s 0 0 (hw_A L s.heap.size)) (F0 m 57 ls []) := by
    intro g
    induction g with
    | zero =>
      intro ci t ov f1 H locs ls hcg hov hqt htc hf hI hl
      subst hf
      refine lv_iload hx hb d_Dv_guess_57 (lv_at hl 0 rfl) ?_
      refine lv_iconst (v := nI 2) hx hb d_Dv_guess_59 (by decide) ?_
      refine hw_icmp_ge (tgt := 139) hx hb d_Dv_guess_60 (by decide) (by omega) (by omega) (fun c5 => ?_) (fun c5 => ?_)
      · have ht9 : t ≤ U / V := by have := hhat.2; omega
        refine lv_lload hx hb d_Dv_guess_139 (lv_at hl 2 rfl) ?_
        exact hw_lret hx hb hr hlocks hI d_Dv_guess_141 ⟨⟨t, rfl, hqt, by omega, by omega⟩, rfl, rfl⟩
      · exact absurd c5 (by omega)
    | succ g ih =>
      intro ci t ov f1 H locs ls hcg hov hqt htc hf hI hl
      subst hf
      refine lv_iload hx hb d_Dv_guess_57 (lv_at hl 0 rfl) ?_
      refine lv_iconst (v := nI 2) hx hb d_Dv_guess_59 (by decide) ?_
      refine hw_icmp_ge (tgt := 139) hx hb d_Dv_guess_60 (by decide) (by omega) (by omega) (fun c6 => ?_) (fun c6 => ?_)
      · exact absurd c6 (by omega)
      · have hovB : ov ≤ hi := by omega
        refine lv_lload hx hb d_Dv_guess_63 (lv_at hl 1 rfl) ?_
        refine hw_ldc2 (v := lN nB) hx hb hown (hT _ w_482) d_Dv_guess_65 ?_
        refine hw_l_ge (tgt := 139) hx hb d_Dv_guess_68 d_Dv_guess_69 (by decide) (fun c7 => ?_) (fun c7 => ?_)
        · have ho := (pk_lLE (by omega) (by omega)).mp c7
          have hg := hK.wide hov ho
          refine lv_lload hx hb d_Dv_guess_139 (lv_at hl 2 rfl) ?_
          exact hw_lret hx hb hr hlocks hI d_Dv_guess_141 ⟨⟨t, rfl, hqt, hK.good hov hg.1 hg.2, hg.1⟩, rfl, rfl⟩
        · have ho := (pk_lLT (by omega) (by omega)).mp c7
          have ht1 : t ≤ nB + 1 := by have := hhat.1; omega
          refine lv_lload hx hb d_Dv_guess_72 (lv_at hl 2 rfl) ?_
          refine hw_ldc2 (v := lN nB) hx hb hown (hT _ w_482) d_Dv_guess_74 ?_
          refine hw_l_ge (tgt := 114) hx hb d_Dv_guess_77 d_Dv_guess_78 (by decide) (fun c8 => ?_) (fun c8 => ?_)
          · have hb9 := (pk_lLE (by omega) (by omega)).mp c8
            have hd := hK.down hov hqt (fun h => absurd h.1 (by omega))
            have hov2 : ov + wt + (t - 1) * wt = hi := by rw [Nat.sub_mul, Nat.one_mul]; have : 1 * wt ≤ t * wt := Nat.mul_le_mul_right _ hd.1; omega
            refine lv_lload hx hb d_Dv_guess_114 (lv_at hl 2 rfl) ?_
            refine lv_lconst (v := lN 1) hx hb d_Dv_guess_116 rfl ?_
            refine lv_lsub hx hb d_Dv_guess_117 ?_
            refine hw_tl (lN_sub (by omega)) ?_
            refine lv_lstore (lv' := [(6, .long (lN (t - 1))), (10, .int (nI ci)), (8, .long (lN ov)), (4, .long (lN hi)), (3, .int (nI (p9 + n))), (0, .ref (ad)), (1, .int (nI p9)), (2, .int (nI n))]) hx hb d_Dv_guess_118 hl (by decide) rfl (fun ls hl => ?_)
            refine lv_lload hx hb d_Dv_guess_120 (lv_at hl 2 rfl) ?_
            refine lv_aload_n hx hb d_Dv_guess_122 rfl (lv_at hl 5 rfl) ?_
            refine dv_by S hI hA d_Dv_guess_123 ?_
            refine lv_iload_n hx hb d_Dv_guess_126 rfl (lv_at hl 7 rfl) ?_
            refine lv_iconst (v := nI 1) hx hb d_Dv_guess_127 (by decide) ?_
            refine lv_isub hx hb d_Dv_guess_128 ?_
            refine hw_ti (pk_sub (by omega)) ?_
            refine ar_ld S hI hWb (by decide) (by omega) d_Dv_guess_129 ?_
            refine hw_tl (show _ = lN wt from by rw [hwt]) ?_
            refine lv_ladd hx hb d_Dv_guess_130 ?_
            refine hw_tl (lN_add _ _) ?_
            refine lv_lstore (lv' := [(8, .long (lN (ov + wt))), (6, .long (lN (t - 1))), (10, .int (nI ci)), (4, .long (lN hi)), (3, .int (nI (p9 + n))), (0, .ref (ad)), (1, .int (nI p9)), (2, .int (nI n))]) hx hb d_Dv_guess_131 hl (by decide) rfl (fun ls hl => ?_)
            refine lv_iinc (v := nI (ci + 1)) (lv' := [(10, .int (nI (ci + 1))), (8, .long (lN (ov + wt))), (6, .long (lN (t - 1))), (4, .long (lN hi)), (3, .int (nI (p9 + n))), (0, .ref (ad)), (1, .int (nI p9)), (2, .int (nI n))]) hx hb d_Dv_guess_133 hl (k := 2) rfl (nI_1 _) (by decide) rfl (fun ls hl => ?_)
            refine lv_goto (tgt := 57) hx hb d_Dv_guess_136 (by decide) ?_
            exact ih (ci + 1) (t - 1) (ov + wt) _ _ _ _ (by omega) hov2 hd.2 (by omega) rfl hI hl
          · have hb9 := (pk_lLT (by omega) (by omega)).mp c8
            have hm1 : t * w2 ≤ nB * nB := Nat.mul_le_mul (by omega) (by omega)
            have hm2 : ov * nB ≤ nB * nB := Nat.mul_le_mul_right _ (by omega)
            refine lv_lload hx hb d_Dv_guess_81 (lv_at hl 2 rfl) ?_
            refine lv_aload_n hx hb d_Dv_guess_83 rfl (lv_at hl 5 rfl) ?_
            refine dv_by S hI hA d_Dv_guess_84 ?_
            refine lv_iload_n hx hb d_Dv_guess_87 rfl (lv_at hl 7 rfl) ?_
            refine lv_iconst (v := nI 2) hx hb d_Dv_guess_88 (by decide) ?_
            refine lv_isub hx hb d_Dv_guess_89 ?_
            refine hw_ti (pk_sub (by omega)) ?_
            refine ar_ld S hI hWb (by decide) (by omega) d_Dv_guess_90 ?_
            refine hw_tl (show _ = lN w2 from by rw [hw2]) ?_
            refine lv_lmul hx hb d_Dv_guess_91 ?_
            refine hw_tl (lN_mul _ _) ?_
            refine lv_lload hx hb d_Dv_guess_92 (lv_at hl 1 rfl) ?_
            refine hw_ldc2 (v := lN nB) hx hb hown (hT _ w_482) d_Dv_guess_94 ?_
            refine lv_lmul hx hb d_Dv_guess_97 ?_
            refine hw_tl (lN_mul _ _) ?_
            refine lv_aload_n hx hb d_Dv_guess_98 rfl (lv_at hl 5 rfl) ?_
            refine dv_left S hI hA d_Dv_guess_99 ?_
            refine lv_iload_n hx hb d_Dv_guess_102 rfl (lv_at hl 4 rfl) ?_
            refine lv_iconst (v := nI 2) hx hb d_Dv_guess_103 (by decide) ?_
            refine lv_isub hx hb d_Dv_guess_104 ?_
            refine hw_ti (pk_sub (by omega)) ?_
            refine ar_ld S hI hU (by decide) (by omega) d_Dv_guess_105 ?_
            refine hw_tl (show _ = lN u2 from by rw [hu2]) ?_
            refine lv_ladd hx hb d_Dv_guess_106 ?_
            refine hw_tl (lN_add _ _) ?_
            refine hw_l_gt (tgt := 114) hx hb d_Dv_guess_107 d_Dv_guess_108 (by decide) (fun c9 => ?_) (fun c9 => ?_)
            · have hc9 := (pk_lLT (by omega) (by omega)).mp c9
              have hd := hK.down hov hqt (fun h => absurd h.2 (by omega))
              have hov2 : ov + wt + (t - 1) * wt = hi := by rw [Nat.sub_mul, Nat.one_mul]; have : 1 * wt ≤ t * wt := Nat.mul_le_mul_right _ hd.1; omega
              refine lv_lload hx hb d_Dv_guess_114 (lv_at hl 2 rfl) ?_
              refine lv_lconst (v := lN 1) hx hb d_Dv_guess_116 rfl ?_
              refine lv_lsub hx hb d_Dv_guess_117 ?_
              refine hw_tl (lN_sub (by omega)) ?_
              refine lv_lstore (lv' := [(6, .long (lN (t - 1))), (10, .int (nI ci)), (8, .long (lN ov)), (4, .long (lN hi)), (3, .int (nI (p9 + n))), (0, .ref (ad)), (1, .int (nI p9)), (2, .int (nI n))]) hx hb d_Dv_guess_118 hl (by decide) rfl (fun ls hl => ?_)
              refine lv_lload hx hb d_Dv_guess_120 (lv_at hl 2 rfl) ?_
              refine lv_aload_n hx hb d_Dv_guess_122 rfl (lv_at hl 5 rfl) ?_
              refine dv_by S hI hA d_Dv_guess_123 ?_
              refine lv_iload_n hx hb d_Dv_guess_126 rfl (lv_at hl 7 rfl) ?_
              refine lv_iconst (v := nI 1) hx hb d_Dv_guess_127 (by decide) ?_
              refine lv_isub hx hb d_Dv_guess_128 ?_
              refine hw_ti (pk_sub (by omega)) ?_
              refine ar_ld S hI hWb (by decide) (by omega) d_Dv_guess_129 ?_
              refine hw_tl (show _ = lN wt from by rw [hwt]) ?_
              refine lv_ladd hx hb d_Dv_guess_130 ?_
              refine hw_tl (lN_add _ _) ?_
              refine lv_lstore (lv' := [(8, .long (lN (ov + wt))), (6, .long (lN (t - 1))), (10, .int (nI ci)), (4, .long (lN hi)), (3, .int (nI (p9 + n))), (0, .ref (ad)), (1, .int (nI p9)), (2, .int (nI n))]) hx hb d_Dv_guess_131 hl (by decide) rfl (fun ls hl => ?_)
              refine lv_iinc (v := nI (ci + 1)) (lv' := [(10, .int (nI (ci + 1))), (8, .long (lN (ov + wt))), (6, .long (lN (t - 1))), (4, .long (lN hi)), (3, .int (nI (p9 + n))), (0, .ref (ad)), (1, .int (nI p9)), (2, .int (nI n))]) hx hb d_Dv_guess_133 hl (k := 2) rfl (nI_1 _) (by decide) rfl (fun ls hl => ?_)
              refine lv_goto (tgt := 57) hx hb d_Dv_guess_136 (by decide) ?_
              exact ih (ci + 1) (t - 1) (ov + wt) _ _ _ _ (by omega) hov2 hd.2 (by omega) rfl hI hl
            · have hc9 := (pk_lLE (by omega) (by omega)).mp c9
              refine lv_goto (tgt := 139) hx hb d_Dv_guess_111 (by decide) ?_
              refine lv_lload hx hb d_Dv_guess_139 (lv_at hl 2 rfl) ?_
              exact hw_lret hx hb hr hlocks hI d_Dv_guess_141 ⟨⟨t, rfl, hqt, hK.good hov hb9 hc9, hb9⟩, rfl, rfl⟩
  refine lv_iload_n hx hb d_Dv_guess_0 rfl (lv_at hl 1 rfl) ?_
  refine lv_iload_n hx hb d_Dv_guess_1 rfl (lv_at hl 2 rfl) ?_
  refine lv_iadd hx hb d_Dv_guess_2 ?_
  refine hw_ti (nI_add _ _) ?_
  refine lv_istore_n (lv' := [(3, .int (nI (p9 + n))), (0, .ref (ad)), (1, .int (nI p9)), (2, .int (nI n))]) hx hb d_Dv_guess_3 rfl hl (by decide) rfl (fun ls hl => ?_)
  refine lv_aload_n hx hb d_Dv_guess_4 rfl (lv_at hl 1 rfl) ?_
  refine dv_left S hI hA d_Dv_guess_5 ?_
  refine lv_iload_n hx hb d_Dv_guess_8 rfl (lv_at hl 0 rfl) ?_
  refine ar_ld S hI hU (by decide) (by omega) d_Dv_guess_9 ?_
  refine hw_ldc2 (v := lN nB) hx hb hown (hT _ w_482) d_Dv_guess_10 ?_
  refine lv_lmul hx hb d_Dv_guess_13 ?_
  refine hw_tl (lN_mul _ _) ?_
  refine lv_aload_n hx hb d_Dv_guess_14 rfl (lv_at hl 1 rfl) ?_
  refine dv_left S hI hA d_Dv_guess_15 ?_
  refine lv_iload_n hx hb d_Dv_guess_18 rfl (lv_at hl 0 rfl) ?_
  refine lv_iconst (v := nI 1) hx hb d_Dv_guess_19 (by decide) ?_
  refine lv_isub hx hb d_Dv_guess_20 ?_
  refine hw_ti (pk_sub (by omega)) ?_
  refine ar_ld S hI hU (by decide) (by omega) d_Dv_guess_21 ?_
  refine lv_ladd hx hb d_Dv_guess_22 ?_
  refine hw_tl (lN_add _ _) ?_
  refine hw_tl (show _ = lN hi from by rw [hhi]) ?_
  refine lv_lstore (lv' := [(4, .long (lN hi)), (3, .int (nI (p9 + n))), (0, .ref (ad)), (1, .int (nI p9)), (2, .int (nI n))]) hx hb d_Dv_guess_23 hl (by decide) rfl (fun ls hl => ?_)
  refine lv_lload hx hb d_Dv_guess_25 (lv_at hl 0 rfl) ?_
  refine lv_aload_n hx hb d_Dv_guess_27 rfl (lv_at hl 2 rfl) ?_
  refine dv_by S hI hA d_Dv_guess_28 ?_
  refine lv_iload_n hx hb d_Dv_guess_31 rfl (lv_at hl 4 rfl) ?_
  refine lv_iconst (v := nI 1) hx hb d_Dv_guess_32 (by decide) ?_
  refine lv_isub hx hb d_Dv_guess_33 ?_
  refine hw_ti (pk_sub (by omega)) ?_
  refine ar_ld S hI hWb (by decide) (by omega) d_Dv_guess_34 ?_
  refine hw_tl (show _ = lN wt from by rw [hwt]) ?_
  refine lv_ldiv hx hb d_Dv_guess_35 (by intro h9; have h8 := (pk_lEQ (b := 0) (by omega) (by decide)).mp h9; omega) ?_
  refine hw_tl (pk_lDiv (by omega) (by omega) (by omega)) ?_
  refine lv_lstore (lv' := [(6, .long (lN (hi / wt))), (4, .long (lN hi)), (3, .int (nI (p9 + n))), (0, .ref (ad)), (1, .int (nI p9)), (2, .int (nI n))]) hx hb d_Dv_guess_36 hl (by decide) rfl (fun ls hl => ?_)
  refine lv_lload hx hb d_Dv_guess_38 (lv_at hl 1 rfl) ?_
  refine lv_lload hx hb d_Dv_guess_40 (lv_at hl 0 rfl) ?_
  refine lv_aload_n hx hb d_Dv_guess_42 rfl (lv_at hl 3 rfl) ?_
  refine dv_by S hI hA d_Dv_guess_43 ?_
  refine lv_iload_n hx hb d_Dv_guess_46 rfl (lv_at hl 5 rfl) ?_
  refine lv_iconst (v := nI 1) hx hb d_Dv_guess_47 (by decide) ?_
  refine lv_isub hx hb d_Dv_guess_48 ?_
  refine hw_ti (pk_sub (by omega)) ?_
  refine ar_ld S hI hWb (by decide) (by omega) d_Dv_guess_49 ?_
  refine hw_tl (show _ = lN wt from by rw [hwt]) ?_
  refine lv_lmul hx hb d_Dv_guess_50 ?_
  refine hw_tl (lN_mul _ _) ?_
  refine lv_lsub hx hb d_Dv_guess_51 ?_
  refine hw_tl (lN_sub (by omega)) ?_
  refine lv_lstore (lv' := [(8, .long (lN (hi - ((hi / wt) * wt)))), (6, .long (lN (hi / wt))), (4, .long (lN hi)), (3, .int (nI (p9 + n))), (0, .ref (ad)), (1, .int (nI p9)), (2, .int (nI n))]) hx hb d_Dv_guess_52 hl (by decide) rfl (fun ls hl => ?_)
  refine lv_iconst (v := nI 0) hx hb d_Dv_guess_54 (by decide) ?_
  refine lv_istore (lv' := [(10, .int (nI 0)), (8, .long (lN (hi - ((hi / wt) * wt)))), (6, .long (lN (hi / wt))), (4, .long (lN hi)), (3, .int (nI (p9 + n))), (0, .ref (ad)), (1, .int (nI p9)), (2, .int (nI n))]) hx hb d_Dv_guess_55 hl (by decide) rfl (fun ls hl => ?_)
  exact loop 2 0 (hi / wt) (hi - hi / wt * wt) _ _ _ _ rfl (by omega) htop rfl rfl hI hl
set_option maxHeartbeats 4000000 in
set_option maxRecDepth 100000 in
theorem c_Dv_putBack (l : Launch) (D : va_G) (t0 : Nat) (L : List Nat) (f : Nat → va_E) (sz : Nat) (ad al ab : Nat) (u w : Nat → Nat) (p9 n : Nat) (hA : hw_c L f ad (.inr (0, [.ref al, .ref ab]))) (hU : arrN D L f al 42 u) (hWb : arrN D L f ab 42 w) (hab : al ≠ ab) (hpn : p9 + n ≤ 41) (hu : ∀ q, q < n → u (p9 + q) < nB) (hw : ∀ q, q < n → w q < nB) : Met l y_Dv_putBack (Cond.code y_Dv_putBack b_Dv_putBack 8 none :: TT) ({ frames := 0, cells := 0, slots := 0, locals := 0 } : Room) (hw_Pc t0 [.ref (ad), .int (nI p9), .int (nI n)] D L f sz) (hw_Q D L sz (fun oc L' f' => oc = .returned none ∧ L = L' ∧ ∃ u' cr, arrN D L f' al 42 u' ∧ cr ≤ 1 ∧ (∀ q, q < n → u' (p9 + q) < nB) ∧ nvb nB (nsh u' p9) n + cr * nB ^ n = nvb nB (nsh u p9) n + nvb nB w n ∧ u' (p9 + n) = u (p9 + n) + cr ∧ (∀ q, q < p9 ∨ p9 + n < q → u' q = u q) ∧ ∀ q, q ≠ al → f' q = f q)) 0 0 (hw_A L sz) := by
  refine Met.ofW (cc := b_Dv_putBack) (maxL := 8) (ret := none) (by decide) rfl ?_
  intro p e s m args below meth c s₁ B hml hv
  obtain ⟨rfl, rfl, hI⟩ := hw_start hv
  clear hv
  have hx := B.exec
  have hb := B.bytes
  have hr := B.returns
  have hlocks := B.notSynchronized
  have hown : s.vm.findClass "WallFractions$Divider" = some m.cls := findClass_of_methodNamed B.named
  have hT : ∀ w ∈ TT, w.before ([.ref (ad), .int (nI p9), .int (nI n)]).toArray s = true := fun w h => atoms_spec (ws := (Cond.code y_Dv_putBack b_Dv_putBack 8 none :: TT)) B.pre w (List.mem_cons_of_mem _ h)
  have S : CallFix p m c b_Dv_putBack 8 s ([.ref (ad), .int (nI p9), .int (nI n)]).toArray TT "WallFractions$Divider" := ⟨hx, hb, hml, hown, hT⟩
  have hl := lv_entry ([.ref (ad), .int (nI p9), .int (nI n)]) (n := 8) (Nat.le_of_ble_eq_true rfl)
  rw [lg_entry_eq]
  generalize (lg_sl ([.ref (ad), .int (nI p9), .int (nI n)]) ++ List.replicate (8 - (lg_sl ([.ref (ad), .int (nI p9), .int (nI n)])).length) Slot.unset).toArray = ls at hl ⊢
  have hl : lv_has ls 8 [(0, .ref (ad)), (1, .int (nI p9)), (2, .int (nI n))] := hl
  skip
  have hnB : nB = 1000000000 := rfl
  have hadl : ad ≠ al := fun e9 => hw_ne hU hA e9.symm
  have loop : ∀ (g t cr : Nat) (u1 : Nat → Nat) (f1 : Nat → va_E) (H : Heap) (locs : List Loc) (ls : Array Slot), t + g = n → cr ≤ 1 → (∀ q, q < t → u1 (p9 + q) < nB) → (∀ q, q < p9 ∨ p9 + t ≤ q → u1 q = u q) → nvb nB (nsh u1 p9) t + cr * nB ^ t = nvb nB (nsh u p9) t + nvb nB w t → hw_c L f1 ad (.inr (0, [.ref al, .ref ab])) → arrN D L f1 al 42 u1 → arrN D L f1 ab 42 w → (∀ q, q ≠ al → f1 q = f q) → hw_I D t0 (hw_A L s.heap.size) s L f1 H locs → lv_has ls 8 [(5, .int (nI t)), (3, .long (lN cr)), (0, .ref (ad)), (1, .int (nI p9)), (2, .int (nI n))] → W p l e (headSpec (Cond.code y_Dv_putBack b_Dv_putBack 8 none :: TT) ({ frames := 0, cells := 0, slots := 0, locals := 0 } : Room)).room s m ([.ref (ad), .int (nI p9), .int (nI n)]).toArray below meth c H locs 0 0 (MQ below (hw_Q D L s.heap.size (fun oc L' f' => oc = .returned none ∧ L = L' ∧ ∃ u' cr, arrN D L f' al 42 u' ∧ cr ≤ 1 ∧ (∀ q, q < n → u' (p9 + q) < nB) ∧ nvb nB (nsh u' p9) n + cr * nB ^ n = nvb nB (nsh u p9) n + nvb nB w n ∧ u' (p9 + n) = u (p9 + n) + cr ∧ (∀ q, q < p9 ∨ p9 + n < q → u' q = u q) ∧ ∀ q, q ≠ al → f' q = f q)) ([.ref (ad), .int (nI p9), .int (nI n)]).toArray s 0 0 (hw_A L s.heap.size)) (F0 m 5 ls []) := by
    intro g
    induction g with
    | zero =>
      intro t cr u1 f1 H locs ls htg hcr hB1 hO1 hS hA hU hWb hF hI hl
      refine lv_iload hx hb d_Dv_putBack_5 (lv_at hl 0 rfl) ?_
      refine lv_iload_n hx hb d_Dv_putBack_7 rfl (lv_at hl 4 rfl) ?_
      refine hw_icmp_ge (tgt := 70) hx hb d_Dv_putBack_8 (by decide) (by omega) (by omega) (fun c10 => ?_) (fun c10 => ?_)
      · have htn : t = n := by omega
        rw [htn] at hS hB1 hO1
        refine lv_aload_n hx hb d_Dv_putBack_70 rfl (lv_at hl 2 rfl) ?_
        refine dv_left S hI hA d_Dv_putBack_71 ?_
        refine lv_iload_n hx hb d_Dv_putBack_74 rfl (lv_at hl 3 rfl) ?_
        refine lv_iload_n hx hb d_Dv_putBack_75 rfl (lv_at hl 4 rfl) ?_
        refine lv_iadd hx hb d_Dv_putBack_76 ?_
        refine hw_ti (nI_add _ _) ?_
        refine lv_dup2_11 hx hb d_Dv_putBack_77 rfl rfl ?_
        refine ar_ld S hI hU (by decide) (by omega) d_Dv_putBack_78 ?_
        refine lv_lload_n hx hb d_Dv_putBack_79 rfl (lv_at hl 1 rfl) ?_
        refine lv_ladd hx hb d_Dv_putBack_80 ?_
        refine hw_tl (lN_add _ _) ?_
        refine ar_st S hI hU (by decide) (by omega) d_Dv_putBack_81 (fun f11 H locs hI hU hf11 => ?_)
        have hF := fun q (h1 : q ≠ al) => (hf11 q h1).trans (hF q h1)
        have hA := hA.fr (hf11 _ hadl)
        have hWb : arrN D L f11 ab 42 w := hWb.fr (hf11 _ (fun e9 => hab e9.symm))
        exact hw_vret hx hb hr hlocks hI d_Dv_putBack_82 ⟨rfl, rfl, _, cr, hU, hcr, (fun q hq => by rw [hw_up_ne (by omega)]; exact hB1 q hq), by rw [nsh_up, nvb_up (Nat.le_refl _)]; exact hS, by rw [hw_up_eq, hO1 _ (by omega)], (fun q hq => by rw [hw_up_ne (by omega)]; exact hO1 q (by omega)), hF⟩
      · exact absurd c10 (by omega)
    | succ g ih =>
      intro t cr u1 f1 H locs ls htg hcr hB1 hO1 hS hA hU hWb hF hI hl
      refine lv_iload hx hb d_Dv_putBack_5 (lv_at hl 0 rfl) ?_
      refine lv_iload_n hx hb d_Dv_putBack_7 rfl (lv_at hl 4 rfl) ?_
      refine hw_icmp_ge (tgt := 70) hx hb d_Dv_putBack_8 (by decide) (by omega) (by omega) (fun c12 => ?_) (fun c12 => ?_)
      · exact absurd c12 (by omega)
      · have hut := hu t (by omega)
        have hwt := hw t (by omega)
        have he := hO1 (p9 + t) (by omega)
        refine lv_aload_n hx hb d_Dv_putBack_11 rfl (lv_at hl 2 rfl) ?_
        refine dv_left S hI hA d_Dv_putBack_12 ?_
        refine lv_iload_n hx hb d_Dv_putBack_15 rfl (lv_at hl 3 rfl) ?_
        refine lv_iload hx hb d_Dv_putBack_16 (lv_at hl 0 rfl) ?_
        refine lv_iadd hx hb d_Dv_putBack_18 ?_
        refine hw_ti (nI_add _ _) ?_
        refine ar_ld S hI hU (by decide) (by omega) d_Dv_putBack_19 ?_
        refine hw_tl (show _ = lN (u (p9 + t)) from by rw [he]) ?_
        refine lv_aload_n hx hb d_Dv_putBack_20 rfl (lv_at hl 2 rfl) ?_
        refine dv_by S hI hA d_Dv_putBack_21 ?_
        refine lv_iload hx hb d_Dv_putBack_24 (lv_at hl 0 rfl) ?_
        refine ar_ld S hI hWb (by decide) (by omega) d_Dv_putBack_26 ?_
        refine lv_ladd hx hb d_Dv_putBack_27 ?_
        refine hw_tl (lN_add _ _) ?_
        refine lv_lload_n hx hb d_Dv_putBack_28 rfl (lv_at hl 1 rfl) ?_
        refine lv_ladd hx hb d_Dv_putBack_29 ?_
        refine hw_tl (lN_add _ _) ?_
        refine lv_lstore (lv' := [(6, .long (lN (((u (p9 + t)) + (w t)) + cr))), (5, .int (nI t)), (3, .long (lN cr)), (0, .ref (ad)), (1, .int (nI p9)), (2, .int (nI n))]) hx hb d_Dv_putBack_30 hl (by decide) rfl (fun ls hl => ?_)
        refine lv_lload hx hb d_Dv_putBack_32 (lv_at hl 0 rfl) ?_
        refine hw_ldc2 (v := lN nB) hx hb hown (hT _ w_482) d_Dv_putBack_34 ?_
        refine hw_l_lt (tgt := 45) hx hb d_Dv_putBack_37 d_Dv_putBack_38 (by decide) (fun c13 => ?_) (fun c13 => ?_)
        · have hc : u (p9 + t) + w t + cr < nB := (pk_lLT (by omega) (by omega)).mp c13
          refine lv_lconst (v := lN 0) hx hb d_Dv_putBack_45 rfl ?_
          refine lv_lstore_n (lv' := [(3, .long (lN 0)), (6, .long (lN (((u (p9 + t)) + (w t)) + cr))), (5, .int (nI t)), (0, .ref (ad)), (1, .int (nI p9)), (2, .int (nI n))]) hx hb d_Dv_putBack_46 rfl hl (by decide) rfl (fun ls hl => ?_)
          refine lv_aload_n hx hb d_Dv_putBack_47 rfl (lv_at hl 3 rfl) ?_
          refine dv_left S hI hA d_Dv_putBack_48 ?_
          refine lv_iload_n hx hb d_Dv_putBack_51 rfl (lv_at hl 4 rfl) ?_
          refine lv_iload hx hb d_Dv_putBack_52 (lv_at hl 2 rfl) ?_
          refine lv_iadd hx hb d_Dv_putBack_54 ?_
          refine hw_ti (nI_add _ _) ?_
          refine lv_lload hx hb d_Dv_putBack_55 (lv_at hl 1 rfl) ?_
          refine lv_lload_n hx hb d_Dv_putBack_57 rfl (lv_at hl 0 rfl) ?_
          refine hw_ldc2 (v := lN nB) hx hb hown (hT _ w_482) d_Dv_putBack_58 ?_
          refine lv_lmul hx hb d_Dv_putBack_61 ?_
          refine hw_tl (lN_mul _ _) ?_
          refine lv_lsub hx hb d_Dv_putBack_62 ?_
          refine hw_tl (lN_sub (by omega)) ?_
          refine ar_st S hI hU (by decide) (by omega) d_Dv_putBack_63 (fun f14 H locs hI hU hf14 => ?_)
          have hF := fun q (h1 : q ≠ al) => (hf14 q h1).trans (hF q h1)
          have hA := hA.fr (hf14 _ hadl)
          have hWb : arrN D L f14 ab 42 w := hWb.fr (hf14 _ (fun e9 => hab e9.symm))
          refine lv_iinc (v := nI (t + 1)) (lv' := [(5, .int (nI (t + 1))), (3, .long (lN 0)), (6, .long (lN (((u (p9 + t)) + (w t)) + cr))), (0, .ref (ad)), (1, .int (nI p9)), (2, .int (nI n))]) hx hb d_Dv_putBack_64 hl (k := 2) rfl (nI_1 _) (by decide) rfl (fun ls hl => ?_)
          refine lv_goto (tgt := 5) hx hb d_Dv_putBack_67 (by decide) ?_
          exact ih (t + 1) 0 _ _ _ _ _ (by omega) (by omega) (fun q hq => by by_cases e9 : q = t; (subst e9; rw [hw_up_eq]; omega); (rw [hw_up_ne (by omega)]; exact hB1 q (by omega))) (fun q hq => by rw [hw_up_ne (by omega)]; exact hO1 q (by omega)) (by rw [nsh_up, nvb_digit (w := u (p9 + t) + w t) hS (by omega), nvb_succ, nvb_succ, Nat.add_mul]; unfold nsh; omega) hA hU hWb hF hI (lv_sub hl [0, 1, 3, 4, 5] rfl)
        · have hc : nB ≤ u (p9 + t) + w t + cr := (pk_lLE (by omega) (by omega)).mp c13
          refine lv_lconst (v := lN 1) hx hb d_Dv_putBack_41 rfl ?_
          refine lv_goto (tgt := 46) hx hb d_Dv_putBack_42 (by decide) ?_
          refine lv_lstore_n (lv' := [(3, .long (lN 1)), (6, .long (lN (((u (p9 + t)) + (w t)) + cr))), (5, .int (nI t)), (0, .ref (ad)), (1, .int (nI p9)), (2, .int (nI n))]) hx hb d_Dv_putBack_46 rfl hl (by decide) rfl (fun ls hl => ?_)
          refine lv_aload_n hx hb d_Dv_putBack_47 rfl (lv_at hl 3 rfl) ?_
          refine dv_left S hI hA d_Dv_putBack_48 ?_
          refine lv_iload_n hx hb d_Dv_putBack_51 rfl (lv_at hl 4 rfl) ?_
          refine lv_iload hx hb d_Dv_putBack_52 (lv_at hl 2 rfl) ?_
          refine lv_iadd hx hb d_Dv_putBack_54 ?_
          refine hw_ti (nI_add _ _) ?_
          refine lv_lload hx hb d_Dv_putBack_55 (lv_at hl 1 rfl) ?_
          refine lv_lload_n hx hb d_Dv_putBack_57 rfl (lv_at hl 0 rfl) ?_
          refine hw_ldc2 (v := lN nB) hx hb hown (hT _ w_482) d_Dv_putBack_58 ?_
          refine lv_lmul hx hb d_Dv_putBack_61 ?_
          refine hw_tl (lN_mul _ _) ?_
          refine lv_lsub hx hb d_Dv_putBack_62 ?_
          refine hw_tl (lN_sub (by omega)) ?_
          refine ar_st S hI hU (by decide) (by omega) d_Dv_putBack_63 (fun f15 H locs hI hU hf15 => ?_)
          have hF := fun q (h1 : q ≠ al) => (hf15 q h1).trans (hF q h1)
          have hA := hA.fr (hf15 _ hadl)
          have hWb : arrN D L f15 ab 42 w := hWb.fr (hf15 _ (fun e9 => hab e9.symm))
          refine lv_iinc (v := nI (t + 1)) (lv' := [(5, .int (nI (t + 1))), (3, .long (lN 1)), (6, .long (lN (((u (p9 + t)) + (w t)) + cr))), (0, .ref (ad)), (1, .int (nI p9)), (2, .int (nI n))]) hx hb d_Dv_putBack_64 hl (k := 2) rfl (nI_1 _) (by decide) rfl (fun ls hl => ?_)
          refine lv_goto (tgt := 5) hx hb d_Dv_putBack_67 (by decide) ?_
          exact ih (t + 1) 1 _ _ _ _ _ (by omega) (by omega) (fun q hq => by by_cases e9 : q = t; (subst e9; rw [hw_up_eq]; omega); (rw [hw_up_ne (by omega)]; exact hB1 q (by omega))) (fun q hq => by rw [hw_up_ne (by omega)]; exact hO1 q (by omega)) (by rw [nsh_up, nvb_digit (w := u (p9 + t) + w t) hS (by omega), nvb_succ, nvb_succ, Nat.add_mul]; unfold nsh; omega) hA hU hWb hF hI (lv_sub hl [0, 1, 3, 4, 5] rfl)
  refine lv_lconst (v := lN 0) hx hb d_Dv_putBack_0 rfl ?_
  refine lv_lstore_n (lv' := [(3, .long (lN 0)), (0, .ref (ad)), (1, .int (nI p9)), (2, .int (nI n))]) hx hb d_Dv_putBack_1 rfl hl (by decide) rfl (fun ls hl => ?_)
  refine lv_iconst (v := nI 0) hx hb d_Dv_putBack_2 (by decide) ?_
  refine lv_istore (lv' := [(5, .int (nI 0)), (3, .long (lN 0)), (0, .ref (ad)), (1, .int (nI p9)), (2, .int (nI n))]) hx hb d_Dv_putBack_3 hl (by decide) rfl (fun ls hl => ?_)
  exact loop n 0 0 u _ _ _ _ (by omega) (by omega) (fun q hq => absurd hq (by omega)) (fun _ _ => rfl) (by simp [nvb_zero]) hA hU hWb (fun _ _ => rfl) hI hl

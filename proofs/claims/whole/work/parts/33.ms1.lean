set_option maxHeartbeats 4000000 in
set_option maxRecDepth 100000 in
theorem c_Ms_ofShort (l : Launch) (D : va_G) (t0 : Nat) (L : List Nat) (f : Nat → va_E) (sz : Nat) (a b : Nat) (ha : a < 2 ^ 63) (hb0 : b < 2 ^ 63) : Met l y_Ms_ofShort (Cond.code y_Ms_ofShort b_Ms_ofShort 11 (some .long) :: TT) ({ frames := 0, cells := 0, slots := 0, locals := 0 } : Room) (hw_Pc t0 [.long (lN a), .long (lN b)] D L f sz) (hw_Q D L sz (fun oc L' f' => oc = .returned (some (.long (lN (Nat.gcd a b)))) ∧ L = L' ∧ f = f')) 0 0 (hw_A L sz) := by
  refine Met.ofW (cc := b_Ms_ofShort) (maxL := 11) (ret := (some .long)) (by decide) rfl ?_
  intro p e s m args below meth c s₁ B hml hv
  obtain ⟨rfl, rfl, hI⟩ := hw_start hv
  clear hv
  have hx := B.exec
  have hb := B.bytes
  have hr := B.returns
  have hlocks := B.notSynchronized
  have hown : s.vm.findClass "WallFractions$Measure" = some m.cls := findClass_of_methodNamed B.named
  have hT : ∀ w ∈ TT, w.before ([.long (lN a), .long (lN b)]).toArray s = true := fun w h => atoms_spec (ws := (Cond.code y_Ms_ofShort b_Ms_ofShort 11 (some .long) :: TT)) B.pre w (List.mem_cons_of_mem _ h)
  have S : CallFix p m c b_Ms_ofShort 11 s ([.long (lN a), .long (lN b)]).toArray TT "WallFractions$Measure" := ⟨hx, hb, hml, hown, hT⟩
  have hl := lv_entry ([.long (lN a), .long (lN b)]) (n := 11) (Nat.le_of_ble_eq_true rfl)
  rw [lg_entry_eq]
  generalize (lg_sl ([.long (lN a), .long (lN b)]) ++ List.replicate (11 - (lg_sl ([.long (lN a), .long (lN b)])).length) Slot.unset).toArray = ls at hl ⊢
  have hl : lv_has ls 11 [(0, .long (lN a)), (2, .long (lN b))] := hl
  skip
  have hC : a * b < 2 ^ 127 := Nat.lt_of_le_of_lt (Nat.mul_le_mul (Nat.le_of_lt ha) (Nat.le_of_lt hb0)) (by decide)
  have loop : ∀ (g t u q : Nat) (f1 : Nat → va_E) (H : Heap) (locs : List Loc) (ls : Array Slot), t + g = 100000 → u < 2 ^ 63 → q < 2 ^ 63 → Nat.gcd u q = Nat.gcd a b → (u * q < 2 ^ 127 ∨ 0 < t) → sh_at (2 ^ 127) t u q → f = f1 → hw_I D t0 (hw_A L s.heap.size) s L f1 H locs → lv_has ls 11 [(8, .int (nI t)), (6, .long (lN q)), (4, .long (lN u))] → W p l e (headSpec (Cond.code y_Ms_ofShort b_Ms_ofShort 11 (some .long) :: TT) ({ frames := 0, cells := 0, slots := 0, locals := 0 } : Room)).room s m ([.long (lN a), .long (lN b)]).toArray below meth c H locs 0 0 (MQ below (hw_Q D L s.heap.size (fun oc L' f' => oc = .returned (some (.long (lN (Nat.gcd a b)))) ∧ L = L' ∧ f = f')) ([.long (lN a), .long (lN b)]).toArray s 0 0 (hw_A L s.heap.size)) (F0 m 9 ls []) := by
    intro g
    induction g with
    | zero =>
      intro t u q f1 H locs ls htg hu hq hg hC0 hs hf hI hl
      subst hf
      refine lv_iload hx hb d_Ms_ofShort_9 (lv_at hl 0 rfl) ?_
      refine hw_ldc (v := nI 100000) hx hb hown (hT _ w_309) d_Ms_ofShort_11 ?_
      refine hw_icmp_ge (tgt := 44) hx hb d_Ms_ofShort_13 (by decide) (by omega) (by omega) (fun c1 => ?_) (fun c1 => ?_)
      · have hq0 : q = 0 := sh_end (by omega) hs
        subst hq0
        rw [Nat.gcd_zero_right] at hg
        refine lv_lload hx hb d_Ms_ofShort_44 (lv_at hl 2 rfl) ?_
        exact hw_lret hx hb hr hlocks hI d_Ms_ofShort_46 ⟨by rw [hg], rfl, rfl⟩
      · refine lv_lload hx hb d_Ms_ofShort_16 (lv_at hl 1 rfl) ?_
        refine lv_lconst (v := lN 0) hx hb d_Ms_ofShort_18 rfl ?_
        refine hw_l_eq (tgt := 44) hx hb d_Ms_ofShort_19 d_Ms_ofShort_20 (by decide) (fun c2 => ?_) (fun c2 => ?_)
        · have hq0 : q = 0 := (lN0 hq).mp c2
          subst hq0
          rw [Nat.gcd_zero_right] at hg
          refine lv_lload hx hb d_Ms_ofShort_44 (lv_at hl 2 rfl) ?_
          exact hw_lret hx hb hr hlocks hI d_Ms_ofShort_46 ⟨by rw [hg], rfl, rfl⟩
        · have hq0 : q ≠ 0 := fun h => c2 ((lN0 hq).mpr h)
          exact absurd c1 (by omega)
    | succ g ih =>
      intro t u q f1 H locs ls htg hu hq hg hC0 hs hf hI hl
      subst hf
      refine lv_iload hx hb d_Ms_ofShort_9 (lv_at hl 0 rfl) ?_
      refine hw_ldc (v := nI 100000) hx hb hown (hT _ w_309) d_Ms_ofShort_11 ?_
      refine hw_icmp_ge (tgt := 44) hx hb d_Ms_ofShort_13 (by decide) (by omega) (by omega) (fun c3 => ?_) (fun c3 => ?_)
      · have hq0 : q = 0 := sh_end (by omega) hs
        subst hq0
        rw [Nat.gcd_zero_right] at hg
        refine lv_lload hx hb d_Ms_ofShort_44 (lv_at hl 2 rfl) ?_
        exact hw_lret hx hb hr hlocks hI d_Ms_ofShort_46 ⟨by rw [hg], rfl, rfl⟩
      · refine lv_lload hx hb d_Ms_ofShort_16 (lv_at hl 1 rfl) ?_
        refine lv_lconst (v := lN 0) hx hb d_Ms_ofShort_18 rfl ?_
        refine hw_l_eq (tgt := 44) hx hb d_Ms_ofShort_19 d_Ms_ofShort_20 (by decide) (fun c4 => ?_) (fun c4 => ?_)
        · have hq0 : q = 0 := (lN0 hq).mp c4
          subst hq0
          rw [Nat.gcd_zero_right] at hg
          refine lv_lload hx hb d_Ms_ofShort_44 (lv_at hl 2 rfl) ?_
          exact hw_lret hx hb hr hlocks hI d_Ms_ofShort_46 ⟨by rw [hg], rfl, rfl⟩
        · have hq0 : q ≠ 0 := fun h => c4 ((lN0 hq).mpr h)
          have hml9 := Nat.mod_lt u (show 0 < q by omega)
          refine lv_lload hx hb d_Ms_ofShort_23 (lv_at hl 2 rfl) ?_
          refine lv_lload hx hb d_Ms_ofShort_25 (lv_at hl 1 rfl) ?_
          refine lv_lrem hx hb d_Ms_ofShort_27 (by intro h9; have h8 := (pk_lEQ (b := 0) (by omega) (by decide)).mp h9; omega) ?_
          refine hw_tl (pk_lRem (by omega) (by omega) (by omega)) ?_
          refine lv_lstore (lv' := [(9, .long (lN (u % q))), (8, .int (nI t)), (6, .long (lN q)), (4, .long (lN u))]) hx hb d_Ms_ofShort_28 hl (by decide) rfl (fun ls hl => ?_)
          refine lv_lload hx hb d_Ms_ofShort_30 (lv_at hl 2 rfl) ?_
          refine lv_lstore (lv' := [(4, .long (lN q)), (9, .long (lN (u % q))), (8, .int (nI t)), (6, .long (lN q))]) hx hb d_Ms_ofShort_32 hl (by decide) rfl (fun ls hl => ?_)
          refine lv_lload hx hb d_Ms_ofShort_34 (lv_at hl 1 rfl) ?_
          refine lv_lstore (lv' := [(6, .long (lN (u % q))), (4, .long (lN q)), (9, .long (lN (u % q))), (8, .int (nI t))]) hx hb d_Ms_ofShort_36 hl (by decide) rfl (fun ls hl => ?_)
          refine lv_iinc (v := nI (t + 1)) (lv' := [(8, .int (nI (t + 1))), (6, .long (lN (u % q))), (4, .long (lN q)), (9, .long (lN (u % q)))]) hx hb d_Ms_ofShort_38 hl (k := 3) rfl (nI_1 _) (by decide) rfl (fun ls hl => ?_)
          refine lv_goto (tgt := 9) hx hb d_Ms_ofShort_41 (by decide) ?_
          exact ih (t + 1) q (u % q) _ _ _ _ (by omega) hq (by omega) (by rw [← hg, Nat.gcd_comm u q, Nat.gcd_rec q u, Nat.gcd_comm]) (Or.inr (by omega)) (sh_step (by omega) hC0 hs) rfl hI (lv_sub hl [0, 1, 2] rfl)
  refine lv_lload_n hx hb d_Ms_ofShort_0 rfl (lv_at hl 0 rfl) ?_
  refine lv_lstore (lv' := [(4, .long (lN a)), (0, .long (lN a)), (2, .long (lN b))]) hx hb d_Ms_ofShort_1 hl (by decide) rfl (fun ls hl => ?_)
  refine lv_lload_n hx hb d_Ms_ofShort_3 rfl (lv_at hl 2 rfl) ?_
  refine lv_lstore (lv' := [(6, .long (lN b)), (4, .long (lN a)), (0, .long (lN a)), (2, .long (lN b))]) hx hb d_Ms_ofShort_4 hl (by decide) rfl (fun ls hl => ?_)
  refine lv_iconst (v := nI 0) hx hb d_Ms_ofShort_6 (by decide) ?_
  refine lv_istore (lv' := [(8, .int (nI 0)), (6, .long (lN b)), (4, .long (lN a)), (0, .long (lN a)), (2, .long (lN b))]) hx hb d_Ms_ofShort_7 hl (by decide) rfl (fun ls hl => ?_)
  exact loop 100000 0 a b _ _ _ _ (by omega) ha hb0 rfl (Or.inl hC) (Or.inl rfl) rfl hI (lv_sub hl [0, 1, 2] rfl)
set_option maxHeartbeats 4000000 in
set_option maxRecDepth 100000 in
theorem c_Ms_shift (l : Launch) (D : va_G) (t0 : Nat) (L : List Nat) (f : Nat → va_E) (sz : Nat) (o r : Nat → Nat) (N : Nat) (am ad mq G Ls Rs : Nat) (ea eb ec ed : Int) (hY : Lay o r N) (hM : hw_c L f am (.inr (2, [.ref ad, .ref (o mq), .ref (o G), .ref (o Ls), .ref (o Rs), .long (zL ea), .long (zL eb), .long (zL ec), .long (zL ed)]))) : Met l y_Ms_shift (Cond.code y_Ms_shift b_Ms_shift 2 none :: TT) ({ frames := 0, cells := 0, slots := 0, locals := 0 } : Room) (hw_Pc t0 [.ref (am)] D L f sz) (hw_Q D L sz (fun oc L' f' => oc = .returned none ∧ L = L' ∧ hw_c L f' am (.inr (2, [.ref ad, .ref (o mq), .ref (o Ls), .ref (o Rs), .ref (o G), .long (zL ea), .long (zL eb), .long (zL ec), .long (zL ed)])) ∧ ∀ q, q ≠ am → f' q = f q)) 0 0 (hw_A L sz) := by
  refine Met.ofW (cc := b_Ms_shift) (maxL := 2) (ret := none) (by decide) rfl ?_
  intro p e s m args below meth c s₁ B hml hv
  obtain ⟨rfl, rfl, hI⟩ := hw_start hv
  clear hv
  have hx := B.exec
  have hb := B.bytes
  have hr := B.returns
  have hlocks := B.notSynchronized
  have hown : s.vm.findClass "WallFractions$Measure" = some m.cls := findClass_of_methodNamed B.named
  have hT : ∀ w ∈ TT, w.before ([.ref (am)]).toArray s = true := fun w h => atoms_spec (ws := (Cond.code y_Ms_shift b_Ms_shift 2 none :: TT)) B.pre w (List.mem_cons_of_mem _ h)
  have S : CallFix p m c b_Ms_shift 2 s ([.ref (am)]).toArray TT "WallFractions$Measure" := ⟨hx, hb, hml, hown, hT⟩
  have hl := lv_entry ([.ref (am)]) (n := 2) (Nat.le_of_ble_eq_true rfl)
  rw [lg_entry_eq]
  generalize (lg_sl ([.ref (am)]) ++ List.replicate (2 - (lg_sl ([.ref (am)])).length) Slot.unset).toArray = ls at hl ⊢
  have hl : lv_has ls 2 [(0, .ref (am))] := hl
  skip
  have hF : ∀ q, q ≠ am → f q = f q := fun _ _ => rfl
  refine lv_aload_n hx hb d_Ms_shift_0 rfl (lv_at hl 0 rfl) ?_
  refine ob_get S hI hM (C := R_Ms) (T := F_Ms) (N := 9) (ref := "WallFractions$Measure") rfl i_Ms 2 (by decide) rfl w_102 rfl d_Ms_shift_1 ?_
  refine lv_astore_n (lv' := [(1, .ref (o G)), (0, .ref (am))]) hx hb d_Ms_shift_4 rfl hl (by decide) rfl (fun ls hl => ?_)
  refine lv_aload_n hx hb d_Ms_shift_5 rfl (lv_at hl 1 rfl) ?_
  refine lv_aload_n hx hb d_Ms_shift_6 rfl (lv_at hl 1 rfl) ?_
  refine ob_get S hI hM (C := R_Ms) (T := F_Ms) (N := 9) (ref := "WallFractions$Measure") rfl i_Ms 3 (by decide) rfl w_103 rfl d_Ms_shift_7 ?_
  refine ob_put S hI hM (fs' := [.ref (ad), .ref (o mq), .ref (o Ls), .ref (o Ls), .ref (o Rs), .long (zL ea), .long (zL eb), .long (zL ec), .long (zL ed)]) (C := R_Ms) (T := F_Ms) (N := 9) (ref := "WallFractions$Measure") rfl i_Ms t_Ms t_Ms_ok n_Ms 2 (by decide) rfl w_102 rfl rfl rfl (by simp only [List.length]; decide) rfl d_Ms_shift_10 (fun f5 H locs hI hM hf5 => ?_)
  have hF := fun q (h1 : q ≠ am) => (hf5 q h1).trans (hF q h1)
  refine lv_aload_n hx hb d_Ms_shift_13 rfl (lv_at hl 1 rfl) ?_
  refine lv_aload_n hx hb d_Ms_shift_14 rfl (lv_at hl 1 rfl) ?_
  refine ob_get S hI hM (C := R_Ms) (T := F_Ms) (N := 9) (ref := "WallFractions$Measure") rfl i_Ms 4 (by decide) rfl w_104 rfl d_Ms_shift_15 ?_
  refine ob_put S hI hM (fs' := [.ref (ad), .ref (o mq), .ref (o Ls), .ref (o Rs), .ref (o Rs), .long (zL ea), .long (zL eb), .long (zL ec), .long (zL ed)]) (C := R_Ms) (T := F_Ms) (N := 9) (ref := "WallFractions$Measure") rfl i_Ms t_Ms t_Ms_ok n_Ms 3 (by decide) rfl w_103 rfl rfl rfl (by simp only [List.length]; decide) rfl d_Ms_shift_18 (fun f6 H locs hI hM hf6 => ?_)
  have hF := fun q (h1 : q ≠ am) => (hf6 q h1).trans (hF q h1)
  refine lv_aload_n hx hb d_Ms_shift_21 rfl (lv_at hl 1 rfl) ?_
  refine lv_aload_n hx hb d_Ms_shift_22 rfl (lv_at hl 0 rfl) ?_
  refine ob_put S hI hM (fs' := [.ref (ad), .ref (o mq), .ref (o Ls), .ref (o Rs), .ref (o G), .long (zL ea), .long (zL eb), .long (zL ec), .long (zL ed)]) (C := R_Ms) (T := F_Ms) (N := 9) (ref := "WallFractions$Measure") rfl i_Ms t_Ms t_Ms_ok n_Ms 4 (by decide) rfl w_104 rfl rfl rfl (by simp only [List.length]; decide) rfl d_Ms_shift_23 (fun f7 H locs hI hM hf7 => ?_)
  have hF := fun q (h1 : q ≠ am) => (hf7 q h1).trans (hF q h1)
  exact hw_vret hx hb hr hlocks hI d_Ms_shift_26 ⟨rfl, rfl, hM, hF⟩
set_option maxHeartbeats 4000000 in
set_option maxRecDepth 100000 in
theorem c_Ms_leading (l : Launch) (D : va_G) (t0 : Nat) (L : List Nat) (f : Nat → va_E) (sz : Nat) (o r : Nat → Nat) (N : Nat) (am ad mq G Ls Rs : Nat) (ea eb ec ed : Int) (v : Nat → Nat × (Nat → Nat)) (x : Nat → Nat) (z T tT : Nat) (hY : Lay o r N) (hM : hw_c L f am (.inr (2, [.ref ad, .ref (o mq), .ref (o G), .ref (o Ls), .ref (o Rs), .long (zL ea), .long (zL eb), .long (zL ec), .long (zL ed)]))) (hV : AllW D L f o r N v) (hO : ∀ i, i < N → (v i).1 ≤ 41 ∧ nOk nB (v i).1 (v i).2 (x i)) (hG : G < N) (hz : z < N) (hs : 3 ≤ (v G).1) (hzs : x z < nB ^ (v G).1) (hT1 : 1 ≤ T) (hT9 : T ≤ 9) (htT : tT = 10 ^ T) : Met l y_Ms_leading (Cond.code y_Ms_leading b_Ms_leading 7 (some .long) :: TT) ({ frames := 1, cells := 0, slots := 0, locals := 21 } : Room) (hw_Pc t0 [.ref (am), .ref (o z), .long (lN tT)] D L f sz) (hw_Q D L sz (fun oc L' f' => oc = .returned (some (.long (lN (x z / (10 ^ T * nB ^ ((v G).1 - 3)))))) ∧ L = L' ∧ f = f')) 0 0 (hw_A L sz) := by
  refine Met.ofW (cc := b_Ms_leading) (maxL := 7) (ret := (some .long)) (by decide) rfl ?_
  intro p e s m args below meth c s₁ B hml hv
  obtain ⟨rfl, rfl, hI⟩ := hw_start hv
  clear hv
  have hx := B.exec
  have hb := B.bytes
  have hr := B.returns
  have hlocks := B.notSynchronized
  have hown : s.vm.findClass "WallFractions$Measure" = some m.cls := findClass_of_methodNamed B.named
  have hT : ∀ w ∈ TT, w.before ([.ref (am), .ref (o z), .long (lN tT)]).toArray s = true := fun w h => atoms_spec (ws := (Cond.code y_Ms_leading b_Ms_leading 7 (some .long) :: TT)) B.pre w (List.mem_cons_of_mem _ h)
  have S : CallFix p m c b_Ms_leading 7 s ([.ref (am), .ref (o z), .long (lN tT)]).toArray TT "WallFractions$Measure" := ⟨hx, hb, hml, hown, hT⟩
  have hl := lv_entry ([.ref (am), .ref (o z), .long (lN tT)]) (n := 7) (Nat.le_of_ble_eq_true rfl)
  rw [lg_entry_eq]
  generalize (lg_sl ([.ref (am), .ref (o z), .long (lN tT)]) ++ List.replicate (7 - (lg_sl ([.ref (am), .ref (o z), .long (lN tT)])).length) Slot.unset).toArray = ls at hl ⊢
  have hl : lv_has ls 7 [(0, .ref (am)), (1, .ref (o z)), (2, .long (lN tT))] := hl
  skip
  have hnB : nB = 1000000000 := rfl
  have h41 := (hO G hG).1
  have ht0 : 0 < tT := by rw [htT]; exact Nat.pow_pos (by decide)
  have ht1 : tT ≤ nB := by rw [htT, nB10]; exact Nat.pow_le_pow_right (by decide) hT9
  obtain ⟨s9, hs9⟩ : ∃ s9, s9 = (v G).1 := ⟨_, rfl⟩
  rw [← hs9] at hs hzs h41 ⊢
  obtain ⟨l1, hl1⟩ : ∃ l1, l1 = padl (v z) (s9 - 1) := ⟨_, rfl⟩
  have hb1 : l1 < nB := by rw [hl1]; exact padl_lt nB_pos (hO z hz).2.1 _
  have hn1 : l1 = x z / nB ^ (s9 - 1) % nB := by rw [hl1]; exact padl_num (hO z hz).2
  obtain ⟨l2, hl2⟩ : ∃ l2, l2 = padl (v z) (s9 - 2) := ⟨_, rfl⟩
  have hb2 : l2 < nB := by rw [hl2]; exact padl_lt nB_pos (hO z hz).2.1 _
  have hn2 : l2 = x z / nB ^ (s9 - 2) % nB := by rw [hl2]; exact padl_num (hO z hz).2
  obtain ⟨l3, hl3⟩ : ∃ l3, l3 = padl (v z) (s9 - 3) := ⟨_, rfl⟩
  have hb3 : l3 < nB := by rw [hl3]; exact padl_lt nB_pos (hO z hz).2.1 _
  have hn3 : l3 = x z / nB ^ (s9 - 3) % nB := by rw [hl3]; exact padl_num (hO z hz).2
  refine lv_aload_n hx hb d_Ms_leading_0 rfl (lv_at hl 0 rfl) ?_
  refine ob_get S hI hM (C := R_Ms) (T := F_Ms) (N := 9) (ref := "WallFractions$Measure") rfl i_Ms 2 (by decide) rfl w_102 rfl d_Ms_leading_1 ?_
  refine wh_sizeN S hI hV hG (by decide) d_Ms_leading_4 ?_
  refine hw_ti (show _ = nI s9 from by rw [hs9]) ?_
  refine lv_iconst (v := nI 1) hx hb d_Ms_leading_7 (by decide) ?_
  refine lv_isub hx hb d_Ms_leading_8 ?_
  refine hw_ti (pk_sub (by omega)) ?_
  refine lv_istore (lv' := [(4, .int (nI (s9 - 1))), (0, .ref (am)), (1, .ref (o z)), (2, .long (lN tT))]) hx hb d_Ms_leading_9 hl (by decide) rfl (fun ls hl => ?_)
  refine lv_aload_n hx hb d_Ms_leading_11 rfl (lv_at hl 2 rfl) ?_
  refine lv_iload hx hb d_Ms_leading_12 (lv_at hl 0 rfl) ?_
  refine hw_cVN (As := [.int (nI (s9 - 1))]) (rest := []) S hI m_Wh_limbAt (by decide +kernel) (c_Wh_limbAt l D t0 L _ _ o r N v z (s9 - 1) hz hY hV (by omega) (hO z hz).1) (hV _ hz).1 rfl hl.1 rfl rfl (Nat.le_of_ble_eq_true rfl) d_Ms_leading_14 ⟨Nat.le_of_ble_eq_true rfl, Nat.le_of_ble_eq_true rfl⟩ ⟨Nat.le_of_ble_eq_true rfl, Nat.le_of_ble_eq_true rfl⟩ (fun v9 L9 f8 H locs hp hI => ?_)
  refine W.cs (cells' := 0) (slots' := 0) rfl rfl ?_
  obtain ⟨hv9, rfl, rfl⟩ := hp
  cases hv9
  refine hw_stk (st' := [.long (lN (padl (v z) (s9 - 1)))]) rfl ?_
  refine hw_tl (show _ = lN l1 from by rw [hl1]) ?_
  refine hw_ldc2 (v := lN nB) hx hb hown (hT _ w_460) d_Ms_leading_17 ?_
  refine lv_lmul hx hb d_Ms_leading_20 ?_
  refine hw_tl (lN_mul _ _) ?_
  refine lv_aload_n hx hb d_Ms_leading_21 rfl (lv_at hl 2 rfl) ?_
  refine lv_iload hx hb d_Ms_leading_22 (lv_at hl 0 rfl) ?_
  refine lv_iconst (v := nI 1) hx hb d_Ms_leading_24 (by decide) ?_
  refine lv_isub hx hb d_Ms_leading_25 ?_
  refine hw_ti (pk_sub (by omega)) ?_
  refine hw_cVN (As := [.int (nI ((s9 - 1) - 1))]) (rest := [.long (lN (l1 * nB))]) S hI m_Wh_limbAt (by decide +kernel) (c_Wh_limbAt l D t0 L _ _ o r N v z (s9 - 1 - 1) hz hY hV (by omega) (hO z hz).1) (hV _ hz).1 rfl hl.1 rfl rfl (Nat.le_of_ble_eq_true rfl) d_Ms_leading_26 ⟨Nat.le_of_ble_eq_true rfl, Nat.le_of_ble_eq_true rfl⟩ ⟨Nat.le_of_ble_eq_true rfl, Nat.le_of_ble_eq_true rfl⟩ (fun v9 L9 f9 H locs hp hI => ?_)
  refine W.cs (cells' := 0) (slots' := 0) rfl rfl ?_
  obtain ⟨hv9, rfl, rfl⟩ := hp
  cases hv9
  refine hw_stk (st' := [.long (lN (padl (v z) (s9 - 1 - 1))), .long (lN (l1 * nB))]) rfl ?_
  refine hw_tl (show _ = lN l2 from by rw [hl2, show s9 - 1 - 1 = s9 - 2 by omega]) ?_
  refine lv_ladd hx hb d_Ms_leading_29 ?_
  refine hw_tl (lN_add _ _) ?_
  refine lv_lstore (lv' := [(5, .long (lN ((l1 * nB) + l2))), (4, .int (nI (s9 - 1))), (0, .ref (am)), (1, .ref (o z)), (2, .long (lN tT))]) hx hb d_Ms_leading_30 hl (by decide) rfl (fun ls hl => ?_)
  refine lv_lload hx hb d_Ms_leading_32 (lv_at hl 0 rfl) ?_
  refine hw_ldc2 (v := lN nB) hx hb hown (hT _ w_460) d_Ms_leading_34 ?_
  refine lv_lload_n hx hb d_Ms_leading_37 rfl (lv_at hl 4 rfl) ?_
  refine lv_ldiv hx hb d_Ms_leading_38 (by intro h9; have h8 := (pk_lEQ (b := 0) (by omega) (by decide)).mp h9; omega) ?_
  refine hw_tl (pk_lDiv (by omega) (by omega) (by omega)) ?_
  refine lv_lmul hx hb d_Ms_leading_39 ?_
  refine hw_tl (lN_mul _ _) ?_
  refine lv_aload_n hx hb d_Ms_leading_40 rfl (lv_at hl 3 rfl) ?_
  refine lv_iload hx hb d_Ms_leading_41 (lv_at hl 1 rfl) ?_
  refine lv_iconst (v := nI 2) hx hb d_Ms_leading_43 (by decide) ?_
  refine lv_isub hx hb d_Ms_leading_44 ?_
  refine hw_ti (pk_sub (by omega)) ?_
  refine hw_cVN (As := [.int (nI ((s9 - 1) - 2))]) (rest := [.long (lN (((l1 * nB) + l2) * (nB / tT)))]) S hI m_Wh_limbAt (by decide +kernel) (c_Wh_limbAt l D t0 L _ _ o r N v z (s9 - 1 - 2) hz hY hV (by omega) (hO z hz).1) (hV _ hz).1 rfl hl.1 rfl rfl (Nat.le_of_ble_eq_true rfl) d_Ms_leading_45 ⟨Nat.le_of_ble_eq_true rfl, Nat.le_of_ble_eq_true rfl⟩ ⟨Nat.le_of_ble_eq_true rfl, Nat.le_of_ble_eq_true rfl⟩ (fun v9 L9 f10 H locs hp hI => ?_)
  refine W.cs (cells' := 0) (slots' := 0) rfl rfl ?_
  obtain ⟨hv9, rfl, rfl⟩ := hp
  cases hv9
  refine hw_stk (st' := [.long (lN (padl (v z) (s9 - 1 - 2))), .long (lN (((l1 * nB) + l2) * (nB / tT)))]) rfl ?_
  refine hw_tl (show _ = lN l3 from by rw [hl3, show s9 - 1 - 2 = s9 - 3 by omega]) ?_
  refine lv_lload_n hx hb d_Ms_leading_48 rfl (lv_at hl 4 rfl) ?_
  refine lv_ldiv hx hb d_Ms_leading_49 (by intro h9; have h8 := (pk_lEQ (b := 0) (by omega) (by decide)).mp h9; omega) ?_
  refine hw_tl (pk_lDiv (by omega) (by omega) (by omega)) ?_
  refine lv_ladd hx hb d_Ms_leading_50 ?_
  refine hw_tl (lN_add _ _) ?_
  exact hw_lret hx hb hr hlocks hI d_Ms_leading_51 ⟨by rw [← lead_num hs hT9 hzs hn1 hn2 hn3, htT], rfl, rfl⟩

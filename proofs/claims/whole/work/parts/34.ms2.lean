set_option maxHeartbeats 4000000 in
set_option maxRecDepth 100000 in
theorem c_Ms_gather (l : Launch) (D : va_G) (t0 : Nat) (L : List Nat) (f : Nat → va_E) (sz : Nat) (o r : Nat → Nat) (N : Nat) (am ad mq G Ls Rs : Nat) (ea eb ec ed : Int) (x : Nat → Nat) (hY : Lay o r N) (hM : hw_c L f am (.inr (2, [.ref ad, .ref (o mq), .ref (o G), .ref (o Ls), .ref (o Rs), .long (zL ea), .long (zL eb), .long (zL ec), .long (zL ed)]))) (hN : AllN D L f o r N x) (hG : G < N) (hLs : Ls < N) (hle : x Ls ≤ x G) (h3 : nB ^ 2 ≤ x G) : Met l y_Ms_gather (Cond.code y_Ms_gather b_Ms_gather 16 none :: TT) ({ frames := 6, cells := 0, slots := 0, locals := 110 } : Room) (hw_Pc t0 [.ref (am)] D L f sz) (hw_Q D L sz (fun oc L' f' => oc = .returned none ∧ L = L' ∧ (∃ ea eb ec ed : Int, hw_c L f' am (.inr (2, [.ref ad, .ref (o mq), .ref (o G), .ref (o Ls), .ref (o Rs), .long (zL ea), .long (zL eb), .long (zL ec), .long (zL ed)])) ∧ le_b ea eb ec ed ∧ (eb = 0 ∨ Lm (x G) (x Ls) ea eb ec ed)) ∧ ∀ q, q ≠ am → f' q = f q)) 0 0 (hw_A L sz) := by
  refine Met.ofW (cc := b_Ms_gather) (maxL := 16) (ret := none) (by decide) rfl ?_
  intro p e s m args below meth c s₁ B hml hv
  obtain ⟨rfl, rfl, hI⟩ := hw_start hv
  clear hv
  have hx := B.exec
  have hb := B.bytes
  have hr := B.returns
  have hlocks := B.notSynchronized
  have hown : s.vm.findClass "WallFractions$Measure" = some m.cls := findClass_of_methodNamed B.named
  have hT : ∀ w ∈ TT, w.before ([.ref (am)]).toArray s = true := fun w h => atoms_spec (ws := (Cond.code y_Ms_gather b_Ms_gather 16 none :: TT)) B.pre w (List.mem_cons_of_mem _ h)
  have S : CallFix p m c b_Ms_gather 16 s ([.ref (am)]).toArray TT "WallFractions$Measure" := ⟨hx, hb, hml, hown, hT⟩
  have hl := lv_entry ([.ref (am)]) (n := 16) (Nat.le_of_ble_eq_true rfl)
  rw [lg_entry_eq]
  generalize (lg_sl ([.ref (am)]) ++ List.replicate (16 - (lg_sl ([.ref (am)])).length) Slot.unset).toArray = ls at hl ⊢
  have hl : lv_has ls 16 [(0, .ref (am))] := hl
  skip
  obtain ⟨v, hV, hO⟩ := hN
  have hnB : nB = 1000000000 := rfl
  have hs3 : 3 ≤ (v G).1 := by rcases Nat.lt_or_ge 2 (v G).1 with q | q; exact q; have q1 := ((hO G hG).2.size_le nB1).mp q; omega
  have h41 := (hO G hG).1
  refine hw_tens S hI (by decide) d_Ms_gather_0 ?_
  refine lv_aload_n hx hb d_Ms_gather_3 rfl (lv_at hl 0 rfl) ?_
  refine ob_get S hI hM (C := R_Ms) (T := F_Ms) (N := 9) (ref := "WallFractions$Measure") rfl i_Ms 2 (by decide) rfl w_102 rfl d_Ms_gather_4 ?_
  refine hw_cV (As := []) (rest := [.ref (t0)]) S hI m_Wh_topLength w_450 (c_Wh_topLength l D t0 L _ _ o r N v G hG hY hV h41 (by omega) (hO G hG).2.1 ((hO G hG).2.2.1 (by omega))) (hV _ hG).1 rfl hl.1 rfl rfl (Nat.le_of_ble_eq_true rfl) d_Ms_gather_7 ⟨Nat.le_of_ble_eq_true rfl, Nat.le_of_ble_eq_true rfl⟩ ⟨Nat.le_of_ble_eq_true rfl, Nat.le_of_ble_eq_true rfl⟩ (fun v9 L9 f1 H locs hp hI => ?_)
  refine W.cs (cells' := 0) (slots' := 0) rfl rfl ?_
  obtain ⟨⟨T, hv9, hT1, hT9, hT3, hT4⟩, rfl, rfl⟩ := hp
  cases hv9
  refine hw_stk (st' := [.int (nI T), .ref (t0)]) rfl ?_
  obtain ⟨tT, htT⟩ : ∃ tT, tT = 10 ^ T := ⟨_, rfl⟩
  obtain ⟨U, hU⟩ : ∃ U, U = 10 ^ T * nB ^ ((v G).1 - 3) := ⟨_, rfl⟩
  have hU0 : 0 < U := by rw [hU]; exact Nat.mul_pos (Nat.pow_pos (by decide)) (Nat.pow_pos nB_pos)
  have hXU : x G / U < 1000000000000000000 := by rw [hU]; exact lead_rng hs3 (dlen_top (hO G hG).2 (by omega) hT1 hT3 hT4).2.1
  have hxG := (hO G hG).2.lt
  refine hw_tld S hI (by omega) d_Ms_gather_10 ?_
  refine hw_tl (show _ = lN tT from by rw [htT]) ?_
  refine lv_lstore_n (lv' := [(1, .long (lN tT)), (0, .ref (am))]) hx hb d_Ms_gather_11 rfl hl (by decide) rfl (fun ls hl => ?_)
  refine lv_aload_n hx hb d_Ms_gather_12 rfl (lv_at hl 1 rfl) ?_
  refine lv_aload_n hx hb d_Ms_gather_13 rfl (lv_at hl 1 rfl) ?_
  refine ob_get S hI hM (C := R_Ms) (T := F_Ms) (N := 9) (ref := "WallFractions$Measure") rfl i_Ms 2 (by decide) rfl w_102 rfl d_Ms_gather_14 ?_
  refine lv_lload_n hx hb d_Ms_gather_17 rfl (lv_at hl 0 rfl) ?_
  refine hw_cV (As := [.ref (o G), .long (lN tT)]) (rest := []) S hI m_Ms_leading w_455 (c_Ms_leading l D t0 L _ _ o r N am ad mq G Ls Rs ea eb ec ed v x G T tT hY hM hV hO hG hG hs3 (by omega) hT1 hT9 htT) hM rfl hl.1 rfl rfl (Nat.le_of_ble_eq_true rfl) d_Ms_gather_18 ⟨Nat.le_of_ble_eq_true rfl, Nat.le_of_ble_eq_true rfl⟩ ⟨Nat.le_of_ble_eq_true rfl, Nat.le_of_ble_eq_true rfl⟩ (fun v9 L9 f2 H locs hp hI => ?_)
  refine W.cs (cells' := 0) (slots' := 0) rfl rfl ?_
  obtain ⟨hv9, rfl, rfl⟩ := hp
  cases hv9
  refine hw_stk (st' := [.long (lN (x G / (10 ^ T * nB ^ ((v G).1 - 3))))]) rfl ?_
  refine hw_tl (show _ = lN (x G / U) from by rw [hU]) ?_
  refine lv_lstore_n (lv' := [(3, .long (lN (x G / U))), (1, .long (lN tT)), (0, .ref (am))]) hx hb d_Ms_gather_21 rfl hl (by decide) rfl (fun ls hl => ?_)
  refine lv_aload_n hx hb d_Ms_gather_22 rfl (lv_at hl 2 rfl) ?_
  refine lv_aload_n hx hb d_Ms_gather_23 rfl (lv_at hl 2 rfl) ?_
  refine ob_get S hI hM (C := R_Ms) (T := F_Ms) (N := 9) (ref := "WallFractions$Measure") rfl i_Ms 3 (by decide) rfl w_103 rfl d_Ms_gather_24 ?_
  refine lv_lload_n hx hb d_Ms_gather_27 rfl (lv_at hl 1 rfl) ?_
  refine hw_cV (As := [.ref (o Ls), .long (lN tT)]) (rest := []) S hI m_Ms_leading w_455 (c_Ms_leading l D t0 L _ _ o r N am ad mq G Ls Rs ea eb ec ed v x Ls T tT hY hM hV hO hG hLs hs3 (by omega) hT1 hT9 htT) hM rfl hl.1 rfl rfl (Nat.le_of_ble_eq_true rfl) d_Ms_gather_28 ⟨Nat.le_of_ble_eq_true rfl, Nat.le_of_ble_eq_true rfl⟩ ⟨Nat.le_of_ble_eq_true rfl, Nat.le_of_ble_eq_true rfl⟩ (fun v9 L9 f3 H locs hp hI => ?_)
  refine W.cs (cells' := 0) (slots' := 0) rfl rfl ?_
  obtain ⟨hv9, rfl, rfl⟩ := hp
  cases hv9
  refine hw_stk (st' := [.long (lN (x Ls / (10 ^ T * nB ^ ((v G).1 - 3))))]) rfl ?_
  refine hw_tl (show _ = lN (x Ls / U) from by rw [hU]) ?_
  have hF : ∀ q, q ≠ am → f q = f q := fun _ _ => rfl
  have loop : ∀ (g t : Nat) (ea eb ec ed ex ey : Int) (f1 : Nat → va_E) (H : Heap) (locs : List Loc) (ls : Array Slot), t + g = 100000 → le_at (x G) (x Ls) U ea eb ec ed ex ey → hw_c L f1 am (.inr (2, [.ref ad, .ref (o mq), .ref (o G), .ref (o Ls), .ref (o Rs), .long (zL ea), .long (zL eb), .long (zL ec), .long (zL ed)])) → (∀ q, q ≠ am → f1 q = f q) → hw_I D t0 (hw_A L s.heap.size) s L f1 H locs → lv_has ls 16 [(7, .int (nI t)), (5, .long (zL ey)), (3, .long (zL ex)), (0, .ref (am))] → W p l e (headSpec (Cond.code y_Ms_gather b_Ms_gather 16 none :: TT) ({ frames := 6, cells := 0, slots := 0, locals := 110 } : Room)).room s m ([.ref (am)]).toArray below meth c H locs 0 0 (MQ below (hw_Q D L s.heap.size (fun oc L' f' => oc = .returned none ∧ L = L' ∧ (∃ ea eb ec ed : Int, hw_c L f' am (.inr (2, [.ref ad, .ref (o mq), .ref (o G), .ref (o Ls), .ref (o Rs), .long (zL ea), .long (zL eb), .long (zL ec), .long (zL ed)])) ∧ le_b ea eb ec ed ∧ (eb = 0 ∨ Lm (x G) (x Ls) ea eb ec ed)) ∧ ∀ q, q ≠ am → f' q = f q)) ([.ref (am)]).toArray s 0 0 (hw_A L s.heap.size)) (F0 m 56 ls []) := by
    intro g
    induction g with
    | zero =>
      intro t ea eb ec ed ex ey f1 H locs ls htg hLe hM hF hI hl
      refine lv_iload hx hb d_Ms_gather_56 (lv_at hl 0 rfl) ?_
      refine hw_ldc (v := nI 100000) hx hb hown (hT _ w_309) d_Ms_gather_58 ?_
      refine hw_icmp_ge (tgt := 240) hx hb d_Ms_gather_60 (by decide) (by omega) (by omega) (fun c4 => ?_) (fun c4 => ?_)
      · exact hw_vret hx hb hr hlocks hI d_Ms_gather_240 ⟨rfl, rfl, ⟨ea, eb, ec, ed, hM, hLe.fin.1, hLe.fin.2⟩, hF⟩
      · exact absurd c4 (by omega)
    | succ g ih =>
      intro t ea eb ec ed ex ey f1 H locs ls htg hLe hM hF hI hl
      refine lv_iload hx hb d_Ms_gather_56 (lv_at hl 0 rfl) ?_
      refine hw_ldc (v := nI 100000) hx hb hown (hT _ w_309) d_Ms_gather_58 ?_
      refine hw_icmp_ge (tgt := 240) hx hb d_Ms_gather_60 (by decide) (by omega) (by omega) (fun c5 => ?_) (fun c5 => ?_)
      · exact hw_vret hx hb hr hlocks hI d_Ms_gather_240 ⟨rfl, rfl, ⟨ea, eb, ec, ed, hM, hLe.fin.1, hLe.fin.2⟩, hF⟩
      · obtain ⟨k1, k2, k3, k4⟩ := hLe.rng hU0 hXU
        obtain ⟨b1, b2, b3, b4, b5, b6, b7, b8⟩ := hLe.fin.1
        rw [hnB] at b1 b2 b3 b4 b5 b6 b7 b8
        have g1 : 0 ≤ ex + ea := hLe.2.2.2.2.1
        have g2 : 0 ≤ ex + eb := hLe.2.2.2.2.2.1
        refine lv_lload hx hb d_Ms_gather_63 (lv_at hl 1 rfl) ?_
        refine lv_aload_n hx hb d_Ms_gather_65 rfl (lv_at hl 3 rfl) ?_
        refine ob_get S hI hM (C := R_Ms) (T := F_Ms) (N := 9) (ref := "WallFractions$Measure") rfl i_Ms 7 (by decide) rfl w_107 rfl d_Ms_gather_66 ?_
        refine lv_ladd hx hb d_Ms_gather_69 ?_
        refine hw_tl (zL_add ey ec) ?_
        refine lv_lconst (v := lN 0) hx hb d_Ms_gather_70 rfl ?_
        refine hw_l_le (tgt := 240) hx hb d_Ms_gather_71 d_Ms_gather_72 (by decide) (fun c6 => ?_) (fun c6 => ?_)
        · exact hw_vret hx hb hr hlocks hI d_Ms_gather_240 ⟨rfl, rfl, ⟨ea, eb, ec, ed, hM, hLe.fin.1, hLe.fin.2⟩, hF⟩
        · have y1 : 0 < ey + ec := (zL_lt (a := 0) (by decide) (by decide) (by omega) (by omega)).mp c6
          refine lv_lload hx hb d_Ms_gather_75 (lv_at hl 1 rfl) ?_
          refine lv_aload_n hx hb d_Ms_gather_77 rfl (lv_at hl 3 rfl) ?_
          refine ob_get S hI hM (C := R_Ms) (T := F_Ms) (N := 9) (ref := "WallFractions$Measure") rfl i_Ms 8 (by decide) rfl w_108 rfl d_Ms_gather_78 ?_
          refine lv_ladd hx hb d_Ms_gather_81 ?_
          refine hw_tl (zL_add ey ed) ?_
          refine lv_lconst (v := lN 0) hx hb d_Ms_gather_82 rfl ?_
          refine hw_l_le (tgt := 240) hx hb d_Ms_gather_83 d_Ms_gather_84 (by decide) (fun c7 => ?_) (fun c7 => ?_)
          · exact hw_vret hx hb hr hlocks hI d_Ms_gather_240 ⟨rfl, rfl, ⟨ea, eb, ec, ed, hM, hLe.fin.1, hLe.fin.2⟩, hF⟩
          · have y2 : 0 < ey + ed := (zL_lt (a := 0) (by decide) (by decide) (by omega) (by omega)).mp c7
            obtain ⟨tm, htm⟩ : ∃ tm, tm = (ex + ea) / (ey + ec) := ⟨_, rfl⟩
            obtain ⟨tn, htn⟩ : ∃ tn, tn = (ex + eb) / (ey + ed) := ⟨_, rfl⟩
            obtain ⟨m1, m2, -, -⟩ := ediv_fact g1 y1 htm
            obtain ⟨n1, n2, -, -⟩ := ediv_fact g2 y2 htn
            refine lv_lload_n hx hb d_Ms_gather_87 rfl (lv_at hl 2 rfl) ?_
            refine lv_aload_n hx hb d_Ms_gather_88 rfl (lv_at hl 3 rfl) ?_
            refine ob_get S hI hM (C := R_Ms) (T := F_Ms) (N := 9) (ref := "WallFractions$Measure") rfl i_Ms 5 (by decide) rfl w_105 rfl d_Ms_gather_89 ?_
            refine lv_ladd hx hb d_Ms_gather_92 ?_
            refine hw_tl (zL_add ex ea) ?_
            refine lv_lload hx hb d_Ms_gather_93 (lv_at hl 1 rfl) ?_
            refine lv_aload_n hx hb d_Ms_gather_95 rfl (lv_at hl 3 rfl) ?_
            refine ob_get S hI hM (C := R_Ms) (T := F_Ms) (N := 9) (ref := "WallFractions$Measure") rfl i_Ms 7 (by decide) rfl w_107 rfl d_Ms_gather_96 ?_
            refine lv_ladd hx hb d_Ms_gather_99 ?_
            refine hw_tl (zL_add ey ec) ?_
            refine lv_ldiv hx hb d_Ms_gather_100 (fun h => by have h9 := (zL_eq (b := 0) (by omega) (by omega) (by decide) (by decide)).mp h; omega) ?_
            refine hw_tl (zL_div (a := (ex + ea)) (b := (ey + ec)) (by omega) (by omega) (by omega) (by omega)) ?_
            refine hw_tl (show _ = zL tm from by rw [fdiv_pos g1 y1, ← htm]) ?_
            refine lv_lstore (lv' := [(8, .long (zL tm)), (7, .int (nI t)), (5, .long (zL ey)), (3, .long (zL ex)), (0, .ref (am))]) hx hb d_Ms_gather_101 hl (by decide) rfl (fun ls hl => ?_)
            refine lv_lload hx hb d_Ms_gather_103 (lv_at hl 0 rfl) ?_
            refine lv_lload_n hx hb d_Ms_gather_105 rfl (lv_at hl 3 rfl) ?_
            refine lv_aload_n hx hb d_Ms_gather_106 rfl (lv_at hl 4 rfl) ?_
            refine ob_get S hI hM (C := R_Ms) (T := F_Ms) (N := 9) (ref := "WallFractions$Measure") rfl i_Ms 6 (by decide) rfl w_106 rfl d_Ms_gather_107 ?_
            refine lv_ladd hx hb d_Ms_gather_110 ?_
            refine hw_tl (zL_add ex eb) ?_
            refine lv_lload hx hb d_Ms_gather_111 (lv_at hl 2 rfl) ?_
            refine lv_aload_n hx hb d_Ms_gather_113 rfl (lv_at hl 4 rfl) ?_
            refine ob_get S hI hM (C := R_Ms) (T := F_Ms) (N := 9) (ref := "WallFractions$Measure") rfl i_Ms 8 (by decide) rfl w_108 rfl d_Ms_gather_114 ?_
            refine lv_ladd hx hb d_Ms_gather_117 ?_
            refine hw_tl (zL_add ey ed) ?_
            refine lv_ldiv hx hb d_Ms_gather_118 (fun h => by have h9 := (zL_eq (b := 0) (by omega) (by omega) (by decide) (by decide)).mp h; omega) ?_
            refine hw_tl (zL_div (a := (ex + eb)) (b := (ey + ed)) (by omega) (by omega) (by omega) (by omega)) ?_
            refine hw_tl (show _ = zL tn from by rw [fdiv_pos g2 y2, ← htn]) ?_
            refine hw_l_ne (tgt := 240) hx hb d_Ms_gather_119 d_Ms_gather_120 (by decide) (fun c8 => ?_) (fun c8 => ?_)
            · exact hw_vret hx hb hr hlocks hI d_Ms_gather_240 ⟨rfl, rfl, ⟨ea, eb, ec, ed, hM, hLe.fin.1, hLe.fin.2⟩, hF⟩
            · have hmn : tm = tn := (zL_eq (by omega) (by omega) (by omega) (by omega)).mp c8
              refine lv_lload hx hb d_Ms_gather_123 (lv_at hl 0 rfl) ?_
              refine hw_ldc2 (v := lN nB) hx hb hown (hT _ w_460) d_Ms_gather_125 ?_
              refine hw_l_le (tgt := 135) hx hb d_Ms_gather_128 d_Ms_gather_129 (by decide) (fun c9 => ?_) (fun c9 => ?_)
              · have hmB : tm ≤ 1000000000 := by have h9 := (zL_le (b := (nB : Int)) (by omega) (by omega) (by omega) (by omega)).mp c9; omega
                have pc : -1000000000000000000 ≤ tm * ec ∧ tm * ec ≤ 1000000000000000000 := by have q1 : tm * ec ≤ tm * 1000000000 := Int.mul_le_mul_of_nonneg_left b6 m1; have q2 : tm * (-1000000000) ≤ tm * ec := Int.mul_le_mul_of_nonneg_left b5 m1; omega
                have pd : -1000000000000000000 ≤ tm * ed ∧ tm * ed ≤ 1000000000000000000 := by have q1 : tm * ed ≤ tm * 1000000000 := Int.mul_le_mul_of_nonneg_left b8 m1; have q2 : tm * (-1000000000) ≤ tm * ed := Int.mul_le_mul_of_nonneg_left b7 m1; omega
                refine lv_aload_n hx hb d_Ms_gather_135 rfl (lv_at hl 4 rfl) ?_
                refine ob_get S hI hM (C := R_Ms) (T := F_Ms) (N := 9) (ref := "WallFractions$Measure") rfl i_Ms 5 (by decide) rfl w_105 rfl d_Ms_gather_136 ?_
                refine lv_lload hx hb d_Ms_gather_139 (lv_at hl 0 rfl) ?_
                refine lv_aload_n hx hb d_Ms_gather_141 rfl (lv_at hl 4 rfl) ?_
                refine ob_get S hI hM (C := R_Ms) (T := F_Ms) (N := 9) (ref := "WallFractions$Measure") rfl i_Ms 7 (by decide) rfl w_107 rfl d_Ms_gather_142 ?_
                refine lv_lmul hx hb d_Ms_gather_145 ?_
                refine hw_tl (zL_mul tm ec) ?_
                refine lv_lsub hx hb d_Ms_gather_146 ?_
                refine hw_tl (zL_sub ea (tm * ec)) ?_
                refine lv_lstore (lv' := [(10, .long (zL (ea - (tm * ec)))), (8, .long (zL tm)), (7, .int (nI t)), (5, .long (zL ey)), (3, .long (zL ex)), (0, .ref (am))]) hx hb d_Ms_gather_147 hl (by decide) rfl (fun ls hl => ?_)
                refine lv_aload_n hx hb d_Ms_gather_149 rfl (lv_at hl 5 rfl) ?_
                refine ob_get S hI hM (C := R_Ms) (T := F_Ms) (N := 9) (ref := "WallFractions$Measure") rfl i_Ms 6 (by decide) rfl w_106 rfl d_Ms_gather_150 ?_
                refine lv_lload hx hb d_Ms_gather_153 (lv_at hl 1 rfl) ?_
                refine lv_aload_n hx hb d_Ms_gather_155 rfl (lv_at hl 5 rfl) ?_
                refine ob_get S hI hM (C := R_Ms) (T := F_Ms) (N := 9) (ref := "WallFractions$Measure") rfl i_Ms 8 (by decide) rfl w_108 rfl d_Ms_gather_156 ?_
                refine lv_lmul hx hb d_Ms_gather_159 ?_
                refine hw_tl (zL_mul tm ed) ?_
                refine lv_lsub hx hb d_Ms_gather_160 ?_
                refine hw_tl (zL_sub eb (tm * ed)) ?_
                refine lv_lstore (lv' := [(12, .long (zL (eb - (tm * ed)))), (10, .long (zL (ea - (tm * ec)))), (8, .long (zL tm)), (7, .int (nI t)), (5, .long (zL ey)), (3, .long (zL ex)), (0, .ref (am))]) hx hb d_Ms_gather_161 hl (by decide) rfl (fun ls hl => ?_)
                refine lv_lload hx hb d_Ms_gather_163 (lv_at hl 1 rfl) ?_
                refine hw_cS (As := [.long (zL (ea - (tm * ec)))]) (rest := []) S hI m_Mt_abs w_461 (c_Mt_abs l D t0 L _ _ (ea - tm * ec) (by omega) (by omega)) hl.1 rfl rfl (Nat.le_of_ble_eq_true rfl) d_Ms_gather_165 ⟨Nat.le_of_ble_eq_true rfl, Nat.le_of_ble_eq_true rfl⟩ ⟨Nat.le_of_ble_eq_true rfl, Nat.le_of_ble_eq_true rfl⟩ (fun v9 L9 f10 H locs hp hI => ?_)
                refine W.cs (cells' := 0) (slots' := 0) rfl rfl ?_
                obtain ⟨hv9, rfl, rfl⟩ := hp
                cases hv9
                refine hw_stk (st' := [.long (lN (ea - tm * ec).natAbs)]) rfl ?_
                refine hw_ldc2 (v := lN nB) hx hb hown (hT _ w_460) d_Ms_gather_168 ?_
                refine hw_l_gt (tgt := 240) hx hb d_Ms_gather_171 d_Ms_gather_172 (by decide) (fun c11 => ?_) (fun c11 => ?_)
                · exact hw_vret hx hb hr hlocks hI d_Ms_gather_240 ⟨rfl, rfl, ⟨ea, eb, ec, ed, hM, hLe.fin.1, hLe.fin.2⟩, hF⟩
                · have r1 : (ea - tm * ec).natAbs ≤ nB := (pk_lLE (by omega) (by omega)).mp c11
                  refine lv_lload hx hb d_Ms_gather_175 (lv_at hl 0 rfl) ?_
                  refine hw_cS (As := [.long (zL (eb - (tm * ed)))]) (rest := []) S hI m_Mt_abs w_461 (c_Mt_abs l D t0 L _ _ (eb - tm * ed) (by omega) (by omega)) hl.1 rfl rfl (Nat.le_of_ble_eq_true rfl) d_Ms_gather_177 ⟨Nat.le_of_ble_eq_true rfl, Nat.le_of_ble_eq_true rfl⟩ ⟨Nat.le_of_ble_eq_true rfl, Nat.le_of_ble_eq_true rfl⟩ (fun v9 L9 f12 H locs hp hI => ?_)
                  refine W.cs (cells' := 0) (slots' := 0) rfl rfl ?_
                  obtain ⟨hv9, rfl, rfl⟩ := hp
                  cases hv9
                  refine hw_stk (st' := [.long (lN (eb - tm * ed).natAbs)]) rfl ?_
                  refine hw_ldc2 (v := lN nB) hx hb hown (hT _ w_460) d_Ms_gather_180 ?_
                  refine hw_l_le (tgt := 190) hx hb d_Ms_gather_183 d_Ms_gather_184 (by decide) (fun c13 => ?_) (fun c13 => ?_)
                  · have r2 : (eb - tm * ed).natAbs ≤ nB := (pk_lLE (by omega) (by omega)).mp c13
                    have hS := hLe.step hU0 y1 y2 htm (hmn ▸ htn) (by omega) (by omega) (by omega) (by omega)
                    refine lv_aload_n hx hb d_Ms_gather_190 rfl (lv_at hl 6 rfl) ?_
                    refine lv_aload_n hx hb d_Ms_gather_191 rfl (lv_at hl 6 rfl) ?_
                    refine ob_get S hI hM (C := R_Ms) (T := F_Ms) (N := 9) (ref := "WallFractions$Measure") rfl i_Ms 7 (by decide) rfl w_107 rfl d_Ms_gather_192 ?_
                    refine ob_put S hI hM (fs' := [.ref (ad), .ref (o mq), .ref (o G), .ref (o Ls), .ref (o Rs), .long (zL ec), .long (zL eb), .long (zL ec), .long (zL ed)]) (C := R_Ms) (T := F_Ms) (N := 9) (ref := "WallFractions$Measure") rfl i_Ms t_Ms t_Ms_ok n_Ms 5 (by decide) rfl w_105 rfl rfl rfl (by simp only [List.length]; decide) rfl d_Ms_gather_195 (fun f14 H locs hI hM hf14 => ?_)
                    have hF := fun q (h1 : q ≠ am) => (hf14 q h1).trans (hF q h1)
                    refine lv_aload_n hx hb d_Ms_gather_198 rfl (lv_at hl 6 rfl) ?_
                    refine lv_aload_n hx hb d_Ms_gather_199 rfl (lv_at hl 6 rfl) ?_
                    refine ob_get S hI hM (C := R_Ms) (T := F_Ms) (N := 9) (ref := "WallFractions$Measure") rfl i_Ms 8 (by decide) rfl w_108 rfl d_Ms_gather_200 ?_
                    refine ob_put S hI hM (fs' := [.ref (ad), .ref (o mq), .ref (o G), .ref (o Ls), .ref (o Rs), .long (zL ec), .long (zL ed), .long (zL ec), .long (zL ed)]) (C := R_Ms) (T := F_Ms) (N := 9) (ref := "WallFractions$Measure") rfl i_Ms t_Ms t_Ms_ok n_Ms 6 (by decide) rfl w_106 rfl rfl rfl (by simp only [List.length]; decide) rfl d_Ms_gather_203 (fun f15 H locs hI hM hf15 => ?_)
                    have hF := fun q (h1 : q ≠ am) => (hf15 q h1).trans (hF q h1)
                    refine lv_aload_n hx hb d_Ms_gather_206 rfl (lv_at hl 6 rfl) ?_
                    refine lv_lload hx hb d_Ms_gather_207 (lv_at hl 1 rfl) ?_
                    refine ob_put S hI hM (fs' := [.ref (ad), .ref (o mq), .ref (o G), .ref (o Ls), .ref (o Rs), .long (zL ec), .long (zL ed), .long (zL (ea - (tm * ec))), .long (zL ed)]) (C := R_Ms) (T := F_Ms) (N := 9) (ref := "WallFractions$Measure") rfl i_Ms t_Ms t_Ms_ok n_Ms 7 (by decide) rfl w_107 rfl rfl rfl (by simp only [List.length]; decide) rfl d_Ms_gather_209 (fun f16 H locs hI hM hf16 => ?_)
                    have hF := fun q (h1 : q ≠ am) => (hf16 q h1).trans (hF q h1)
                    refine lv_aload_n hx hb d_Ms_gather_212 rfl (lv_at hl 6 rfl) ?_
                    refine lv_lload hx hb d_Ms_gather_213 (lv_at hl 0 rfl) ?_
                    refine ob_put S hI hM (fs' := [.ref (ad), .ref (o mq), .ref (o G), .ref (o Ls), .ref (o Rs), .long (zL ec), .long (zL ed), .long (zL (ea - (tm * ec))), .long (zL (eb - (tm * ed)))]) (C := R_Ms) (T := F_Ms) (N := 9) (ref := "WallFractions$Measure") rfl i_Ms t_Ms t_Ms_ok n_Ms 8 (by decide) rfl w_108 rfl rfl rfl (by simp only [List.length]; decide) rfl d_Ms_gather_215 (fun f17 H locs hI hM hf17 => ?_)
                    have hF := fun q (h1 : q ≠ am) => (hf17 q h1).trans (hF q h1)
                    refine lv_lload_n hx hb d_Ms_gather_218 rfl (lv_at hl 5 rfl) ?_
                    refine lv_lload hx hb d_Ms_gather_219 (lv_at hl 2 rfl) ?_
                    refine lv_lload hx hb d_Ms_gather_221 (lv_at hl 4 rfl) ?_
                    refine lv_lmul hx hb d_Ms_gather_223 ?_
                    refine hw_tl (zL_mul tm ey) ?_
                    refine lv_lsub hx hb d_Ms_gather_224 ?_
                    refine hw_tl (zL_sub ex (tm * ey)) ?_
                    refine lv_lstore (lv' := [(14, .long (zL (ex - (tm * ey)))), (12, .long (zL (eb - (tm * ed)))), (10, .long (zL (ea - (tm * ec)))), (8, .long (zL tm)), (7, .int (nI t)), (5, .long (zL ey)), (3, .long (zL ex)), (0, .ref (am))]) hx hb d_Ms_gather_225 hl (by decide) rfl (fun ls hl => ?_)
                    refine lv_lload hx hb d_Ms_gather_227 (lv_at hl 5 rfl) ?_
                    refine lv_lstore_n (lv' := [(3, .long (zL ey)), (14, .long (zL (ex - (tm * ey)))), (12, .long (zL (eb - (tm * ed)))), (10, .long (zL (ea - (tm * ec)))), (8, .long (zL tm)), (7, .int (nI t)), (5, .long (zL ey)), (0, .ref (am))]) hx hb d_Ms_gather_229 rfl hl (by decide) rfl (fun ls hl => ?_)
                    refine lv_lload hx hb d_Ms_gather_230 (lv_at hl 1 rfl) ?_
                    refine lv_lstore (lv' := [(5, .long (zL (ex - (tm * ey)))), (3, .long (zL ey)), (14, .long (zL (ex - (tm * ey)))), (12, .long (zL (eb - (tm * ed)))), (10, .long (zL (ea - (tm * ec)))), (8, .long (zL tm)), (7, .int (nI t)), (0, .ref (am))]) hx hb d_Ms_gather_232 hl (by decide) rfl (fun ls hl => ?_)
                    refine lv_iinc (v := nI (t + 1)) (lv' := [(7, .int (nI (t + 1))), (5, .long (zL (ex - (tm * ey)))), (3, .long (zL ey)), (14, .long (zL (ex - (tm * ey)))), (12, .long (zL (eb - (tm * ed)))), (10, .long (zL (ea - (tm * ec)))), (8, .long (zL tm)), (0, .ref (am))]) hx hb d_Ms_gather_234 hl (k := 6) rfl (nI_1 _) (by decide) rfl (fun ls hl => ?_)
                    refine lv_goto (tgt := 56) hx hb d_Ms_gather_237 (by decide) ?_
                    exact ih (t + 1) _ _ _ _ _ _ _ _ _ _ (by omega) hS hM hF hI (lv_sub hl [0, 1, 2, 7] rfl)
                  · refine lv_goto (tgt := 240) hx hb d_Ms_gather_187 (by decide) ?_
                    exact hw_vret hx hb hr hlocks hI d_Ms_gather_240 ⟨rfl, rfl, ⟨ea, eb, ec, ed, hM, hLe.fin.1, hLe.fin.2⟩, hF⟩
              · refine lv_goto (tgt := 240) hx hb d_Ms_gather_132 (by decide) ?_
                exact hw_vret hx hb hr hlocks hI d_Ms_gather_240 ⟨rfl, rfl, ⟨ea, eb, ec, ed, hM, hLe.fin.1, hLe.fin.2⟩, hF⟩
  refine lv_lstore (lv' := [(5, .long (lN (x Ls / U))), (3, .long (lN (x G / U))), (1, .long (lN tT)), (0, .ref (am))]) hx hb d_Ms_gather_31 hl (by decide) rfl (fun ls hl => ?_)
  refine lv_aload_n hx hb d_Ms_gather_33 rfl (lv_at hl 3 rfl) ?_
  refine lv_lconst (v := lN 1) hx hb d_Ms_gather_34 rfl ?_
  refine ob_put S hI hM (fs' := [.ref (ad), .ref (o mq), .ref (o G), .ref (o Ls), .ref (o Rs), .long (lN 1), .long (zL eb), .long (zL ec), .long (zL ed)]) (C := R_Ms) (T := F_Ms) (N := 9) (ref := "WallFractions$Measure") rfl i_Ms t_Ms t_Ms_ok n_Ms 5 (by decide) rfl w_105 rfl rfl rfl (by simp only [List.length]; decide) rfl d_Ms_gather_35 (fun f18 H locs hI hM hf18 => ?_)
  have hF := fun q (h1 : q ≠ am) => (hf18 q h1).trans (hF q h1)
  refine lv_aload_n hx hb d_Ms_gather_38 rfl (lv_at hl 3 rfl) ?_
  refine lv_lconst (v := lN 0) hx hb d_Ms_gather_39 rfl ?_
  refine ob_put S hI hM (fs' := [.ref (ad), .ref (o mq), .ref (o G), .ref (o Ls), .ref (o Rs), .long (lN 1), .long (lN 0), .long (zL ec), .long (zL ed)]) (C := R_Ms) (T := F_Ms) (N := 9) (ref := "WallFractions$Measure") rfl i_Ms t_Ms t_Ms_ok n_Ms 6 (by decide) rfl w_106 rfl rfl rfl (by simp only [List.length]; decide) rfl d_Ms_gather_40 (fun f19 H locs hI hM hf19 => ?_)
  have hF := fun q (h1 : q ≠ am) => (hf19 q h1).trans (hF q h1)
  refine lv_aload_n hx hb d_Ms_gather_43 rfl (lv_at hl 3 rfl) ?_
  refine lv_lconst (v := lN 0) hx hb d_Ms_gather_44 rfl ?_
  refine ob_put S hI hM (fs' := [.ref (ad), .ref (o mq), .ref (o G), .ref (o Ls), .ref (o Rs), .long (lN 1), .long (lN 0), .long (lN 0), .long (zL ed)]) (C := R_Ms) (T := F_Ms) (N := 9) (ref := "WallFractions$Measure") rfl i_Ms t_Ms t_Ms_ok n_Ms 7 (by decide) rfl w_107 rfl rfl rfl (by simp only [List.length]; decide) rfl d_Ms_gather_45 (fun f20 H locs hI hM hf20 => ?_)
  have hF := fun q (h1 : q ≠ am) => (hf20 q h1).trans (hF q h1)
  refine lv_aload_n hx hb d_Ms_gather_48 rfl (lv_at hl 3 rfl) ?_
  refine lv_lconst (v := lN 1) hx hb d_Ms_gather_49 rfl ?_
  refine ob_put S hI hM (fs' := [.ref (ad), .ref (o mq), .ref (o G), .ref (o Ls), .ref (o Rs), .long (lN 1), .long (lN 0), .long (lN 0), .long (lN 1)]) (C := R_Ms) (T := F_Ms) (N := 9) (ref := "WallFractions$Measure") rfl i_Ms t_Ms t_Ms_ok n_Ms 8 (by decide) rfl w_108 rfl rfl rfl (by simp only [List.length]; decide) rfl d_Ms_gather_50 (fun f21 H locs hI hM hf21 => ?_)
  have hF := fun q (h1 : q ≠ am) => (hf21 q h1).trans (hF q h1)
  refine lv_iconst (v := nI 0) hx hb d_Ms_gather_53 (by decide) ?_
  refine lv_istore (lv' := [(7, .int (nI 0)), (5, .long (lN (x Ls / U))), (3, .long (lN (x G / U))), (1, .long (lN tT)), (0, .ref (am))]) hx hb d_Ms_gather_54 hl (by decide) rfl (fun ls hl => ?_)
  exact loop 100000 0 _ _ _ _ _ _ _ _ _ _ (by omega) (le_start hle) hM hF hI (lv_sub hl [0, 1, 2, 4] rfl)

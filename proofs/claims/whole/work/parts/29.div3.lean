set_option maxHeartbeats 4000000 in
set_option maxRecDepth 100000 in
theorem c_Dv_splitLong (l : Launch) (D : va_G) (t0 : Nat) (L : List Nat) (f : Nat → va_E) (sz : Nat) (o r : Nat → Nat) (N : Nat) (x : Nat → Nat) (ad al ab : Nat) (u w : Nat → Nat) (j k qa qb : Nat) (hY : Lay o r N) (hN : AllN D L f o r N x) (hA : hw_c L f ad (.inr (0, [.ref al, .ref ab]))) (hU : arrN D L f al 42 u) (hWb : arrN D L f ab 42 w) (hab : al ≠ ab) (hral : ∀ z, z < N → al ≠ r z) (hrab : ∀ z, z < N → ab ≠ r z) (hj : j < N) (hk : k < N) (hqa : qa < N) (hqb : qb < N) (hq2 : qa ≠ qb) (hk2 : nB ≤ x k) (hjk : ∀ z, x j < nB ^ z → x k < nB ^ z) : Met l y_Dv_splitLong (Cond.code y_Dv_splitLong b_Dv_splitLong 10 none :: TT) ({ frames := 7, cells := 0, slots := 0, locals := 139 } : Room) (hw_Pc t0 [.ref (ad), .ref (o j), .ref (o k), .ref (o qa), .ref (o qb)] D L f sz) (hw_Q D L sz (fun oc L' f' => oc = .returned none ∧ L = L' ∧ AllN D L f' o r N (va_up (va_up x qa (x j / x k)) qb (x j % x k)) ∧ (∃ u' w', arrN D L f' al 42 u' ∧ arrN D L f' ab 42 w') ∧ ∀ q, q ≠ o qa → q ≠ r qa → q ≠ o qb → q ≠ r qb → q ≠ al → q ≠ ab → f' q = f q)) 0 0 (hw_A L sz) := by
  refine Met.ofW (cc := b_Dv_splitLong) (maxL := 10) (ret := none) (by decide) rfl ?_
  intro p e s m args below meth c s₁ B hml hv
  obtain ⟨rfl, rfl, hI⟩ := hw_start hv
  clear hv
  have hx := B.exec
  have hb := B.bytes
  have hr := B.returns
  have hlocks := B.notSynchronized
  have hown : s.vm.findClass "WallFractions$Divider" = some m.cls := findClass_of_methodNamed B.named
  have hT : ∀ w ∈ TT, w.before ([.ref (ad), .ref (o j), .ref (o k), .ref (o qa), .ref (o qb)]).toArray s = true := fun w h => atoms_spec (ws := (Cond.code y_Dv_splitLong b_Dv_splitLong 10 none :: TT)) B.pre w (List.mem_cons_of_mem _ h)
  have S : CallFix p m c b_Dv_splitLong 10 s ([.ref (ad), .ref (o j), .ref (o k), .ref (o qa), .ref (o qb)]).toArray TT "WallFractions$Divider" := ⟨hx, hb, hml, hown, hT⟩
  have hl := lv_entry ([.ref (ad), .ref (o j), .ref (o k), .ref (o qa), .ref (o qb)]) (n := 10) (Nat.le_of_ble_eq_true rfl)
  rw [lg_entry_eq]
  generalize (lg_sl ([.ref (ad), .ref (o j), .ref (o k), .ref (o qa), .ref (o qb)]) ++ List.replicate (10 - (lg_sl ([.ref (ad), .ref (o j), .ref (o k), .ref (o qa), .ref (o qb)])).length) Slot.unset).toArray = ls at hl ⊢
  have hl : lv_has ls 10 [(0, .ref (ad)), (1, .ref (o j)), (2, .ref (o k)), (3, .ref (o qa)), (4, .ref (o qb))] := hl
  skip
  obtain ⟨v, hV, hO⟩ := hN
  have hnB : nB = 1000000000 := rfl
  have h41j := (hO j hj).1
  have h41k := (hO k hk).1
  have hnm0 : (v k).1 ≤ (v j).1 := ((hO k hk).2.size_le nB1).mpr (hjk _ (hO j hj).2.lt)
  have hn20 : 2 ≤ (v k).1 := by rcases Nat.lt_or_ge 1 (v k).1 with q | q; exact q; have q1 := ((hO k hk).2.size_le nB1).mp q; rw [Nat.pow_one] at q1; omega
  obtain ⟨n, hn⟩ : ∃ n, n = (v k).1 := ⟨_, rfl⟩
  obtain ⟨m9, hm⟩ : ∃ m9, m9 = (v j).1 := ⟨_, rfl⟩
  obtain ⟨tp, htp⟩ : ∃ tp, tp = (v k).2 (n - 1) := ⟨_, rfl⟩
  obtain ⟨sc, hsc⟩ : ∃ sc, sc = nB / (tp + 1) := ⟨_, rfl⟩
  have htp0 : 0 < tp := by rw [htp, hn]; exact (hO k hk).2.2.1 (by omega)
  have htpB : tp < nB := by rw [htp]; exact (hO k hk).2.1 _
  have hscB : sc ≤ nB := by rw [hsc]; exact Nat.div_le_self _ _
  have hVo : ∀ z, z < N → o z ≠ al := fun z hz => hV.ne hU hz
  have hVp : ∀ z, z < N → o z ≠ ab := fun z hz => hV.ne hWb hz
  have hadl : ad ≠ al := fun e9 => hw_ne hU hA e9.symm
  have hadb : ad ≠ ab := fun e9 => hw_ne hWb hA e9.symm
  have hado : ∀ z, z < N → ad ≠ o z := fun z hz e9 => by have h9 := (hV z hz).1.2; rw [← e9, hA.2] at h9; cases h9
  have hadr : ∀ z, z < N → ad ≠ r z := fun z hz e9 => hw_ne (hV z hz).2 hA e9.symm
  refine lv_aload_n hx hb d_Dv_splitLong_0 rfl (lv_at hl 2 rfl) ?_
  refine wh_sizeN S hI hV hk (by decide) d_Dv_splitLong_1 ?_
  refine hw_ti (show _ = nI n from by rw [hn]) ?_
  refine lv_istore (lv' := [(5, .int (nI n)), (0, .ref (ad)), (1, .ref (o j)), (2, .ref (o k)), (3, .ref (o qa)), (4, .ref (o qb))]) hx hb d_Dv_splitLong_4 hl (by decide) rfl (fun ls hl => ?_)
  refine lv_aload_n hx hb d_Dv_splitLong_6 rfl (lv_at hl 2 rfl) ?_
  refine wh_sizeN S hI hV hj (by decide) d_Dv_splitLong_7 ?_
  refine hw_ti (show _ = nI m9 from by rw [hm]) ?_
  refine lv_iload hx hb d_Dv_splitLong_10 (lv_at hl 0 rfl) ?_
  refine lv_isub hx hb d_Dv_splitLong_12 ?_
  refine hw_ti (pk_sub (by omega)) ?_
  refine lv_istore (lv' := [(6, .int (nI (m9 - n))), (5, .int (nI n)), (0, .ref (ad)), (1, .ref (o j)), (2, .ref (o k)), (3, .ref (o qa)), (4, .ref (o qb))]) hx hb d_Dv_splitLong_13 hl (by decide) rfl (fun ls hl => ?_)
  refine lv_aload_n hx hb d_Dv_splitLong_15 rfl (lv_at hl 4 rfl) ?_
  refine wh_limbsN S hI hV hk (by decide) d_Dv_splitLong_16 ?_
  refine lv_iload hx hb d_Dv_splitLong_19 (lv_at hl 1 rfl) ?_
  refine lv_iconst (v := nI 1) hx hb d_Dv_splitLong_21 (by decide) ?_
  refine lv_isub hx hb d_Dv_splitLong_22 ?_
  refine hw_ti (pk_sub (by omega)) ?_
  refine wh_ld S hI hV hk (by omega) d_Dv_splitLong_23 ?_
  refine hw_tl (show _ = lN tp from by rw [htp]) ?_
  refine hw_cSN (As := [.long (lN tp)]) (rest := []) S hI m_Wh_requireDivisor (by decide +kernel) (c_Wh_requireDivisor l D t0 L _ _ tp htp0 (by omega)) hl.1 rfl rfl (Nat.le_of_ble_eq_true rfl) d_Dv_splitLong_24 ⟨Nat.le_of_ble_eq_true rfl, Nat.le_of_ble_eq_true rfl⟩ ⟨Nat.le_of_ble_eq_true rfl, Nat.le_of_ble_eq_true rfl⟩ (fun v9 L9 f1 H locs hp hI => ?_)
  refine W.cs (cells' := 0) (slots' := 0) rfl rfl ?_
  obtain ⟨hv9, rfl, rfl⟩ := hp
  cases hv9
  refine hw_stk (st' := []) rfl ?_
  refine hw_ldc2 (v := lN nB) hx hb hown (hT _ w_482) d_Dv_splitLong_27 ?_
  refine lv_aload_n hx hb d_Dv_splitLong_30 rfl (lv_at hl 4 rfl) ?_
  refine wh_limbsN S hI hV hk (by decide) d_Dv_splitLong_31 ?_
  refine lv_iload hx hb d_Dv_splitLong_34 (lv_at hl 1 rfl) ?_
  refine lv_iconst (v := nI 1) hx hb d_Dv_splitLong_36 (by decide) ?_
  refine lv_isub hx hb d_Dv_splitLong_37 ?_
  refine hw_ti (pk_sub (by omega)) ?_
  refine wh_ld S hI hV hk (by omega) d_Dv_splitLong_38 ?_
  refine hw_tl (show _ = lN tp from by rw [htp]) ?_
  refine lv_lconst (v := lN 1) hx hb d_Dv_splitLong_39 rfl ?_
  refine lv_ladd hx hb d_Dv_splitLong_40 ?_
  refine hw_tl (lN_add _ _) ?_
  refine lv_ldiv hx hb d_Dv_splitLong_41 (by intro h9; have h8 := (pk_lEQ (b := 0) (by omega) (by decide)).mp h9; omega) ?_
  refine hw_tl (pk_lDiv (by omega) (by omega) (by omega)) ?_
  refine hw_tl (show _ = lN sc from by rw [hsc]) ?_
  refine lv_lstore (lv' := [(7, .long (lN sc)), (6, .int (nI (m9 - n))), (5, .int (nI n)), (0, .ref (ad)), (1, .ref (o j)), (2, .ref (o k)), (3, .ref (o qa)), (4, .ref (o qb))]) hx hb d_Dv_splitLong_42 hl (by decide) rfl (fun ls hl => ?_)
  refine lv_aload_n hx hb d_Dv_splitLong_44 rfl (lv_at hl 4 rfl) ?_
  refine lv_lload hx hb d_Dv_splitLong_45 (lv_at hl 0 rfl) ?_
  refine lv_aload_n hx hb d_Dv_splitLong_47 rfl (lv_at hl 3 rfl) ?_
  refine dv_left S hI hA d_Dv_splitLong_48 ?_
  refine hw_cS (As := [.ref (o j), .long (lN sc), .ref (al)]) (rest := []) S hI m_Dv_lay w_483 (c_Dv_lay l D t0 L _ _ o r N v j al u sc hj hV hU hral h41j (hO j hj).2.1 hscB) hl.1 rfl rfl (Nat.le_of_ble_eq_true rfl) d_Dv_splitLong_51 ⟨Nat.le_of_ble_eq_true rfl, Nat.le_of_ble_eq_true rfl⟩ ⟨Nat.le_of_ble_eq_true rfl, Nat.le_of_ble_eq_true rfl⟩ (fun v9 L9 f2 H locs hp hI => ?_)
  refine W.cs (cells' := 0) (slots' := 0) rfl rfl ?_
  obtain ⟨hv9, rfl, u1, hU, hu1, hu2, hf1⟩ := hp
  cases hv9
  refine hw_stk (st' := []) rfl ?_
  have hV := hV.fr (fun z hz => ⟨hf1 _ (hVo z hz), hf1 _ (fun e9 => hral z hz e9.symm)⟩)
  have hA := hA.fr (hf1 _ hadl)
  have hWb : arrN D L f2 ab 42 w := hWb.fr (hf1 _ (fun e9 => hab e9.symm))
  refine lv_aload_n hx hb d_Dv_splitLong_54 rfl (lv_at hl 5 rfl) ?_
  refine lv_lload hx hb d_Dv_splitLong_55 (lv_at hl 0 rfl) ?_
  refine lv_aload_n hx hb d_Dv_splitLong_57 rfl (lv_at hl 3 rfl) ?_
  refine dv_by S hI hA d_Dv_splitLong_58 ?_
  refine hw_cS (As := [.ref (o k), .long (lN sc), .ref (ab)]) (rest := []) S hI m_Dv_lay w_483 (c_Dv_lay l D t0 L _ _ o r N v k ab w sc hk hV hWb hrab h41k (hO k hk).2.1 hscB) hl.1 rfl rfl (Nat.le_of_ble_eq_true rfl) d_Dv_splitLong_61 ⟨Nat.le_of_ble_eq_true rfl, Nat.le_of_ble_eq_true rfl⟩ ⟨Nat.le_of_ble_eq_true rfl, Nat.le_of_ble_eq_true rfl⟩ (fun v9 L9 f3 H locs hp hI => ?_)
  refine W.cs (cells' := 0) (slots' := 0) rfl rfl ?_
  obtain ⟨hv9, rfl, w1, hWb, hw1, hw2, hf2⟩ := hp
  cases hv9
  refine hw_stk (st' := []) rfl ?_
  have hV := hV.fr (fun z hz => ⟨hf2 _ (hVp z hz), hf2 _ (fun e9 => hrab z hz e9.symm)⟩)
  have hA := hA.fr (hf2 _ hadb)
  have hU : arrN D L f3 al 42 u1 := hU.fr (hf2 _ hab)
  have hF0 := fun q (h1 : q ≠ al) (h2 : q ≠ ab) => (hf2 q h2).trans (hf1 q h1)
  obtain ⟨hw1n, hVe, hnorm, hs1, hs2⟩ := sc_row (hO k hk).2 (by omega) (by rw [← hn, ← htp]; exact hsc) hw1 hw2
  rw [(hO j hj).2.2.2, ← hm] at hu2
  rw [← hn] at hVe hnorm hw1 hnm0 hn20
  rw [← hm] at hu1 hnm0
  have hV0 : 0 < nvb nB w1 n := by rw [hVe]; exact Nat.mul_pos (by omega) (by omega)
  have hwB := hw1 (n - 1) (by omega)
  refine lv_aload_n hx hb d_Dv_splitLong_64 rfl (lv_at hl 3 rfl) ?_
  refine dv_by S hI hA d_Dv_splitLong_65 ?_
  refine lv_iload hx hb d_Dv_splitLong_68 (lv_at hl 2 rfl) ?_
  refine lv_iconst (v := nI 1) hx hb d_Dv_splitLong_70 (by decide) ?_
  refine lv_isub hx hb d_Dv_splitLong_71 ?_
  refine hw_ti (pk_sub (by omega)) ?_
  refine ar_ld S hI hWb (by decide) (by omega) d_Dv_splitLong_72 ?_
  refine hw_cSN (As := [.long (lN (w1 (n - 1)))]) (rest := []) S hI m_Wh_requireDivisor (by decide +kernel) (c_Wh_requireDivisor l D t0 L _ _ (w1 (n - 1)) (by omega) (by omega)) hl.1 rfl rfl (Nat.le_of_ble_eq_true rfl) d_Dv_splitLong_73 ⟨Nat.le_of_ble_eq_true rfl, Nat.le_of_ble_eq_true rfl⟩ ⟨Nat.le_of_ble_eq_true rfl, Nat.le_of_ble_eq_true rfl⟩ (fun v9 L9 f4 H locs hp hI => ?_)
  refine W.cs (cells' := 0) (slots' := 0) rfl rfl ?_
  obtain ⟨hv9, rfl, rfl⟩ := hp
  cases hv9
  refine hw_stk (st' := []) rfl ?_
  have loop : ∀ (pl : Nat) (h u2 : Nat → Nat) (f1 : Nat → va_E) (H : Heap) (locs : List Loc) (ls : Array Slot), pl ≤ m9 - n + 1 → (∀ q, h q < nB) → (∀ q, q ≤ m9 → u2 q < nB) → nvb nB u2 (pl + n) < nvb nB w1 n * nB ^ pl → x j * sc = nvb nB (nsh h pl) (m9 - n + 1 - pl) * nvb nB w1 n * nB ^ pl + nvb nB u2 (pl + n) → AllW D L f1 o r N (va_up v qa ((v qa).1, h)) → hw_c L f1 ad (.inr (0, [.ref al, .ref ab])) → arrN D L f1 al 42 u2 → arrN D L f1 ab 42 w1 → (∀ q, q ≠ r qa → q ≠ al → q ≠ ab → f1 q = f q) → hw_I D t0 (hw_A L s.heap.size) s L f1 H locs → lv_has ls 10 [(9, .int (mI pl)), (7, .long (lN sc)), (6, .int (nI (m9 - n))), (5, .int (nI n)), (0, .ref (ad)), (1, .ref (o j)), (2, .ref (o k)), (3, .ref (o qa)), (4, .ref (o qb))] → W p l e (headSpec (Cond.code y_Dv_splitLong b_Dv_splitLong 10 none :: TT) ({ frames := 7, cells := 0, slots := 0, locals := 139 } : Room)).room s m ([.ref (ad), .ref (o j), .ref (o k), .ref (o qa), .ref (o qb)]).toArray below meth c H locs 0 0 (MQ below (hw_Q D L s.heap.size (fun oc L' f' => oc = .returned none ∧ L = L' ∧ AllN D L f' o r N (va_up (va_up x qa (x j / x k)) qb (x j % x k)) ∧ (∃ u' w', arrN D L f' al 42 u' ∧ arrN D L f' ab 42 w') ∧ ∀ q, q ≠ o qa → q ≠ r qa → q ≠ o qb → q ≠ r qb → q ≠ al → q ≠ ab → f' q = f q)) ([.ref (ad), .ref (o j), .ref (o k), .ref (o qa), .ref (o qb)]).toArray s 0 0 (hw_A L s.heap.size)) (F0 m 80 ls []) := by
    intro pl
    induction pl with
    | zero =>
      intro h u2 f1 H locs ls hpl hB hu2B hR hX hV hA hU hWb hF hI hl
      rw [nsh0, Nat.sub_zero, Nat.pow_zero, Nat.mul_one, Nat.zero_add] at hX
      rw [Nat.pow_zero, Nat.mul_one, Nat.zero_add] at hR
      obtain ⟨hQ, hRs⟩ := sl_fin hX hR hVe rfl (by omega)
      refine lv_iload hx hb d_Dv_splitLong_80 (lv_at hl 0 rfl) ?_
      refine hw_m0 (tgt := 106) hx hb d_Dv_splitLong_82 (by decide) ?_
      refine lv_aload_n hx hb d_Dv_splitLong_106 rfl (lv_at hl 7 rfl) ?_
      refine lv_iload hx hb d_Dv_splitLong_107 (lv_at hl 2 rfl) ?_
      refine lv_iconst (v := nI 1) hx hb d_Dv_splitLong_109 (by decide) ?_
      refine lv_iadd hx hb d_Dv_splitLong_110 ?_
      refine hw_ti (nI_add _ _) ?_
      refine hw_cVN (As := [.int (nI ((m9 - n) + 1))]) (rest := []) S hI m_Wh_settle (by decide +kernel) (c_Wh_settle l D t0 L _ _ o r N (va_up v qa ((v qa).1, h)) qa (m9 - n + 1) hqa hY hV (by omega) (by rw [hw_up_eq]; exact hB)) (hV _ hqa).1 rfl hl.1 rfl rfl (Nat.le_of_ble_eq_true rfl) d_Dv_splitLong_111 ⟨Nat.le_of_ble_eq_true rfl, Nat.le_of_ble_eq_true rfl⟩ ⟨Nat.le_of_ble_eq_true rfl, Nat.le_of_ble_eq_true rfl⟩ (fun v9 L9 f5 H locs hp hI => ?_)
      refine W.cs (cells' := 0) (slots' := 0) rfl rfl ?_
      obtain ⟨hv9, rfl, n9, hn9, hk9, hV, hf9⟩ := hp
      cases hv9
      refine hw_stk (st' := []) rfl ?_
      rw [hw_up_eq] at hk9
      have hV : AllW D L f5 o r N (va_up v qa (n9, h)) := by simpa only [hw_up_eq, bx_uu] using hV
      have hA := hA.fr (hf9 _ (hado qa hqa))
      have hU : arrN D L f5 al 42 u2 := hU.fr (hf9 _ (fun e9 => hVo qa hqa e9.symm))
      have hWb : arrN D L f5 ab 42 w1 := hWb.fr (hf9 _ (fun e9 => hVp qa hqa e9.symm))
      have eb : va_up v qa (n9, h) qb = v qb := hw_up_ne (fun e9 => hq2 e9.symm)
      refine lv_aload_n hx hb d_Dv_splitLong_114 rfl (lv_at hl 4 rfl) ?_
      refine dv_left S hI hA d_Dv_splitLong_115 ?_
      refine lv_iconst (v := nI 0) hx hb d_Dv_splitLong_118 (by decide) ?_
      refine lv_aload hx hb d_Dv_splitLong_119 (lv_at hl 8 rfl) ?_
      refine wh_limbsN S hI hV hqb (by decide) d_Dv_splitLong_121 ?_
      refine lv_iconst (v := nI 0) hx hb d_Dv_splitLong_124 (by decide) ?_
      refine lv_iload hx hb d_Dv_splitLong_125 (lv_at hl 3 rfl) ?_
      refine wh_copy S hI hV hY hqb hU hl.1 w_502 (by omega) (by omega) (Nat.le_of_ble_eq_true rfl) (Nat.le_of_ble_eq_true rfl) d_Dv_splitLong_127 (fun f2 H locs hI hV hF2 => ?_)
      rw [eb] at hV
      obtain ⟨g9, hg9⟩ : ∃ g9 : Nat → Nat, g9 = fun q => if q < n then u2 q else (v qb).2 q := ⟨_, rfl⟩
      rw [← hg9] at hV
      have hg9B : ∀ q, g9 q < nB := fun q => by rw [hg9]; dsimp only; split; exact hu2B q (by omega); exact (hO qb hqb).2.1 q
      have hg9v : nvb nB g9 n = nvb nB u2 n := nvb_congr (fun q hq => by rw [hg9]; dsimp only; rw [if_pos hq])
      have hU : arrN D L f2 al 42 u2 := hU.fr (hF2 _ (hral qb hqb))
      have hWb : arrN D L f2 ab 42 w1 := hWb.fr (hF2 _ (hrab qb hqb))
      refine lv_aload hx hb d_Dv_splitLong_130 (lv_at hl 8 rfl) ?_
      refine lv_iload hx hb d_Dv_splitLong_132 (lv_at hl 3 rfl) ?_
      refine hw_cVN (As := [.int (nI n)]) (rest := []) S hI m_Wh_settle (by decide +kernel) (c_Wh_settle l D t0 L _ _ o r N (va_up (va_up v qa (n9, h)) qb ((v qb).1, g9)) qb n hqb hY hV (by omega) (by rw [hw_up_eq]; exact hg9B)) (hV _ hqb).1 rfl hl.1 rfl rfl (Nat.le_of_ble_eq_true rfl) d_Dv_splitLong_134 ⟨Nat.le_of_ble_eq_true rfl, Nat.le_of_ble_eq_true rfl⟩ ⟨Nat.le_of_ble_eq_true rfl, Nat.le_of_ble_eq_true rfl⟩ (fun v9 L9 f6 H locs hp hI => ?_)
      refine W.cs (cells' := 0) (slots' := 0) rfl rfl ?_
      obtain ⟨hv9, rfl, n10, hn10, hk10, hV, hf10⟩ := hp
      cases hv9
      refine hw_stk (st' := []) rfl ?_
      rw [hw_up_eq] at hk10
      have hV : AllW D L f6 o r N (va_up (va_up v qa (n9, h)) qb (n10, g9)) := by simpa only [hw_up_eq, bx_uu] using hV
      have hU : arrN D L f6 al 42 u2 := hU.fr (hf10 _ (fun e9 => hVo qb hqb e9.symm))
      have hWb : arrN D L f6 ab 42 w1 := hWb.fr (hf10 _ (fun e9 => hVp qb hqb e9.symm))
      have hN1 := AllN.mk (upO hO (by omega) hk9) hV (by omega) hk10
      rw [hg9v] at hN1
      refine lv_aload hx hb d_Dv_splitLong_137 (lv_at hl 8 rfl) ?_
      refine lv_aload hx hb d_Dv_splitLong_139 (lv_at hl 8 rfl) ?_
      refine lv_lload hx hb d_Dv_splitLong_141 (lv_at hl 1 rfl) ?_
      refine hw_cV (As := [.ref (o qb), .long (lN sc)]) (rest := []) S hI m_Wh_becomeQuotient w_472 (c_Wh_becomeQuotient l D t0 L _ _ o r N _ qb qb sc hqb hY hN1 hqb (by omega) hscB) (hV _ hqb).1 rfl hl.1 rfl rfl (Nat.le_of_ble_eq_true rfl) d_Dv_splitLong_143 ⟨Nat.le_of_ble_eq_true rfl, Nat.le_of_ble_eq_true rfl⟩ ⟨Nat.le_of_ble_eq_true rfl, Nat.le_of_ble_eq_true rfl⟩ (fun v9 L9 f7 H locs hp hI => ?_)
      refine W.cs (cells' := 0) (slots' := 0) rfl rfl ?_
      obtain ⟨hv9, rfl, hN2, hf12⟩ := hp
      cases hv9
      refine hw_stk (st' := [.long (lN ((va_up (va_up x qa (nvb nB h (m9 - n + 1))) qb (nvb nB u2 n)) qb % sc))]) rfl ?_
      have hU : arrN D L f7 al 42 u2 := hU.fr (hf12 _ (fun e9 => hVo qb hqb e9.symm) (hral qb hqb))
      have hWb : arrN D L f7 ab 42 w1 := hWb.fr (hf12 _ (fun e9 => hVp qb hqb e9.symm) (hrab qb hqb))
      rw [hw_up_eq, bx_uu, hQ, hRs] at hN2
      refine lv_pop2_2 hx hb d_Dv_splitLong_146 rfl ?_
      exact hw_vret hx hb hr hlocks hI d_Dv_splitLong_147 ⟨rfl, rfl, hN2, ⟨u2, w1, hU, hWb⟩, fun q h1 h2 h3 h4 h5 h6 => (hf12 q h3 h4).trans ((hf10 q h3).trans ((hF2 q h4).trans ((hf9 q h1).trans (hF q h2 h5 h6))))⟩
    | succ pl ih =>
      intro h u2 f1 H locs ls hpl hB hu2B hR hX hV hA hU hWb hF hI hl
      rw [mI_s] at hl
      refine lv_iload hx hb d_Dv_splitLong_80 (lv_at hl 0 rfl) ?_
      refine hw_if_lt (tgt := 106) hx hb d_Dv_splitLong_82 (by decide) (by omega) ?_
      refine lv_aload_n hx hb d_Dv_splitLong_85 rfl (lv_at hl 7 rfl) ?_
      refine wh_limbsN S hI hV hqa (by decide) d_Dv_splitLong_86 ?_
      refine lv_iload hx hb d_Dv_splitLong_89 (lv_at hl 0 rfl) ?_
      refine lv_aload_n hx hb d_Dv_splitLong_91 rfl (lv_at hl 4 rfl) ?_
      refine lv_iload hx hb d_Dv_splitLong_92 (lv_at hl 0 rfl) ?_
      refine lv_iload hx hb d_Dv_splitLong_94 (lv_at hl 3 rfl) ?_
      have hltU : nvb nB (nsh u2 pl) (n + 1) < nvb nB w1 n * nB := ld_lt hR
      refine hw_cV (As := [.int (nI pl), .int (nI n)]) (rest := [.int (nI pl), .ref (r qa)]) S hI m_Dv_takeOff w_486 (c_Dv_takeOff l D t0 L _ _ ad al ab u2 w1 pl n hA hU hWb hab hn20 (by omega) (fun q hq => hu2B _ (by omega)) (fun q hq => hw1 q (by omega)) hnorm hltU) hA rfl hl.1 rfl rfl (Nat.le_of_ble_eq_true rfl) d_Dv_splitLong_96 ⟨Nat.le_of_ble_eq_true rfl, Nat.le_of_ble_eq_true rfl⟩ ⟨Nat.le_of_ble_eq_true rfl, Nat.le_of_ble_eq_true rfl⟩ (fun v9 L9 f8 H locs hp hI => ?_)
      refine W.cs (cells' := 0) (slots' := 0) rfl rfl ?_
      obtain ⟨hv9, rfl, u3, hU, hB3, h03, hr3, hO3, hf3⟩ := hp
      cases hv9
      refine hw_stk (st' := [.long (lN (nvb nB (nsh u2 pl) (n + 1) / nvb nB w1 n)), .int (nI pl), .ref (r qa)]) rfl ?_
      have hV := hV.fr (fun z hz => ⟨hf3 _ (hVo z hz), hf3 _ (fun e9 => hral z hz e9.symm)⟩)
      have hA := hA.fr (hf3 _ hadl)
      have hWb : arrN D L f8 ab 42 w1 := hWb.fr (hf3 _ (fun e9 => hab e9.symm))
      have hqB : nvb nB (nsh u2 pl) (n + 1) / nvb nB w1 n < nB := (Nat.div_lt_iff_lt_mul hV0).mpr (by rw [Nat.mul_comm]; exact hltU)
      refine wh_st S hI hV hY hqa (by omega) d_Dv_splitLong_99 (fun f9 H locs hI hV hf9 => ?_)
      have hV : AllW D L f9 o r N (va_up v qa ((v qa).1, va_up h pl (nvb nB (nsh u2 pl) (n + 1) / nvb nB w1 n))) := by simpa only [hw_up_eq, bx_uu] using hV
      have hA := hA.fr (hf9 _ (hadr qa hqa))
      have hU : arrN D L f9 al 42 u3 := hU.fr (hf9 _ (hral qa hqa))
      have hWb : arrN D L f9 ab 42 w1 := hWb.fr (hf9 _ (hrab qa hqa))
      refine lv_iinc (v := mI pl) (lv' := [(9, .int (mI pl)), (7, .long (lN sc)), (6, .int (nI (m9 - n))), (5, .int (nI n)), (0, .ref (ad)), (1, .ref (o j)), (2, .ref (o k)), (3, .ref (o qa)), (4, .ref (o qb))]) hx hb d_Dv_splitLong_100 hl (k := 0) rfl (mI_d pl) (by decide) rfl (fun ls hl => ?_)
      refine lv_goto (tgt := 80) hx hb d_Dv_splitLong_103 (by decide) ?_
      have hst := ld_step (m := m9 - n + 1) (by omega) (fun q hq => hu2B q (by omega)) (fun q hq => hO3 q (Or.inl hq)) hV0 hr3 hX
      exact ih (va_up h pl (nvb nB (nsh u2 pl) (n + 1) / nvb nB w1 n)) u3 _ _ _ _ (by omega) (fun q => by by_cases e9 : q = pl; (rw [e9, hw_up_eq]; exact hqB); (rw [hw_up_ne e9]; exact hB q)) (fun q hq => by rcases Nat.lt_or_ge q pl with h9 | h9; (rw [hO3 q (Or.inl h9)]; exact hu2B q hq); rcases Nat.lt_or_ge q (pl + n) with h8 | h8; (rw [show q = pl + (q - pl) by omega]; exact hB3 _ (by omega)); rcases Nat.eq_or_lt_of_le h8 with h7 | h7; (rw [← h7, h03]; exact nB_pos); (rw [hO3 q (Or.inr h7)]; exact hu2B q hq)) hst.1 hst.2 hV hA hU hWb (fun q h1 h2 h3 => (hf9 q h1).trans ((hf3 q h2).trans (hF q h1 h2 h3))) hI hl
  refine lv_iload hx hb d_Dv_splitLong_76 (lv_at hl 1 rfl) ?_
  refine lv_istore (lv' := [(9, .int (nI (m9 - n))), (7, .long (lN sc)), (6, .int (nI (m9 - n))), (5, .int (nI n)), (0, .ref (ad)), (1, .ref (o j)), (2, .ref (o k)), (3, .ref (o qa)), (4, .ref (o qb))]) hx hb d_Dv_splitLong_78 hl (by decide) rfl (fun ls hl => ?_)
  have hl : lv_has ls 10 [(9, .int (mI (m9 - n + 1))), (7, .long (lN sc)), (6, .int (nI (m9 - n))), (5, .int (nI n)), (0, .ref (ad)), (1, .ref (o j)), (2, .ref (o k)), (3, .ref (o qa)), (4, .ref (o qb))] := by rw [mI_s]; exact hl
  have hR0 : nvb nB u1 (m9 - n + 1 + n) < nvb nB w1 n * nB ^ (m9 - n + 1) := by
    rw [show m9 - n + 1 + n = m9 + 1 by omega, hu2, hVe]
    have e1 : x j < nB ^ m9 := by rw [hm]; exact (hO j hj).2.lt
    have e2 : nB ^ (n - 1) ≤ x k := by rw [hn]; exact (hO k hk).2.ge (by omega)
    have e3 : x j * sc < nB ^ m9 * sc := Nat.mul_lt_mul_of_pos_right e1 (by omega)
    have e4 : nB ^ m9 = nB ^ (n - 1) * nB ^ (m9 - n + 1) := by rw [← Nat.pow_add]; congr 1; omega
    have e5 := Nat.mul_le_mul_right (nB ^ (m9 - n + 1) * sc) e2
    have e6 : nB ^ m9 * sc = nB ^ (n - 1) * (nB ^ (m9 - n + 1) * sc) := by rw [e4]; grind
    have e7 : x k * sc * nB ^ (m9 - n + 1) = x k * (nB ^ (m9 - n + 1) * sc) := by grind
    omega
  exact loop (m9 - n + 1) (v qa).2 u1 _ _ _ _ (Nat.le_refl _) (hO qa hqa).2.1 hu1 hR0 (by rw [Nat.sub_self, nvb_zero, show m9 - n + 1 + n = m9 + 1 by omega, hu2]; omega) (fun z hz => by by_cases e9 : z = qa; (subst e9; rw [hw_up_eq]; exact hV z hz); (rw [hw_up_ne e9]; exact hV z hz)) hA hU hWb (fun q h1 h2 h3 => hF0 q h2 h3) hI hl

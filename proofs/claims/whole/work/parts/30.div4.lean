set_option maxHeartbeats 4000000 in
set_option maxRecDepth 100000 in
theorem c_Dv_split (l : Launch) (D : va_G) (t0 : Nat) (L : List Nat) (f : Nat → va_E) (sz : Nat) (o r : Nat → Nat) (N : Nat) (x : Nat → Nat) (ad al ab : Nat) (u w : Nat → Nat) (j k qa qb : Nat) (hY : Lay o r N) (hN : AllN D L f o r N x) (hA : hw_c L f ad (.inr (0, [.ref al, .ref ab]))) (hU : arrN D L f al 42 u) (hWb : arrN D L f ab 42 w) (hab : al ≠ ab) (hral : ∀ z, z < N → al ≠ r z) (hrab : ∀ z, z < N → ab ≠ r z) (hj : j < N) (hk : k < N) (hqa : qa < N) (hqb : qb < N) (hq2 : qa ≠ qb) (hk0 : 0 < x k) : Met l y_Dv_split (Cond.code y_Dv_split b_Dv_split 5 none :: TT) ({ frames := 8, cells := 0, slots := 0, locals := 168 } : Room) (hw_Pc t0 [.ref (ad), .ref (o j), .ref (o k), .ref (o qa), .ref (o qb)] D L f sz) (hw_Q D L sz (fun oc L' f' => oc = .returned none ∧ L = L' ∧ AllN D L f' o r N (va_up (va_up x qa (x j / x k)) qb (x j % x k)) ∧ (∃ u' w', arrN D L f' al 42 u' ∧ arrN D L f' ab 42 w') ∧ ∀ q, q ≠ o qa → q ≠ r qa → q ≠ o qb → q ≠ r qb → q ≠ al → q ≠ ab → f' q = f q)) 0 0 (hw_A L sz) := by
  refine Met.ofW (cc := b_Dv_split) (maxL := 5) (ret := none) (by decide) rfl ?_
  intro p e s m args below meth c s₁ B hml hv
  obtain ⟨rfl, rfl, hI⟩ := hw_start hv
  clear hv
  have hx := B.exec
  have hb := B.bytes
  have hr := B.returns
  have hlocks := B.notSynchronized
  have hown : s.vm.findClass "WallFractions$Divider" = some m.cls := findClass_of_methodNamed B.named
  have hT : ∀ w ∈ TT, w.before ([.ref (ad), .ref (o j), .ref (o k), .ref (o qa), .ref (o qb)]).toArray s = true := fun w h => atoms_spec (ws := (Cond.code y_Dv_split b_Dv_split 5 none :: TT)) B.pre w (List.mem_cons_of_mem _ h)
  have S : CallFix p m c b_Dv_split 5 s ([.ref (ad), .ref (o j), .ref (o k), .ref (o qa), .ref (o qb)]).toArray TT "WallFractions$Divider" := ⟨hx, hb, hml, hown, hT⟩
  have hl := lv_entry ([.ref (ad), .ref (o j), .ref (o k), .ref (o qa), .ref (o qb)]) (n := 5) (Nat.le_of_ble_eq_true rfl)
  rw [lg_entry_eq]
  generalize (lg_sl ([.ref (ad), .ref (o j), .ref (o k), .ref (o qa), .ref (o qb)]) ++ List.replicate (5 - (lg_sl ([.ref (ad), .ref (o j), .ref (o k), .ref (o qa), .ref (o qb)])).length) Slot.unset).toArray = ls at hl ⊢
  have hl : lv_has ls 5 [(0, .ref (ad)), (1, .ref (o j)), (2, .ref (o k)), (3, .ref (o qa)), (4, .ref (o qb))] := hl
  skip
  have hN0 := hN
  obtain ⟨v, hV, hO⟩ := hN
  have hnB : nB = 1000000000 := rfl
  have h41j := (hO j hj).1
  have h41k := (hO k hk).1
  have hVo : ∀ z, z < N → o z ≠ al := fun z hz => hV.ne hU hz
  have hVp : ∀ z, z < N → o z ≠ ab := fun z hz => hV.ne hWb hz
  refine lv_aload_n hx hb d_Dv_split_0 rfl (lv_at hl 2 rfl) ?_
  refine hw_cV (As := []) (rest := []) S hI m_Wh_isZero w_466 (c_Wh_isZero l D t0 L _ _ o r N x k hk hY hN0) (hV _ hk).1 rfl hl.1 rfl rfl (Nat.le_of_ble_eq_true rfl) d_Dv_split_1 ⟨Nat.le_of_ble_eq_true rfl, Nat.le_of_ble_eq_true rfl⟩ ⟨Nat.le_of_ble_eq_true rfl, Nat.le_of_ble_eq_true rfl⟩ (fun v9 L9 f10 H locs hp hI => ?_)
  refine W.cs (cells' := 0) (slots' := 0) rfl rfl ?_
  obtain ⟨hv9, rfl, rfl⟩ := hp
  cases hv9
  refine hw_stk (st' := [.int (if x k = 0 then nI 1 else nI 0)]) rfl ?_
  refine hw_ti (show _ = nI 0 from if_neg (by omega)) ?_
  refine hw_if_eq (tgt := 17) hx hb d_Dv_split_4 (by decide) (by omega) (fun c11 => ?_) (fun c11 => ?_)
  · refine lv_aload_n hx hb d_Dv_split_17 rfl (lv_at hl 1 rfl) ?_
    refine wh_sizeN S hI hV hj (by decide) d_Dv_split_18 ?_
    refine lv_aload_n hx hb d_Dv_split_21 rfl (lv_at hl 2 rfl) ?_
    refine wh_sizeN S hI hV hk (by decide) d_Dv_split_22 ?_
    refine hw_icmp_ge (tgt := 42) hx hb d_Dv_split_25 (by decide) (by omega) (by omega) (fun c12 => ?_) (fun c12 => ?_)
    · refine lv_aload_n hx hb d_Dv_split_42 rfl (lv_at hl 2 rfl) ?_
      refine wh_sizeN S hI hV hk (by decide) d_Dv_split_43 ?_
      refine lv_iconst (v := nI 1) hx hb d_Dv_split_46 (by decide) ?_
      refine hw_icmp_ne (tgt := 69) hx hb d_Dv_split_47 (by decide) (by omega) (by omega) (fun c15 => ?_) (fun c15 => ?_)
      · have hz := (hO k hk).2.zero nB_pos
        have hk2 : nB ≤ x k := by have h9 := (hO k hk).2.ge (by omega); have h8 : nB ^ 1 ≤ nB ^ ((v k).1 - 1) := Nat.pow_le_pow_right nB_pos (by omega); rw [Nat.pow_one] at h8; omega
        have hjk : ∀ z, x j < nB ^ z → x k < nB ^ z := fun z h9 => ((hO k hk).2.size_le nB1).mp (Nat.le_trans c12 (((hO j hj).2.size_le nB1).mpr h9))
        refine lv_aload_n hx hb d_Dv_split_69 rfl (lv_at hl 0 rfl) ?_
        refine lv_aload_n hx hb d_Dv_split_70 rfl (lv_at hl 1 rfl) ?_
        refine lv_aload_n hx hb d_Dv_split_71 rfl (lv_at hl 2 rfl) ?_
        refine lv_aload_n hx hb d_Dv_split_72 rfl (lv_at hl 3 rfl) ?_
        refine lv_aload hx hb d_Dv_split_73 (lv_at hl 4 rfl) ?_
        refine hw_cV (As := [.ref (o j), .ref (o k), .ref (o qa), .ref (o qb)]) (rest := []) S hI m_Dv_splitLong w_477 (c_Dv_splitLong l D t0 L _ _ o r N x ad al ab u w j k qa qb hY hN0 hA hU hWb hab hral hrab hj hk hqa hqb hq2 hk2 hjk) hA rfl hl.1 rfl rfl (Nat.le_of_ble_eq_true rfl) d_Dv_split_75 ⟨Nat.le_of_ble_eq_true rfl, Nat.le_of_ble_eq_true rfl⟩ ⟨Nat.le_of_ble_eq_true rfl, Nat.le_of_ble_eq_true rfl⟩ (fun v9 L9 f18 H locs hp hI => ?_)
        refine W.cs (cells' := 0) (slots' := 0) rfl rfl ?_
        obtain ⟨hv9, rfl, hN2, hUW, hf2⟩ := hp
        cases hv9
        refine hw_stk (st' := []) rfl ?_
        exact hw_vret hx hb hr hlocks hI d_Dv_split_78 ⟨rfl, rfl, hN2, hUW, hf2⟩
      · have hx1 : x k = (v k).2 0 := by have h9 := (hO k hk).2.2.2; rw [c15, nvb_succ, nvb_zero, Nat.pow_zero, Nat.mul_one, Nat.zero_add] at h9; exact h9.symm
        have hxB : x k < nB := by rw [hx1]; exact (hO k hk).2.1 0
        refine lv_aload hx hb d_Dv_split_50 (lv_at hl 4 rfl) ?_
        refine lv_aload_n hx hb d_Dv_split_52 rfl (lv_at hl 3 rfl) ?_
        refine lv_aload_n hx hb d_Dv_split_53 rfl (lv_at hl 1 rfl) ?_
        refine lv_aload_n hx hb d_Dv_split_54 rfl (lv_at hl 2 rfl) ?_
        refine wh_limbsN S hI hV hk (by decide) d_Dv_split_55 ?_
        refine lv_iconst (v := nI 0) hx hb d_Dv_split_58 (by decide) ?_
        refine wh_ld S hI hV hk (by omega) d_Dv_split_59 ?_
        refine hw_tl (show _ = lN (x k) from by rw [hx1]) ?_
        refine hw_cV (As := [.ref (o j), .long (lN (x k))]) (rest := [.ref (o qb)]) S hI m_Wh_becomeQuotient w_472 (c_Wh_becomeQuotient l D t0 L _ _ o r N x qa j (x k) hqa hY hN0 hj hk0 (by omega)) (hV _ hqa).1 rfl hl.1 rfl rfl (Nat.le_of_ble_eq_true rfl) d_Dv_split_60 ⟨Nat.le_of_ble_eq_true rfl, Nat.le_of_ble_eq_true rfl⟩ ⟨Nat.le_of_ble_eq_true rfl, Nat.le_of_ble_eq_true rfl⟩ (fun v9 L9 f16 H locs hp hI => ?_)
        refine W.cs (cells' := 0) (slots' := 0) rfl rfl ?_
        obtain ⟨hv9, rfl, hN1, hf1⟩ := hp
        cases hv9
        refine hw_stk (st' := [.long (lN (x j % x k)), .ref (o qb)]) rfl ?_
        have hU : arrN D L f16 al 42 u := hU.fr (hf1 _ (fun e9 => hVo qa hqa e9.symm) (hral qa hqa))
        have hWb : arrN D L f16 ab 42 w := hWb.fr (hf1 _ (fun e9 => hVp qa hqa e9.symm) (hrab qa hqa))
        obtain ⟨v1, hV, hO1⟩ := id hN1
        have hml9 := Nat.mod_lt (x j) hk0
        refine hw_cV (As := [.long (lN (x j % x k))]) (rest := []) S hI m_Wh_become w_471 (c_Wh_become l D t0 L _ _ o r N _ qb (x j % x k) hqb hY hN1 (by omega)) (hV _ hqb).1 rfl hl.1 rfl rfl (Nat.le_of_ble_eq_true rfl) d_Dv_split_63 ⟨Nat.le_of_ble_eq_true rfl, Nat.le_of_ble_eq_true rfl⟩ ⟨Nat.le_of_ble_eq_true rfl, Nat.le_of_ble_eq_true rfl⟩ (fun v9 L9 f17 H locs hp hI => ?_)
        refine W.cs (cells' := 0) (slots' := 0) rfl rfl ?_
        obtain ⟨hv9, rfl, hN2, hf2⟩ := hp
        cases hv9
        refine hw_stk (st' := []) rfl ?_
        have hU : arrN D L f17 al 42 u := hU.fr (hf2 _ (fun e9 => hVo qb hqb e9.symm) (hral qb hqb))
        have hWb : arrN D L f17 ab 42 w := hWb.fr (hf2 _ (fun e9 => hVp qb hqb e9.symm) (hrab qb hqb))
        refine lv_goto (tgt := 78) hx hb d_Dv_split_66 (by decide) ?_
        exact hw_vret hx hb hr hlocks hI d_Dv_split_78 ⟨rfl, rfl, hN2, ⟨u, w, hU, hWb⟩, fun q h1 h2 h3 h4 h5 h6 => (hf2 q h3 h4).trans (hf1 q h1 h2)⟩
    · refine lv_aload hx hb d_Dv_split_28 (lv_at hl 4 rfl) ?_
      refine lv_aload_n hx hb d_Dv_split_30 rfl (lv_at hl 1 rfl) ?_
      refine hw_cV (As := [.ref (o j)]) (rest := []) S hI m_Wh_copyFrom w_470 (c_Wh_copyFrom l D t0 L _ _ o r N x qb j hqb hY hN0 hj) (hV _ hqb).1 rfl hl.1 rfl rfl (Nat.le_of_ble_eq_true rfl) d_Dv_split_31 ⟨Nat.le_of_ble_eq_true rfl, Nat.le_of_ble_eq_true rfl⟩ ⟨Nat.le_of_ble_eq_true rfl, Nat.le_of_ble_eq_true rfl⟩ (fun v9 L9 f13 H locs hp hI => ?_)
      refine W.cs (cells' := 0) (slots' := 0) rfl rfl ?_
      obtain ⟨hv9, rfl, hN1, hf1⟩ := hp
      cases hv9
      refine hw_stk (st' := []) rfl ?_
      have hU : arrN D L f13 al 42 u := hU.fr (hf1 _ (fun e9 => hVo qb hqb e9.symm) (hral qb hqb))
      have hWb : arrN D L f13 ab 42 w := hWb.fr (hf1 _ (fun e9 => hVp qb hqb e9.symm) (hrab qb hqb))
      obtain ⟨v1, hV, hO1⟩ := id hN1
      refine lv_aload_n hx hb d_Dv_split_34 rfl (lv_at hl 3 rfl) ?_
      refine lv_lconst (v := lN 0) hx hb d_Dv_split_35 rfl ?_
      refine hw_cV (As := [.long (lN 0)]) (rest := []) S hI m_Wh_become w_471 (c_Wh_become l D t0 L _ _ o r N _ qa 0 hqa hY hN1 (by decide)) (hV _ hqa).1 rfl hl.1 rfl rfl (Nat.le_of_ble_eq_true rfl) d_Dv_split_36 ⟨Nat.le_of_ble_eq_true rfl, Nat.le_of_ble_eq_true rfl⟩ ⟨Nat.le_of_ble_eq_true rfl, Nat.le_of_ble_eq_true rfl⟩ (fun v9 L9 f14 H locs hp hI => ?_)
      refine W.cs (cells' := 0) (slots' := 0) rfl rfl ?_
      obtain ⟨hv9, rfl, hN2, hf2⟩ := hp
      cases hv9
      refine hw_stk (st' := []) rfl ?_
      have hU : arrN D L f14 al 42 u := hU.fr (hf2 _ (fun e9 => hVo qa hqa e9.symm) (hral qa hqa))
      have hWb : arrN D L f14 ab 42 w := hWb.fr (hf2 _ (fun e9 => hVp qa hqa e9.symm) (hrab qa hqa))
      have hlt : x j < x k := nOk_size_lt (hO j hj).2 (hO k hk).2 c12
      rw [up_comm (fun e9 => hq2 e9.symm)] at hN2
      refine lv_goto (tgt := 78) hx hb d_Dv_split_39 (by decide) ?_
      exact hw_vret hx hb hr hlocks hI d_Dv_split_78 ⟨rfl, rfl, by rw [Nat.div_eq_of_lt hlt, Nat.mod_eq_of_lt hlt]; exact hN2, ⟨u, w, hU, hWb⟩, fun q h1 h2 h3 h4 h5 h6 => (hf2 q h1 h2).trans (hf1 q h3 h4)⟩
  · exact absurd rfl c11

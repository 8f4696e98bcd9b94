set_option maxHeartbeats 4000000 in
set_option maxRecDepth 100000 in
theorem c_Wh_becomeDifference (l : Launch) (D : va_G) (t0 : Nat) (L : List Nat) (f : Nat → va_E) (sz : Nat) (o r : Nat → Nat) (N : Nat) (x : Nat → Nat) (i : Nat) (j k : Nat) (hi : i < N) (hY : Lay o r N) (hN : AllN D L f o r N x) (hj : j < N) (hk : k < N) (hle : x k ≤ x j) : Met l y_Wh_becomeDifference (Cond.code y_Wh_becomeDifference b_Wh_becomeDifference 9 none :: TT) ({ frames := 1, cells := 0, slots := 0, locals := 21 } : Room) (hw_Pc t0 [.ref (o i), .ref (o j), .ref (o k)] D L f sz) (hw_Q D L sz (fun oc L' f' => oc = .returned none ∧ L = L' ∧ AllN D L f' o r N (va_up x i (x j - x k)) ∧ ∀ q, q ≠ o i → q ≠ r i → f' q = f q)) 0 0 (hw_A L sz) := by
  refine Met.ofW (cc := b_Wh_becomeDifference) (maxL := 9) (ret := none) (by decide) rfl ?_
  intro p e s m args below meth c s₁ B hml hv
  obtain ⟨rfl, rfl, hI⟩ := hw_start hv
  clear hv
  have hx := B.exec
  have hb := B.bytes
  have hr := B.returns
  have hlocks := B.notSynchronized
  have hown : s.vm.findClass "WallFractions$Whole" = some m.cls := findClass_of_methodNamed B.named
  have hT : ∀ w ∈ TT, w.before ([.ref (o i), .ref (o j), .ref (o k)]).toArray s = true := fun w h => atoms_spec (ws := (Cond.code y_Wh_becomeDifference b_Wh_becomeDifference 9 none :: TT)) B.pre w (List.mem_cons_of_mem _ h)
  have S : CallFix p m c b_Wh_becomeDifference 9 s ([.ref (o i), .ref (o j), .ref (o k)]).toArray TT "WallFractions$Whole" := ⟨hx, hb, hml, hown, hT⟩
  have hl := lv_entry ([.ref (o i), .ref (o j), .ref (o k)]) (n := 9) (Nat.le_of_ble_eq_true rfl)
  rw [lg_entry_eq]
  generalize (lg_sl ([.ref (o i), .ref (o j), .ref (o k)]) ++ List.replicate (9 - (lg_sl ([.ref (o i), .ref (o j), .ref (o k)])).length) Slot.unset).toArray = ls at hl ⊢
  have hl : lv_has ls 9 [(0, .ref (o i)), (1, .ref (o j)), (2, .ref (o k))] := hl
  skip
  obtain ⟨v, hV, hO⟩ := hN
  have hnB : nB = 1000000000 := rfl
  have h1 := (hO j hj).1
  have h2 := (hO k hk).1
  have h3 : (v k).1 ≤ (v j).1 := ((hO k hk).2.size_le nB1).mpr (Nat.lt_of_le_of_lt hle (hO j hj).2.lt)
  obtain ⟨M, hM⟩ : ∃ M, M = (v j).1 := ⟨_, rfl⟩
  have loop : ∀ (g t bw : Nat) (h : Nat → Nat) (f1 : Nat → va_E) (H : Heap) (locs : List Loc) (ls : Array Slot), t + g = M → bw ≤ 1 → (∀ q, h q < nB) → (∀ q, t ≤ q → h q = (v i).2 q) → nvb nB h t + nvb nB (padl (v k)) t = nvb nB (v j).2 t + bw * nB ^ t → AllW D L f1 o r N (va_up v i ((v i).1, h)) → (∀ q, q ≠ o i → q ≠ r i → f1 q = f q) → hw_I D t0 (hw_A L s.heap.size) s L f1 H locs → lv_has ls 9 [(6, .int (nI t)), (4, .long (lN bw)), (3, .int (nI M)), (0, .ref (o i)), (1, .ref (o j)), (2, .ref (o k))] → W p l e (headSpec (Cond.code y_Wh_becomeDifference b_Wh_becomeDifference 9 none :: TT) ({ frames := 1, cells := 0, slots := 0, locals := 21 } : Room)).room s m ([.ref (o i), .ref (o j), .ref (o k)]).toArray below meth c H locs 0 0 (MQ below (hw_Q D L s.heap.size (fun oc L' f' => oc = .returned none ∧ L = L' ∧ AllN D L f' o r N (va_up x i (x j - x k)) ∧ ∀ q, q ≠ o i → q ≠ r i → f' q = f q)) ([.ref (o i), .ref (o j), .ref (o k)]).toArray s 0 0 (hw_A L s.heap.size)) (F0 m 11 ls []) := by
    intro g
    induction g with
    | zero =>
      intro t bw h f1 H locs ls htg hbw hB hh hS hV hF hI hl
      refine lv_iload hx hb d_Wh_becomeDifference_11 (lv_at hl 0 rfl) ?_
      refine lv_iload_n hx hb d_Wh_becomeDifference_13 rfl (lv_at hl 2 rfl) ?_
      refine hw_icmp_ge (tgt := 72) hx hb d_Wh_becomeDifference_14 (by decide) (by omega) (by omega) (fun c1 => ?_) (fun c1 => ?_)
      · refine lv_aload_n hx hb d_Wh_becomeDifference_72 rfl (lv_at hl 3 rfl) ?_
        refine lv_iload_n hx hb d_Wh_becomeDifference_73 rfl (lv_at hl 2 rfl) ?_
        have htM : t = M := by omega
        subst htM
        refine hw_cV (As := [.int (nI t)]) (rest := []) S hI m_Wh_settle w_389 (c_Wh_settle l D t0 L _ _ o r N (va_up v i ((v i).1, h)) i t hi hY hV (by omega) (by rw [hw_up_eq]; exact hB)) (hV _ hi).1 rfl hl.1 rfl rfl (Nat.le_of_ble_eq_true rfl) d_Wh_becomeDifference_74 ⟨Nat.le_of_ble_eq_true rfl, Nat.le_of_ble_eq_true rfl⟩ ⟨Nat.le_of_ble_eq_true rfl, Nat.le_of_ble_eq_true rfl⟩ (fun v9 L9 f2 H locs hp hI => ?_)
        refine W.cs (cells' := 0) (slots' := 0) rfl rfl ?_
        obtain ⟨hv9, rfl, n9, hn9, hk9, hV, hF9⟩ := hp
        cases hv9
        refine hw_stk (st' := []) rfl ?_
        rw [hw_up_eq] at hk9
        have hV : AllW D L f2 o r N (va_up v i (n9, h)) := by simpa only [hw_up_eq, bx_uu] using hV
        have hval : nvb nB h t = x j - x k := by
          have e2 := nvb_padl (b := nB) h3
          rw [(hO k hk).2.2.2] at e2
          have e1 := (hO j hj).2.2.2
          have e3 := nvb_lt (b := nB) (f := h) (n := t) (fun q _ => hB q)
          rw [← hM] at e1 e2
          rw [e1, e2] at hS
          have e4 : bw = 0 := by
            rcases Nat.eq_zero_or_pos bw with q | q
            · exact q
            · have q1 : bw = 1 := by omega
              rw [q1, Nat.one_mul] at hS; omega
          rw [e4, Nat.zero_mul] at hS
          omega
        exact hw_vret hx hb hr hlocks hI d_Wh_becomeDifference_77 ⟨rfl, rfl, AllN.mk hO hV (by omega) (by rw [← hval]; exact hk9), fun q h1 h2 => (hF9 q h1).trans (hF q h1 h2)⟩
      · exact absurd c1 (by omega)
    | succ g ih =>
      intro t bw h f1 H locs ls htg hbw hB hh hS hV hF hI hl
      refine lv_iload hx hb d_Wh_becomeDifference_11 (lv_at hl 0 rfl) ?_
      refine lv_iload_n hx hb d_Wh_becomeDifference_13 rfl (lv_at hl 2 rfl) ?_
      refine hw_icmp_ge (tgt := 72) hx hb d_Wh_becomeDifference_14 (by decide) (by omega) (by omega) (fun c3 => ?_) (fun c3 => ?_)
      · exact absurd c3 (by omega)
      · have ht := hh t (Nat.le_refl _)
        refine lv_aload_n hx hb d_Wh_becomeDifference_17 rfl (lv_at hl 4 rfl) ?_
        refine wh_limbs S hI hV hj d_Wh_becomeDifference_18 ?_
        refine lv_iload hx hb d_Wh_becomeDifference_21 (lv_at hl 0 rfl) ?_
        refine wh_ld S hI hV hj (by omega) d_Wh_becomeDifference_23 ?_
        refine hw_tl (show _ = lN ((v j).2 t) from by rw [up_snd ht]) ?_
        refine lv_aload_n hx hb d_Wh_becomeDifference_24 rfl (lv_at hl 5 rfl) ?_
        refine lv_iload hx hb d_Wh_becomeDifference_25 (lv_at hl 0 rfl) ?_
        refine hw_cV (As := [.int (nI t)]) (rest := [.long (lN ((v j).2 t))]) S hI m_Wh_limbAt w_418 (c_Wh_limbAt l D t0 L _ _ o r N (va_up v i ((v i).1, h)) k t hk hY hV (by omega) (by rw [up_fst]; omega)) (hV _ hk).1 rfl hl.1 rfl rfl (Nat.le_of_ble_eq_true rfl) d_Wh_becomeDifference_27 ⟨Nat.le_of_ble_eq_true rfl, Nat.le_of_ble_eq_true rfl⟩ ⟨Nat.le_of_ble_eq_true rfl, Nat.le_of_ble_eq_true rfl⟩ (fun v9 L9 f4 H locs hp hI => ?_)
        refine W.cs (cells' := 0) (slots' := 0) rfl rfl ?_
        obtain ⟨hv9, rfl, rfl⟩ := hp
        cases hv9
        refine hw_stk (st' := [.long (lN (padl (va_up v i ((v i).1, h) k) t)), .long (lN ((v j).2 t))]) rfl ?_
        refine hw_tl (show _ = lN (padl (v k) t) from by rw [up_padl ht]) ?_
        have hpk := padl_lt nB_pos (hO k hk).2.1 t
        have hpj := (hO j hj).2.1 t
        refine lv_lsub hx hb d_Wh_becomeDifference_30 ?_
        refine lv_lload hx hb d_Wh_becomeDifference_31 (lv_at hl 1 rfl) ?_
        refine lv_lsub hx hb d_Wh_becomeDifference_33 ?_
        refine lv_lstore (lv' := [(7, .long (((lN ((v j).2 t)) - (lN (padl (v k) t))) - (lN bw))), (6, .int (nI t)), (4, .long (lN bw)), (3, .int (nI M)), (0, .ref (o i)), (1, .ref (o j)), (2, .ref (o k))]) hx hb d_Wh_becomeDifference_34 hl (by decide) rfl (fun ls hl => ?_)
        refine lv_lload hx hb d_Wh_becomeDifference_36 (lv_at hl 0 rfl) ?_
        refine lv_lconst (v := lN 0) hx hb d_Wh_becomeDifference_38 rfl ?_
        refine hw_l_ge (tgt := 47) hx hb d_Wh_becomeDifference_39 d_Wh_becomeDifference_40 (by decide) (fun c5 => ?_) (fun c5 => ?_)
        · have hc : padl (v k) t + bw ≤ (v j).2 t := (lN_sub3_ge (by omega) (by omega) (by omega)).mp c5
          refine lv_lconst (v := lN 0) hx hb d_Wh_becomeDifference_47 rfl ?_
          refine lv_lstore (lv' := [(4, .long (lN 0)), (7, .long (((lN ((v j).2 t)) - (lN (padl (v k) t))) - (lN bw))), (6, .int (nI t)), (3, .int (nI M)), (0, .ref (o i)), (1, .ref (o j)), (2, .ref (o k))]) hx hb d_Wh_becomeDifference_48 hl (by decide) rfl (fun ls hl => ?_)
          refine lv_aload_n hx hb d_Wh_becomeDifference_50 rfl (lv_at hl 4 rfl) ?_
          refine wh_limbs S hI hV hi d_Wh_becomeDifference_51 ?_
          refine lv_iload hx hb d_Wh_becomeDifference_54 (lv_at hl 2 rfl) ?_
          refine lv_lload hx hb d_Wh_becomeDifference_56 (lv_at hl 1 rfl) ?_
          refine lv_lload hx hb d_Wh_becomeDifference_58 (lv_at hl 0 rfl) ?_
          refine hw_ldc2 (v := lN nB) hx hb hown (hT _ w_56) d_Wh_becomeDifference_60 ?_
          refine lv_lmul hx hb d_Wh_becomeDifference_63 ?_
          refine hw_tl (lN_mul _ _) ?_
          refine lv_ladd hx hb d_Wh_becomeDifference_64 ?_
          refine hw_tl (show _ = lN ((v j).2 t - padl (v k) t - bw) from by rw [lN_sub3 hc, lN_add, Nat.zero_mul, Nat.add_zero]) ?_
          refine wh_st S hI hV hY hi (by omega) d_Wh_becomeDifference_65 (fun f6 H locs hI hV hf6 => ?_)
          have hF := fun q (h1 : q ≠ o i) (h2 : q ≠ r i) => (hf6 q h2).trans (hF q h1 h2)
          have hV : AllW D L f6 o r N (va_up v i ((v i).1, va_up h t ((v j).2 t - padl (v k) t - bw))) := by simpa only [hw_up_eq, bx_uu] using hV
          refine lv_iinc (v := nI (t + 1)) (lv' := [(6, .int (nI (t + 1))), (4, .long (lN 0)), (7, .long (((lN ((v j).2 t)) - (lN (padl (v k) t))) - (lN bw))), (3, .int (nI M)), (0, .ref (o i)), (1, .ref (o j)), (2, .ref (o k))]) hx hb d_Wh_becomeDifference_66 hl (k := 2) rfl (nI_1 _) (by decide) rfl (fun ls hl => ?_)
          refine lv_goto (tgt := 11) hx hb d_Wh_becomeDifference_69 (by decide) ?_
          exact ih (t + 1) 0 (va_up h t ((v j).2 t - padl (v k) t - bw)) _ _ _ _ (by omega) (by omega) (fun q => by by_cases e9 : q = t; (subst e9; rw [hw_up_eq]; omega); (rw [hw_up_ne e9]; exact hB q)) (fun q hq => by rw [hw_up_ne (by omega)]; exact hh q (by omega)) (by rw [nvb_succ nB (padl (v k)) t, nvb_succ nB (v j).2 t]; exact nvb_borrow (x := (v j).2 t) (y := padl (v k) t) hS (by omega)) hV hF hI (lv_sub hl [0, 1, 3, 4, 5, 6] rfl)
        · have hc : (v j).2 t < padl (v k) t + bw := Nat.not_le.mp (fun q => Int64.not_le.mpr c5 ((lN_sub3_ge (by omega) (by omega) (by omega)).mpr q))
          refine lv_lconst (v := lN 1) hx hb d_Wh_becomeDifference_43 rfl ?_
          refine lv_goto (tgt := 48) hx hb d_Wh_becomeDifference_44 (by decide) ?_
          refine lv_lstore (lv' := [(4, .long (lN 1)), (7, .long (((lN ((v j).2 t)) - (lN (padl (v k) t))) - (lN bw))), (6, .int (nI t)), (3, .int (nI M)), (0, .ref (o i)), (1, .ref (o j)), (2, .ref (o k))]) hx hb d_Wh_becomeDifference_48 hl (by decide) rfl (fun ls hl => ?_)
          refine lv_aload_n hx hb d_Wh_becomeDifference_50 rfl (lv_at hl 4 rfl) ?_
          refine wh_limbs S hI hV hi d_Wh_becomeDifference_51 ?_
          refine lv_iload hx hb d_Wh_becomeDifference_54 (lv_at hl 2 rfl) ?_
          refine lv_lload hx hb d_Wh_becomeDifference_56 (lv_at hl 1 rfl) ?_
          refine lv_lload hx hb d_Wh_becomeDifference_58 (lv_at hl 0 rfl) ?_
          refine hw_ldc2 (v := lN nB) hx hb hown (hT _ w_56) d_Wh_becomeDifference_60 ?_
          refine lv_lmul hx hb d_Wh_becomeDifference_63 ?_
          refine hw_tl (lN_mul _ _) ?_
          refine lv_ladd hx hb d_Wh_becomeDifference_64 ?_
          refine hw_tl (show _ = lN ((v j).2 t + nB - padl (v k) t - bw) from by rw [Nat.one_mul, lN_sub3w (by omega)]) ?_
          refine wh_st S hI hV hY hi (by omega) d_Wh_becomeDifference_65 (fun f7 H locs hI hV hf7 => ?_)
          have hF := fun q (h1 : q ≠ o i) (h2 : q ≠ r i) => (hf7 q h2).trans (hF q h1 h2)
          have hV : AllW D L f7 o r N (va_up v i ((v i).1, va_up h t ((v j).2 t + nB - padl (v k) t - bw))) := by simpa only [hw_up_eq, bx_uu] using hV
          refine lv_iinc (v := nI (t + 1)) (lv' := [(6, .int (nI (t + 1))), (4, .long (lN 1)), (7, .long (((lN ((v j).2 t)) - (lN (padl (v k) t))) - (lN bw))), (3, .int (nI M)), (0, .ref (o i)), (1, .ref (o j)), (2, .ref (o k))]) hx hb d_Wh_becomeDifference_66 hl (k := 2) rfl (nI_1 _) (by decide) rfl (fun ls hl => ?_)
          refine lv_goto (tgt := 11) hx hb d_Wh_becomeDifference_69 (by decide) ?_
          exact ih (t + 1) 1 (va_up h t ((v j).2 t + nB - padl (v k) t - bw)) _ _ _ _ (by omega) (by omega) (fun q => by by_cases e9 : q = t; (subst e9; rw [hw_up_eq]; omega); (rw [hw_up_ne e9]; exact hB q)) (fun q hq => by rw [hw_up_ne (by omega)]; exact hh q (by omega)) (by rw [nvb_succ nB (padl (v k)) t, nvb_succ nB (v j).2 t]; exact nvb_borrow (x := (v j).2 t) (y := padl (v k) t) hS (by omega)) hV hF hI (lv_sub hl [0, 1, 3, 4, 5, 6] rfl)
  refine lv_aload_n hx hb d_Wh_becomeDifference_0 rfl (lv_at hl 1 rfl) ?_
  refine wh_size S hI hV hj d_Wh_becomeDifference_1 ?_
  refine hw_ti (show _ = nI M from by rw [hM]) ?_
  refine lv_istore_n (lv' := [(3, .int (nI M)), (0, .ref (o i)), (1, .ref (o j)), (2, .ref (o k))]) hx hb d_Wh_becomeDifference_4 rfl hl (by decide) rfl (fun ls hl => ?_)
  refine lv_lconst (v := lN 0) hx hb d_Wh_becomeDifference_5 rfl ?_
  refine lv_lstore (lv' := [(4, .long (lN 0)), (3, .int (nI M)), (0, .ref (o i)), (1, .ref (o j)), (2, .ref (o k))]) hx hb d_Wh_becomeDifference_6 hl (by decide) rfl (fun ls hl => ?_)
  refine lv_iconst (v := nI 0) hx hb d_Wh_becomeDifference_8 (by decide) ?_
  refine lv_istore (lv' := [(6, .int (nI 0)), (4, .long (lN 0)), (3, .int (nI M)), (0, .ref (o i)), (1, .ref (o j)), (2, .ref (o k))]) hx hb d_Wh_becomeDifference_9 hl (by decide) rfl (fun ls hl => ?_)
  exact loop M 0 0 (v i).2 _ _ _ _ (by omega) (by omega) (hO i hi).2.1 (fun _ _ => rfl) (by rw [nvb_zero, nvb_zero, nvb_zero]; rfl) (fun z hz => by by_cases e9 : z = i; (subst e9; rw [hw_up_eq]; exact hV z hz); (rw [hw_up_ne e9]; exact hV z hz)) (fun _ _ _ => rfl) hI hl
set_option maxHeartbeats 4000000 in
set_option maxRecDepth 100000 in
theorem c_Wh_grow (l : Launch) (D : va_G) (t0 : Nat) (L : List Nat) (f : Nat → va_E) (sz : Nat) (o r : Nat → Nat) (N : Nat) (x : Nat → Nat) (i : Nat) (F E : Nat) (hi : i < N) (hY : Lay o r N) (hN : AllN D L f o r N x) (hx40 : x i < nB ^ 40) (hFB : F ≤ nB) (hEB : E < nB) : Met l y_Wh_grow (Cond.code y_Wh_grow b_Wh_grow 10 none :: TT) ({ frames := 7, cells := 0, slots := 0, locals := 130 } : Room) (hw_Pc t0 [.ref (o i), .long (lN F), .long (lN E)] D L f sz) (hw_Q D L sz (fun oc L' f' => oc = .returned none ∧ L = L' ∧ AllN D L f' o r N (va_up x i (x i * F + E)) ∧ ∀ q, q ≠ o i → q ≠ r i → f' q = f q)) 0 0 (hw_A L sz) := by
  refine Met.ofW (cc := b_Wh_grow) (maxL := 10) (ret := none) (by decide) rfl ?_
  intro p e s m args below meth c s₁ B hml hv
  obtain ⟨rfl, rfl, hI⟩ := hw_start hv
  clear hv
  have hx := B.exec
  have hb := B.bytes
  have hr := B.returns
  have hlocks := B.notSynchronized
  have hown : s.vm.findClass "WallFractions$Whole" = some m.cls := findClass_of_methodNamed B.named
  have hT : ∀ w ∈ TT, w.before ([.ref (o i), .long (lN F), .long (lN E)]).toArray s = true := fun w h => atoms_spec (ws := (Cond.code y_Wh_grow b_Wh_grow 10 none :: TT)) B.pre w (List.mem_cons_of_mem _ h)
  have S : CallFix p m c b_Wh_grow 10 s ([.ref (o i), .long (lN F), .long (lN E)]).toArray TT "WallFractions$Whole" := ⟨hx, hb, hml, hown, hT⟩
  have hl := lv_entry ([.ref (o i), .long (lN F), .long (lN E)]) (n := 10) (Nat.le_of_ble_eq_true rfl)
  rw [lg_entry_eq]
  generalize (lg_sl ([.ref (o i), .long (lN F), .long (lN E)]) ++ List.replicate (10 - (lg_sl ([.ref (o i), .long (lN F), .long (lN E)])).length) Slot.unset).toArray = ls at hl ⊢
  have hl : lv_has ls 10 [(0, .ref (o i)), (1, .long (lN F)), (3, .long (lN E))] := hl
  skip
  obtain ⟨v, hV, hO⟩ := hN
  have hnB : nB = 1000000000 := rfl
  have h1 : (v i).1 ≤ 40 := ((hO i hi).2.size_le nB1).mpr hx40
  obtain ⟨M, hM⟩ : ∃ M, M = (v i).1 := ⟨_, rfl⟩
  refine lv_aload_n hx hb d_Wh_grow_0 rfl (lv_at hl 0 rfl) ?_
  refine wh_size S hI hV hi d_Wh_grow_1 ?_
  refine hw_ti (show _ = nI M from by rw [hM]) ?_
  refine lv_iconst (v := nI 1) hx hb d_Wh_grow_4 (by decide) ?_
  refine lv_iadd hx hb d_Wh_grow_5 ?_
  refine hw_ti (nI_add _ _) ?_
  refine hw_cS (As := [.int (nI (M + 1))]) (rest := []) S hI m_Wh_requireRoom w_385 (c_Wh_requireRoom l D t0 L _ _ (M + 1) (by omega)) hl.1 rfl rfl (Nat.le_of_ble_eq_true rfl) d_Wh_grow_6 ⟨Nat.le_of_ble_eq_true rfl, Nat.le_of_ble_eq_true rfl⟩ ⟨Nat.le_of_ble_eq_true rfl, Nat.le_of_ble_eq_true rfl⟩ (fun v9 L9 f8 H locs hp hI => ?_)
  refine W.cs (cells' := 0) (slots' := 0) rfl rfl ?_
  obtain ⟨hv9, rfl, rfl⟩ := hp
  cases hv9
  refine hw_stk (st' := []) rfl ?_
  have loop : ∀ (g t cr : Nat) (h : Nat → Nat) (f1 : Nat → va_E) (H : Heap) (locs : List Loc) (ls : Array Slot), t + g = M → cr < nB → (∀ q, h q < nB) → (∀ q, t ≤ q → h q = (v i).2 q) → nvb nB h t + cr * nB ^ t = nvb nB (v i).2 t * F + E → AllW D L f1 o r N (va_up v i ((v i).1, h)) → (∀ q, q ≠ o i → q ≠ r i → f1 q = f q) → hw_I D t0 (hw_A L s.heap.size) s L f1 H locs → lv_has ls 10 [(7, .int (nI t)), (5, .long (lN cr)), (0, .ref (o i)), (1, .long (lN F)), (3, .long (lN E))] → W p l e (headSpec (Cond.code y_Wh_grow b_Wh_grow 10 none :: TT) ({ frames := 7, cells := 0, slots := 0, locals := 130 } : Room)).room s m ([.ref (o i), .long (lN F), .long (lN E)]).toArray below meth c H locs 0 0 (MQ below (hw_Q D L s.heap.size (fun oc L' f' => oc = .returned none ∧ L = L' ∧ AllN D L f' o r N (va_up x i (x i * F + E)) ∧ ∀ q, q ≠ o i → q ≠ r i → f' q = f q)) ([.ref (o i), .long (lN F), .long (lN E)]).toArray s 0 0 (hw_A L s.heap.size)) (F0 m 15 ls []) := by
    intro g
    induction g with
    | zero =>
      intro t cr h f1 H locs ls htg hcr hB hh hS hV hF hI hl
      refine lv_iload hx hb d_Wh_grow_15 (lv_at hl 0 rfl) ?_
      refine lv_aload_n hx hb d_Wh_grow_17 rfl (lv_at hl 2 rfl) ?_
      refine wh_size S hI hV hi d_Wh_grow_18 ?_
      refine hw_ti (show _ = nI M from by rw [hw_up_eq, hM]) ?_
      refine hw_icmp_ge (tgt := 68) hx hb d_Wh_grow_21 (by decide) (by omega) (by omega) (fun c9 => ?_) (fun c9 => ?_)
      · refine lv_aload_n hx hb d_Wh_grow_68 rfl (lv_at hl 2 rfl) ?_
        refine wh_limbs S hI hV hi d_Wh_grow_69 ?_
        refine lv_aload_n hx hb d_Wh_grow_72 rfl (lv_at hl 2 rfl) ?_
        refine wh_size S hI hV hi d_Wh_grow_73 ?_
        refine hw_ti (show _ = nI M from by rw [hw_up_eq, hM]) ?_
        refine lv_lload hx hb d_Wh_grow_76 (lv_at hl 1 rfl) ?_
        refine wh_st S hI hV hY hi (by omega) d_Wh_grow_78 (fun f10 H locs hI hV hf10 => ?_)
        have hF := fun q (h1 : q ≠ o i) (h2 : q ≠ r i) => (hf10 q h2).trans (hF q h1 h2)
        have hV : AllW D L f10 o r N (va_up v i ((v i).1, va_up h M cr)) := by simpa only [hw_up_eq, bx_uu] using hV
        refine lv_aload_n hx hb d_Wh_grow_79 rfl (lv_at hl 2 rfl) ?_
        refine lv_aload_n hx hb d_Wh_grow_80 rfl (lv_at hl 2 rfl) ?_
        refine wh_size S hI hV hi d_Wh_grow_81 ?_
        refine hw_ti (show _ = nI M from by rw [hw_up_eq, hM]) ?_
        refine lv_iconst (v := nI 1) hx hb d_Wh_grow_84 (by decide) ?_
        refine lv_iadd hx hb d_Wh_grow_85 ?_
        refine hw_ti (nI_add _ _) ?_
        have htM : t = M := by omega
        have hB2 : ∀ q, va_up h M cr q < nB := (fun q => by by_cases e9 : q = M; (subst e9; rw [hw_up_eq]; exact hcr); (rw [hw_up_ne e9]; exact hB q))
        refine hw_cV (As := [.int (nI (M + 1))]) (rest := []) S hI m_Wh_settle w_389 (c_Wh_settle l D t0 L _ _ o r N (va_up v i ((v i).1, va_up h M cr)) i (M + 1) hi hY hV (by omega) (by rw [hw_up_eq]; exact hB2)) (hV _ hi).1 rfl hl.1 rfl rfl (Nat.le_of_ble_eq_true rfl) d_Wh_grow_86 ⟨Nat.le_of_ble_eq_true rfl, Nat.le_of_ble_eq_true rfl⟩ ⟨Nat.le_of_ble_eq_true rfl, Nat.le_of_ble_eq_true rfl⟩ (fun v9 L9 f11 H locs hp hI => ?_)
        refine W.cs (cells' := 0) (slots' := 0) rfl rfl ?_
        obtain ⟨hv9, rfl, n9, hn9, hk9, hV, hF9⟩ := hp
        cases hv9
        refine hw_stk (st' := []) rfl ?_
        rw [hw_up_eq] at hk9
        have hV : AllW D L f11 o r N (va_up v i (n9, va_up h M cr)) := by simpa only [hw_up_eq, bx_uu] using hV
        have hval : nvb nB (va_up h M cr) (M + 1) = x i * F + E := by
          rw [nvb_upS, ← (hO i hi).2.2.2, ← hM, ← htM]
          exact hS
        exact hw_vret hx hb hr hlocks hI d_Wh_grow_89 ⟨rfl, rfl, AllN.mk hO hV (by omega) (by rw [← hval]; exact hk9), fun q h1 h2 => (hF9 q h1).trans (hF q h1 h2)⟩
      · exact absurd c9 (by omega)
    | succ g ih =>
      intro t cr h f1 H locs ls htg hcr hB hh hS hV hF hI hl
      refine lv_iload hx hb d_Wh_grow_15 (lv_at hl 0 rfl) ?_
      refine lv_aload_n hx hb d_Wh_grow_17 rfl (lv_at hl 2 rfl) ?_
      refine wh_size S hI hV hi d_Wh_grow_18 ?_
      refine hw_ti (show _ = nI M from by rw [hw_up_eq, hM]) ?_
      refine hw_icmp_ge (tgt := 68) hx hb d_Wh_grow_21 (by decide) (by omega) (by omega) (fun c12 => ?_) (fun c12 => ?_)
      · exact absurd c12 (by omega)
      · have ht := hh t (Nat.le_refl _)
        have hvt := (hO i hi).2.1 t
        have hpr : (v i).2 t * F ≤ (nB - 1) * nB := Nat.mul_le_mul (by omega) hFB
        have hsm : (v i).2 t * F + cr < nB * nB := by rw [Nat.sub_mul, Nat.one_mul] at hpr; have : nB ≤ nB * nB := Nat.le_mul_of_pos_left _ nB_pos; omega
        have hnn : nB * nB = 1000000000000000000 := rfl
        have hq : ((v i).2 t * F + cr) / nB < nB := (Nat.div_lt_iff_lt_mul nB_pos).mpr hsm
        have hdm := Nat.div_add_mod ((v i).2 t * F + cr) nB
        have hml9 := Nat.mod_lt ((v i).2 t * F + cr) nB_pos
        rw [Nat.mul_comm] at hdm
        refine lv_aload_n hx hb d_Wh_grow_24 rfl (lv_at hl 2 rfl) ?_
        refine wh_limbs S hI hV hi d_Wh_grow_25 ?_
        refine lv_iload hx hb d_Wh_grow_28 (lv_at hl 0 rfl) ?_
        refine wh_ld S hI hV hi (by omega) d_Wh_grow_30 ?_
        refine hw_tl (show _ = lN ((v i).2 t) from by rw [hw_up_eq, ← ht]) ?_
        refine lv_lload_n hx hb d_Wh_grow_31 rfl (lv_at hl 3 rfl) ?_
        refine lv_lmul hx hb d_Wh_grow_32 ?_
        refine hw_tl (lN_mul _ _) ?_
        refine lv_lload hx hb d_Wh_grow_33 (lv_at hl 1 rfl) ?_
        refine lv_ladd hx hb d_Wh_grow_35 ?_
        refine hw_tl (lN_add _ _) ?_
        refine lv_lstore (lv' := [(8, .long (lN ((((v i).2 t) * F) + cr))), (7, .int (nI t)), (5, .long (lN cr)), (0, .ref (o i)), (1, .long (lN F)), (3, .long (lN E))]) hx hb d_Wh_grow_36 hl (by decide) rfl (fun ls hl => ?_)
        refine lv_lload hx hb d_Wh_grow_38 (lv_at hl 0 rfl) ?_
        refine hw_ldc2 (v := lN nB) hx hb hown (hT _ w_56) d_Wh_grow_40 ?_
        refine lv_ldiv hx hb d_Wh_grow_43 (by intro h9; have h8 := (pk_lEQ (b := 0) (by omega) (by decide)).mp h9; omega) ?_
        refine hw_tl (pk_lDiv (by omega) (by omega) (by omega)) ?_
        refine lv_lstore (lv' := [(5, .long (lN (((((v i).2 t) * F) + cr) / nB))), (8, .long (lN ((((v i).2 t) * F) + cr))), (7, .int (nI t)), (0, .ref (o i)), (1, .long (lN F)), (3, .long (lN E))]) hx hb d_Wh_grow_44 hl (by decide) rfl (fun ls hl => ?_)
        refine lv_aload_n hx hb d_Wh_grow_46 rfl (lv_at hl 3 rfl) ?_
        refine wh_limbs S hI hV hi d_Wh_grow_47 ?_
        refine lv_iload hx hb d_Wh_grow_50 (lv_at hl 2 rfl) ?_
        refine lv_lload hx hb d_Wh_grow_52 (lv_at hl 1 rfl) ?_
        refine lv_lload hx hb d_Wh_grow_54 (lv_at hl 0 rfl) ?_
        refine hw_ldc2 (v := lN nB) hx hb hown (hT _ w_56) d_Wh_grow_56 ?_
        refine lv_lmul hx hb d_Wh_grow_59 ?_
        refine hw_tl (lN_mul _ _) ?_
        refine lv_lsub hx hb d_Wh_grow_60 ?_
        refine hw_tl (lN_sub (by omega)) ?_
        refine wh_st S hI hV hY hi (by omega) d_Wh_grow_61 (fun f13 H locs hI hV hf13 => ?_)
        have hF := fun q (h1 : q ≠ o i) (h2 : q ≠ r i) => (hf13 q h2).trans (hF q h1 h2)
        have hV : AllW D L f13 o r N (va_up v i ((v i).1, va_up h t ((v i).2 t * F + cr - ((v i).2 t * F + cr) / nB * nB))) := by simpa only [hw_up_eq, bx_uu] using hV
        refine lv_iinc (v := nI (t + 1)) (lv' := [(7, .int (nI (t + 1))), (5, .long (lN (((((v i).2 t) * F) + cr) / nB))), (8, .long (lN ((((v i).2 t) * F) + cr))), (0, .ref (o i)), (1, .long (lN F)), (3, .long (lN E))]) hx hb d_Wh_grow_62 hl (k := 2) rfl (nI_1 _) (by decide) rfl (fun ls hl => ?_)
        refine lv_goto (tgt := 15) hx hb d_Wh_grow_65 (by decide) ?_
        exact ih (t + 1) (((v i).2 t * F + cr) / nB) (va_up h t ((v i).2 t * F + cr - ((v i).2 t * F + cr) / nB * nB)) _ _ _ _ (by omega) hq (fun q => by by_cases e9 : q = t; (subst e9; rw [hw_up_eq]; omega); (rw [hw_up_ne e9]; exact hB q)) (fun q hq => by rw [hw_up_ne (by omega)]; exact hh q (by omega)) (by rw [nvb_digit (w := (v i).2 t * F) hS (by omega), nvb_succ, Nat.add_mul]; grind) hV hF hI (lv_sub hl [0, 1, 3, 4, 5] rfl)
  refine lv_lload_n hx hb d_Wh_grow_9 rfl (lv_at hl 2 rfl) ?_
  refine lv_lstore (lv' := [(5, .long (lN E)), (0, .ref (o i)), (1, .long (lN F)), (3, .long (lN E))]) hx hb d_Wh_grow_10 hl (by decide) rfl (fun ls hl => ?_)
  refine lv_iconst (v := nI 0) hx hb d_Wh_grow_12 (by decide) ?_
  refine lv_istore (lv' := [(7, .int (nI 0)), (5, .long (lN E)), (0, .ref (o i)), (1, .long (lN F)), (3, .long (lN E))]) hx hb d_Wh_grow_13 hl (by decide) rfl (fun ls hl => ?_)
  exact loop M 0 E (v i).2 _ _ _ _ (by omega) hEB (hO i hi).2.1 (fun _ _ => rfl) (by simp [nvb_zero]) (fun z hz => by by_cases e9 : z = i; (subst e9; rw [hw_up_eq]; exact hV z hz); (rw [hw_up_ne e9]; exact hV z hz)) (fun _ _ _ => rfl) hI hl
set_option maxHeartbeats 4000000 in
set_option maxRecDepth 100000 in
theorem c_Wh_requireDivisor (l : Launch) (D : va_G) (t0 : Nat) (L : List Nat) (f : Nat → va_E) (sz : Nat) (d : Nat) (h0 : 0 < d) (hd : d < 2 ^ 63) : Met l y_Wh_requireDivisor (Cond.code y_Wh_requireDivisor b_Wh_requireDivisor 2 none :: TT) ({ frames := 0, cells := 0, slots := 0, locals := 0 } : Room) (hw_Pc t0 [.long (lN d)] D L f sz) (hw_Q D L sz (fun oc L' f' => oc = .returned none ∧ L = L' ∧ f = f')) 0 0 (hw_A L sz) := by
  refine Met.ofW (cc := b_Wh_requireDivisor) (maxL := 2) (ret := none) (by decide) rfl ?_
  intro p e s m args below meth c s₁ B hml hv
  obtain ⟨rfl, rfl, hI⟩ := hw_start hv
  clear hv
  have hx := B.exec
  have hb := B.bytes
  have hr := B.returns
  have hlocks := B.notSynchronized
  have hown : s.vm.findClass "WallFractions$Whole" = some m.cls := findClass_of_methodNamed B.named
  have hT : ∀ w ∈ TT, w.before ([.long (lN d)]).toArray s = true := fun w h => atoms_spec (ws := (Cond.code y_Wh_requireDivisor b_Wh_requireDivisor 2 none :: TT)) B.pre w (List.mem_cons_of_mem _ h)
  have S : CallFix p m c b_Wh_requireDivisor 2 s ([.long (lN d)]).toArray TT "WallFractions$Whole" := ⟨hx, hb, hml, hown, hT⟩
  have hl := lv_entry ([.long (lN d)]) (n := 2) (Nat.le_of_ble_eq_true rfl)
  rw [lg_entry_eq]
  generalize (lg_sl ([.long (lN d)]) ++ List.replicate (2 - (lg_sl ([.long (lN d)])).length) Slot.unset).toArray = ls at hl ⊢
  have hl : lv_has ls 2 [(0, .long (lN d))] := hl
  skip
  refine lv_lload_n hx hb d_Wh_requireDivisor_0 rfl (lv_at hl 0 rfl) ?_
  refine lv_lconst (v := lN 1) hx hb d_Wh_requireDivisor_1 rfl ?_
  refine hw_l_ge (tgt := 16) hx hb d_Wh_requireDivisor_2 d_Wh_requireDivisor_3 (by decide) (fun c14 => ?_) (fun c14 => ?_)
  · exact hw_vret hx hb hr hlocks hI d_Wh_requireDivisor_16 ⟨rfl, rfl, rfl⟩
  · exact absurd ((pk_lLT hd (by decide)).mp c14) (by omega)
set_option maxHeartbeats 4000000 in
set_option maxRecDepth 100000 in
theorem c_Wh_becomeQuotient (l : Launch) (D : va_G) (t0 : Nat) (L : List Nat) (f : Nat → va_E) (sz : Nat) (o r : Nat → Nat) (N : Nat) (x : Nat → Nat) (i : Nat) (j d : Nat) (hi : i < N) (hY : Lay o r N) (hN : AllN D L f o r N x) (hj : j < N) (hd0 : 0 < d) (hdB : d ≤ nB) : Met l y_Wh_becomeQuotient (Cond.code y_Wh_becomeQuotient b_Wh_becomeQuotient 10 (some .long) :: TT) ({ frames := 1, cells := 0, slots := 0, locals := 21 } : Room) (hw_Pc t0 [.ref (o i), .ref (o j), .long (lN d)] D L f sz) (hw_Q D L sz (fun oc L' f' => oc = .returned (some (.long (lN (x j % d)))) ∧ L = L' ∧ AllN D L f' o r N (va_up x i (x j / d)) ∧ ∀ q, q ≠ o i → q ≠ r i → f' q = f q)) 0 0 (hw_A L sz) := by
  refine Met.ofW (cc := b_Wh_becomeQuotient) (maxL := 10) (ret := (some .long)) (by decide) rfl ?_
  intro p e s m args below meth c s₁ B hml hv
  obtain ⟨rfl, rfl, hI⟩ := hw_start hv
  clear hv
  have hx := B.exec
  have hb := B.bytes
  have hr := B.returns
  have hlocks := B.notSynchronized
  have hown : s.vm.findClass "WallFractions$Whole" = some m.cls := findClass_of_methodNamed B.named
  have hT : ∀ w ∈ TT, w.before ([.ref (o i), .ref (o j), .long (lN d)]).toArray s = true := fun w h => atoms_spec (ws := (Cond.code y_Wh_becomeQuotient b_Wh_becomeQuotient 10 (some .long) :: TT)) B.pre w (List.mem_cons_of_mem _ h)
  have S : CallFix p m c b_Wh_becomeQuotient 10 s ([.ref (o i), .ref (o j), .long (lN d)]).toArray TT "WallFractions$Whole" := ⟨hx, hb, hml, hown, hT⟩
  have hl := lv_entry ([.ref (o i), .ref (o j), .long (lN d)]) (n := 10) (Nat.le_of_ble_eq_true rfl)
  rw [lg_entry_eq]
  generalize (lg_sl ([.ref (o i), .ref (o j), .long (lN d)]) ++ List.replicate (10 - (lg_sl ([.ref (o i), .ref (o j), .long (lN d)])).length) Slot.unset).toArray = ls at hl ⊢
  have hl : lv_has ls 10 [(0, .ref (o i)), (1, .ref (o j)), (2, .long (lN d))] := hl
  skip
  obtain ⟨v, hV, hO⟩ := hN
  have hnB : nB = 1000000000 := rfl
  have h1 := (hO j hj).1
  obtain ⟨M, hM⟩ : ∃ M, M = (v j).1 := ⟨_, rfl⟩
  refine lv_lload_n hx hb d_Wh_becomeQuotient_0 rfl (lv_at hl 2 rfl) ?_
  refine hw_cS (As := [.long (lN d)]) (rest := []) S hI m_Wh_requireDivisor w_476 (c_Wh_requireDivisor l D t0 L _ _ d hd0 (by omega)) hl.1 rfl rfl (Nat.le_of_ble_eq_true rfl) d_Wh_becomeQuotient_1 ⟨Nat.le_of_ble_eq_true rfl, Nat.le_of_ble_eq_true rfl⟩ ⟨Nat.le_of_ble_eq_true rfl, Nat.le_of_ble_eq_true rfl⟩ (fun v9 L9 f15 H locs hp hI => ?_)
  refine W.cs (cells' := 0) (slots' := 0) rfl rfl ?_
  obtain ⟨hv9, rfl, rfl⟩ := hp
  cases hv9
  refine hw_stk (st' := []) rfl ?_
  have loop : ∀ (k rest : Nat) (h : Nat → Nat) (f1 : Nat → va_E) (H : Heap) (locs : List Loc) (ls : Array Slot), k ≤ M → rest < d → (∀ q, h q < nB) → (∀ q, q < k → h q = (v i).2 q) → nvb nB (nsh (v j).2 k) (M - k) = nvb nB (nsh h k) (M - k) * d + rest → AllW D L f1 o r N (va_up v i ((v i).1, h)) → (∀ q, q ≠ o i → q ≠ r i → f1 q = f q) → hw_I D t0 (hw_A L s.heap.size) s L f1 H locs → lv_has ls 10 [(7, .int (mI k)), (6, .int (nI M)), (4, .long (lN rest)), (0, .ref (o i)), (1, .ref (o j)), (2, .long (lN d))] → W p l e (headSpec (Cond.code y_Wh_becomeQuotient b_Wh_becomeQuotient 10 (some .long) :: TT) ({ frames := 1, cells := 0, slots := 0, locals := 21 } : Room)).room s m ([.ref (o i), .ref (o j), .long (lN d)]).toArray below meth c H locs 0 0 (MQ below (hw_Q D L s.heap.size (fun oc L' f' => oc = .returned (some (.long (lN (x j % d)))) ∧ L = L' ∧ AllN D L f' o r N (va_up x i (x j / d)) ∧ ∀ q, q ≠ o i → q ≠ r i → f' q = f q)) ([.ref (o i), .ref (o j), .long (lN d)]).toArray s 0 0 (hw_A L s.heap.size)) (F0 m 19 ls []) := by
    intro k
    induction k with
    | zero =>
      intro rest h f1 H locs ls hk hrd hB hh hS hV hF hI hl
      refine lv_iload hx hb d_Wh_becomeQuotient_19 (lv_at hl 0 rfl) ?_
      refine hw_m0 (tgt := 63) hx hb d_Wh_becomeQuotient_21 (by decide) ?_
      refine lv_aload_n hx hb d_Wh_becomeQuotient_63 rfl (lv_at hl 3 rfl) ?_
      refine lv_iload hx hb d_Wh_becomeQuotient_64 (lv_at hl 1 rfl) ?_
      refine hw_cV (As := [.int (nI M)]) (rest := []) S hI m_Wh_settle w_389 (c_Wh_settle l D t0 L _ _ o r N (va_up v i ((v i).1, h)) i M hi hY hV (by omega) (by rw [hw_up_eq]; exact hB)) (hV _ hi).1 rfl hl.1 rfl rfl (Nat.le_of_ble_eq_true rfl) d_Wh_becomeQuotient_66 ⟨Nat.le_of_ble_eq_true rfl, Nat.le_of_ble_eq_true rfl⟩ ⟨Nat.le_of_ble_eq_true rfl, Nat.le_of_ble_eq_true rfl⟩ (fun v9 L9 f16 H locs hp hI => ?_)
      refine W.cs (cells' := 0) (slots' := 0) rfl rfl ?_
      obtain ⟨hv9, rfl, n9, hn9, hk9, hV, hF9⟩ := hp
      cases hv9
      refine hw_stk (st' := []) rfl ?_
      rw [hw_up_eq] at hk9
      have hV : AllW D L f16 o r N (va_up v i (n9, h)) := by simpa only [hw_up_eq, bx_uu] using hV
      have e0 : ∀ g : Nat → Nat, nsh g 0 = g := fun g => funext (fun q => by unfold nsh; rw [Nat.zero_add])
      rw [e0, e0, Nat.sub_zero, hM, (hO j hj).2.2.2, ← hM] at hS
      have hq9 : x j / d = nvb nB h M := by rw [hS, Nat.mul_comm, Nat.mul_add_div hd0, Nat.div_eq_of_lt hrd, Nat.add_zero]
      have hr9 : x j % d = rest := by rw [hS, Nat.mul_comm, Nat.mul_add_mod, Nat.mod_eq_of_lt hrd]
      refine lv_lload hx hb d_Wh_becomeQuotient_69 (lv_at hl 2 rfl) ?_
      exact hw_lret hx hb hr hlocks hI d_Wh_becomeQuotient_71 ⟨by rw [hr9], rfl, AllN.mk hO hV (by omega) (by rw [hq9]; exact hk9), fun q h1 h2 => (hF9 q h1).trans (hF q h1 h2)⟩
    | succ k ih =>
      intro rest h f1 H locs ls hk hrd hB hh hS hV hF hI hl
      rw [mI_s] at hl
      refine lv_iload hx hb d_Wh_becomeQuotient_19 (lv_at hl 0 rfl) ?_
      refine hw_if_lt (tgt := 63) hx hb d_Wh_becomeQuotient_21 (by decide) (by omega) ?_
      have ht := hh k (Nat.lt_succ_self k)
      have hvj := (hO j hj).2.1 k
      have hrb : rest * nB ≤ (nB - 1) * nB := Nat.mul_le_mul_right _ (by omega)
      have hnn : (nB - 1) * nB = 999999999000000000 := rfl
      have hq9 := sdiv_lt hrd hvj
      refine lv_lload hx hb d_Wh_becomeQuotient_24 (lv_at hl 2 rfl) ?_
      refine hw_ldc2 (v := lN nB) hx hb hown (hT _ w_56) d_Wh_becomeQuotient_26 ?_
      refine lv_lmul hx hb d_Wh_becomeQuotient_29 ?_
      refine hw_tl (lN_mul _ _) ?_
      refine lv_aload_n hx hb d_Wh_becomeQuotient_30 rfl (lv_at hl 4 rfl) ?_
      refine wh_limbs S hI hV hj d_Wh_becomeQuotient_31 ?_
      refine lv_iload hx hb d_Wh_becomeQuotient_34 (lv_at hl 0 rfl) ?_
      refine wh_ld S hI hV hj (by omega) d_Wh_becomeQuotient_36 ?_
      refine hw_tl (show _ = lN ((v j).2 k) from by rw [up_snd ht]) ?_
      refine lv_ladd hx hb d_Wh_becomeQuotient_37 ?_
      refine hw_tl (lN_add _ _) ?_
      refine lv_lstore (lv' := [(8, .long (lN ((rest * nB) + ((v j).2 k)))), (7, .int (nI k)), (6, .int (nI M)), (4, .long (lN rest)), (0, .ref (o i)), (1, .ref (o j)), (2, .long (lN d))]) hx hb d_Wh_becomeQuotient_38 hl (by decide) rfl (fun ls hl => ?_)
      refine lv_aload_n hx hb d_Wh_becomeQuotient_40 rfl (lv_at hl 4 rfl) ?_
      refine wh_limbs S hI hV hi d_Wh_becomeQuotient_41 ?_
      refine lv_iload hx hb d_Wh_becomeQuotient_44 (lv_at hl 1 rfl) ?_
      refine lv_lload hx hb d_Wh_becomeQuotient_46 (lv_at hl 0 rfl) ?_
      refine lv_lload_n hx hb d_Wh_becomeQuotient_48 rfl (lv_at hl 6 rfl) ?_
      refine lv_ldiv hx hb d_Wh_becomeQuotient_49 (by intro h9; have h8 := (pk_lEQ (b := 0) (by omega) (by decide)).mp h9; omega) ?_
      refine hw_tl (pk_lDiv (by omega) (by omega) (by omega)) ?_
      refine wh_st S hI hV hY hi (by omega) d_Wh_becomeQuotient_50 (fun f17 H locs hI hV hf17 => ?_)
      have hF := fun q (h1 : q ≠ o i) (h2 : q ≠ r i) => (hf17 q h2).trans (hF q h1 h2)
      have hV : AllW D L f17 o r N (va_up v i ((v i).1, va_up h k ((rest * nB + (v j).2 k) / d))) := by simpa only [hw_up_eq, bx_uu] using hV
      refine lv_lload hx hb d_Wh_becomeQuotient_51 (lv_at hl 0 rfl) ?_
      refine lv_lload_n hx hb d_Wh_becomeQuotient_53 rfl (lv_at hl 6 rfl) ?_
      refine lv_lrem hx hb d_Wh_becomeQuotient_54 (by intro h9; have h8 := (pk_lEQ (b := 0) (by omega) (by decide)).mp h9; omega) ?_
      refine hw_tl (pk_lRem (by omega) (by omega) (by omega)) ?_
      refine lv_lstore (lv' := [(4, .long (lN (((rest * nB) + ((v j).2 k)) % d))), (8, .long (lN ((rest * nB) + ((v j).2 k)))), (7, .int (nI k)), (6, .int (nI M)), (0, .ref (o i)), (1, .ref (o j)), (2, .long (lN d))]) hx hb d_Wh_becomeQuotient_55 hl (by decide) rfl (fun ls hl => ?_)
      refine lv_iinc (v := mI k) (lv' := [(7, .int (mI k)), (4, .long (lN (((rest * nB) + ((v j).2 k)) % d))), (8, .long (lN ((rest * nB) + ((v j).2 k)))), (6, .int (nI M)), (0, .ref (o i)), (1, .ref (o j)), (2, .long (lN d))]) hx hb d_Wh_becomeQuotient_57 hl (k := 2) rfl (mI_d k) (by decide) rfl (fun ls hl => ?_)
      refine lv_goto (tgt := 19) hx hb d_Wh_becomeQuotient_60 (by decide) ?_
      exact ih ((rest * nB + (v j).2 k) % d) (va_up h k ((rest * nB + (v j).2 k) / d)) _ _ _ _ (by omega) (Nat.mod_lt _ hd0) (fun q => by by_cases e9 : q = k; (subst e9; rw [hw_up_eq]; exact hq9); (rw [hw_up_ne e9]; exact hB q)) (fun q hq => by rw [hw_up_ne (by omega)]; exact hh q (by omega)) (sdiv_step (by omega) hd0 hS) hV hF hI (lv_sub hl [0, 3, 1, 4, 5, 6] rfl)
  refine lv_lconst (v := lN 0) hx hb d_Wh_becomeQuotient_4 rfl ?_
  refine lv_lstore (lv' := [(4, .long (lN 0)), (0, .ref (o i)), (1, .ref (o j)), (2, .long (lN d))]) hx hb d_Wh_becomeQuotient_5 hl (by decide) rfl (fun ls hl => ?_)
  refine lv_aload_n hx hb d_Wh_becomeQuotient_7 rfl (lv_at hl 2 rfl) ?_
  refine wh_size S hI hV hj d_Wh_becomeQuotient_8 ?_
  refine hw_ti (show _ = nI M from by rw [hM]) ?_
  refine lv_istore (lv' := [(6, .int (nI M)), (4, .long (lN 0)), (0, .ref (o i)), (1, .ref (o j)), (2, .long (lN d))]) hx hb d_Wh_becomeQuotient_11 hl (by decide) rfl (fun ls hl => ?_)
  refine lv_iload hx hb d_Wh_becomeQuotient_13 (lv_at hl 0 rfl) ?_
  refine lv_iconst (v := nI 1) hx hb d_Wh_becomeQuotient_15 (by decide) ?_
  refine lv_isub hx hb d_Wh_becomeQuotient_16 ?_
  refine hw_ti (show _ = mI M from rfl) ?_
  refine lv_istore (lv' := [(7, .int (mI M)), (6, .int (nI M)), (4, .long (lN 0)), (0, .ref (o i)), (1, .ref (o j)), (2, .long (lN d))]) hx hb d_Wh_becomeQuotient_17 hl (by decide) rfl (fun ls hl => ?_)
  exact loop M 0 (v i).2 _ _ _ _ (Nat.le_refl _) hd0 (hO i hi).2.1 (fun _ _ => rfl) (by rw [Nat.sub_self, nvb_zero, nvb_zero]; omega) (fun z hz => by by_cases e9 : z = i; (subst e9; rw [hw_up_eq]; exact hV z hz); (rw [hw_up_ne e9]; exact hV z hz)) (fun _ _ _ => rfl) hI hl
set_option maxHeartbeats 4000000 in
set_option maxRecDepth 100000 in
theorem c_Wh_restBy (l : Launch) (D : va_G) (t0 : Nat) (L : List Nat) (f : Nat → va_E) (sz : Nat) (o r : Nat → Nat) (N : Nat) (x : Nat → Nat) (i : Nat) (d : Nat) (hi : i < N) (hY : Lay o r N) (hN : AllN D L f o r N x) (hd0 : 0 < d) (hdB : d ≤ nB) : Met l y_Wh_restBy (Cond.code y_Wh_restBy b_Wh_restBy 6 (some .long) :: TT) ({ frames := 1, cells := 0, slots := 0, locals := 21 } : Room) (hw_Pc t0 [.ref (o i), .long (lN d)] D L f sz) (hw_Q D L sz (fun oc L' f' => oc = .returned (some (.long (lN (x i % d)))) ∧ L = L' ∧ f = f')) 0 0 (hw_A L sz) := by
  refine Met.ofW (cc := b_Wh_restBy) (maxL := 6) (ret := (some .long)) (by decide) rfl ?_
  intro p e s m args below meth c s₁ B hml hv
  obtain ⟨rfl, rfl, hI⟩ := hw_start hv
  clear hv
  have hx := B.exec
  have hb := B.bytes
  have hr := B.returns
  have hlocks := B.notSynchronized
  have hown : s.vm.findClass "WallFractions$Whole" = some m.cls := findClass_of_methodNamed B.named
  have hT : ∀ w ∈ TT, w.before ([.ref (o i), .long (lN d)]).toArray s = true := fun w h => atoms_spec (ws := (Cond.code y_Wh_restBy b_Wh_restBy 6 (some .long) :: TT)) B.pre w (List.mem_cons_of_mem _ h)
  have S : CallFix p m c b_Wh_restBy 6 s ([.ref (o i), .long (lN d)]).toArray TT "WallFractions$Whole" := ⟨hx, hb, hml, hown, hT⟩
  have hl := lv_entry ([.ref (o i), .long (lN d)]) (n := 6) (Nat.le_of_ble_eq_true rfl)
  rw [lg_entry_eq]
  generalize (lg_sl ([.ref (o i), .long (lN d)]) ++ List.replicate (6 - (lg_sl ([.ref (o i), .long (lN d)])).length) Slot.unset).toArray = ls at hl ⊢
  have hl : lv_has ls 6 [(0, .ref (o i)), (1, .long (lN d))] := hl
  skip
  obtain ⟨v, hV, hO⟩ := hN
  have hnB : nB = 1000000000 := rfl
  have h1 := (hO i hi).1
  obtain ⟨M, hM⟩ : ∃ M, M = (v i).1 := ⟨_, rfl⟩
  refine lv_lload_n hx hb d_Wh_restBy_0 rfl (lv_at hl 1 rfl) ?_
  refine hw_cS (As := [.long (lN d)]) (rest := []) S hI m_Wh_requireDivisor w_476 (c_Wh_requireDivisor l D t0 L _ _ d hd0 (by omega)) hl.1 rfl rfl (Nat.le_of_ble_eq_true rfl) d_Wh_restBy_1 ⟨Nat.le_of_ble_eq_true rfl, Nat.le_of_ble_eq_true rfl⟩ ⟨Nat.le_of_ble_eq_true rfl, Nat.le_of_ble_eq_true rfl⟩ (fun v9 L9 f18 H locs hp hI => ?_)
  refine W.cs (cells' := 0) (slots' := 0) rfl rfl ?_
  obtain ⟨hv9, rfl, rfl⟩ := hp
  cases hv9
  refine hw_stk (st' := []) rfl ?_
  have loop : ∀ (k rest : Nat) (f1 : Nat → va_E) (H : Heap) (locs : List Loc) (ls : Array Slot), k ≤ M → rest = nvb nB (nsh (v i).2 k) (M - k) % d → f = f1 → hw_I D t0 (hw_A L s.heap.size) s L f1 H locs → lv_has ls 6 [(5, .int (mI k)), (3, .long (lN rest)), (0, .ref (o i)), (1, .long (lN d))] → W p l e (headSpec (Cond.code y_Wh_restBy b_Wh_restBy 6 (some .long) :: TT) ({ frames := 1, cells := 0, slots := 0, locals := 21 } : Room)).room s m ([.ref (o i), .long (lN d)]).toArray below meth c H locs 0 0 (MQ below (hw_Q D L s.heap.size (fun oc L' f' => oc = .returned (some (.long (lN (x i % d)))) ∧ L = L' ∧ f = f')) ([.ref (o i), .long (lN d)]).toArray s 0 0 (hw_A L s.heap.size)) (F0 m 14 ls []) := by
    intro k
    induction k with
    | zero =>
      intro rest f1 H locs ls hk hS hf hI hl
      subst hf
      refine lv_iload hx hb d_Wh_restBy_14 (lv_at hl 0 rfl) ?_
      refine hw_m0 (tgt := 41) hx hb d_Wh_restBy_16 (by decide) ?_
      refine lv_lload_n hx hb d_Wh_restBy_41 rfl (lv_at hl 1 rfl) ?_
      have e0 : ∀ g : Nat → Nat, nsh g 0 = g := fun g => funext (fun q => by unfold nsh; rw [Nat.zero_add])
      rw [e0, Nat.sub_zero, hM, (hO i hi).2.2.2] at hS
      exact hw_lret hx hb hr hlocks hI d_Wh_restBy_42 ⟨by rw [hS], rfl, rfl⟩
    | succ k ih =>
      intro rest f1 H locs ls hk hS hf hI hl
      subst hf
      rw [mI_s] at hl
      refine lv_iload hx hb d_Wh_restBy_14 (lv_at hl 0 rfl) ?_
      refine hw_if_lt (tgt := 41) hx hb d_Wh_restBy_16 (by decide) (by omega) ?_
      have hvj := (hO i hi).2.1 k
      have hrd : rest < d := by rw [hS]; exact Nat.mod_lt _ hd0
      have hrb : rest * nB ≤ (nB - 1) * nB := Nat.mul_le_mul_right _ (by omega)
      have hnn : (nB - 1) * nB = 999999999000000000 := rfl
      refine lv_lload_n hx hb d_Wh_restBy_19 rfl (lv_at hl 1 rfl) ?_
      refine hw_ldc2 (v := lN nB) hx hb hown (hT _ w_56) d_Wh_restBy_20 ?_
      refine lv_lmul hx hb d_Wh_restBy_23 ?_
      refine hw_tl (lN_mul _ _) ?_
      refine lv_aload_n hx hb d_Wh_restBy_24 rfl (lv_at hl 2 rfl) ?_
      refine wh_limbs S hI hV hi d_Wh_restBy_25 ?_
      refine lv_iload hx hb d_Wh_restBy_28 (lv_at hl 0 rfl) ?_
      refine wh_ld S hI hV hi (by omega) d_Wh_restBy_30 ?_
      refine lv_ladd hx hb d_Wh_restBy_31 ?_
      refine hw_tl (lN_add _ _) ?_
      refine lv_lload_n hx hb d_Wh_restBy_32 rfl (lv_at hl 3 rfl) ?_
      refine lv_lrem hx hb d_Wh_restBy_33 (by intro h9; have h8 := (pk_lEQ (b := 0) (by omega) (by decide)).mp h9; omega) ?_
      refine hw_tl (pk_lRem (by omega) (by omega) (by omega)) ?_
      refine lv_lstore_n (lv' := [(3, .long (lN (((rest * nB) + ((v i).2 k)) % d))), (5, .int (nI k)), (0, .ref (o i)), (1, .long (lN d))]) hx hb d_Wh_restBy_34 rfl hl (by decide) rfl (fun ls hl => ?_)
      refine lv_iinc (v := mI k) (lv' := [(5, .int (mI k)), (3, .long (lN (((rest * nB) + ((v i).2 k)) % d))), (0, .ref (o i)), (1, .long (lN d))]) hx hb d_Wh_restBy_35 hl (k := 1) rfl (mI_d k) (by decide) rfl (fun ls hl => ?_)
      refine lv_goto (tgt := 14) hx hb d_Wh_restBy_38 (by decide) ?_
      exact ih ((rest * nB + (v i).2 k) % d) _ _ _ _ (by omega) (by rw [nvb_down (by omega), hS]; generalize nvb nB (nsh (v i).2 (k + 1)) (M - (k + 1)) = Z; rw [Nat.add_mod, Nat.mod_mul_mod, ← Nat.add_mod, Nat.mul_comm Z nB, Nat.add_comm]) rfl hI hl
  refine lv_lconst (v := lN 0) hx hb d_Wh_restBy_4 rfl ?_
  refine lv_lstore_n (lv' := [(3, .long (lN 0)), (0, .ref (o i)), (1, .long (lN d))]) hx hb d_Wh_restBy_5 rfl hl (by decide) rfl (fun ls hl => ?_)
  refine lv_aload_n hx hb d_Wh_restBy_6 rfl (lv_at hl 1 rfl) ?_
  refine wh_size S hI hV hi d_Wh_restBy_7 ?_
  refine hw_ti (show _ = nI M from by rw [hM]) ?_
  refine lv_iconst (v := nI 1) hx hb d_Wh_restBy_10 (by decide) ?_
  refine lv_isub hx hb d_Wh_restBy_11 ?_
  refine hw_ti (show _ = mI M from rfl) ?_
  refine lv_istore (lv' := [(5, .int (mI M)), (3, .long (lN 0)), (0, .ref (o i)), (1, .long (lN d))]) hx hb d_Wh_restBy_12 hl (by decide) rfl (fun ls hl => ?_)
  exact loop M 0 _ _ _ _ (Nat.le_refl _) (by rw [Nat.sub_self, nvb_zero, Nat.zero_mod]) rfl hI hl

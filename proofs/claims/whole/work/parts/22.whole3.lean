set_option maxHeartbeats 4000000 in
set_option maxRecDepth 100000 in
theorem c_Wh_become (l : Launch) (D : va_G) (t0 : Nat) (L : List Nat) (f : Nat → va_E) (sz : Nat) (o r : Nat → Nat) (N : Nat) (x : Nat → Nat) (i : Nat) (val : Nat) (hi : i < N) (hY : Lay o r N) (hN : AllN D L f o r N x) (hval : val < 2 ^ 63) : Met l y_Wh_become (Cond.code y_Wh_become b_Wh_become 5 none :: TT) ({ frames := 0, cells := 0, slots := 0, locals := 0 } : Room) (hw_Pc t0 [.ref (o i), .long (lN val)] D L f sz) (hw_Q D L sz (fun oc L' f' => oc = .returned none ∧ L = L' ∧ AllN D L f' o r N (va_up x i (val)) ∧ ∀ q, q ≠ o i → q ≠ r i → f' q = f q)) 0 0 (hw_A L sz) := by
  refine Met.ofW (cc := b_Wh_become) (maxL := 5) (ret := none) (by decide) rfl ?_
  intro p e s m args below meth c s₁ B hml hv
  obtain ⟨rfl, rfl, hI⟩ := hw_start hv
  clear hv
  have hx := B.exec
  have hb := B.bytes
  have hr := B.returns
  have hlocks := B.notSynchronized
  have hown : s.vm.findClass "WallFractions$Whole" = some m.cls := findClass_of_methodNamed B.named
  have hT : ∀ w ∈ TT, w.before ([.ref (o i), .long (lN val)]).toArray s = true := fun w h => atoms_spec (ws := (Cond.code y_Wh_become b_Wh_become 5 none :: TT)) B.pre w (List.mem_cons_of_mem _ h)
  have S : CallFix p m c b_Wh_become 5 s ([.ref (o i), .long (lN val)]).toArray TT "WallFractions$Whole" := ⟨hx, hb, hml, hown, hT⟩
  have hl := lv_entry ([.ref (o i), .long (lN val)]) (n := 5) (Nat.le_of_ble_eq_true rfl)
  rw [lg_entry_eq]
  generalize (lg_sl ([.ref (o i), .long (lN val)]) ++ List.replicate (5 - (lg_sl ([.ref (o i), .long (lN val)])).length) Slot.unset).toArray = ls at hl ⊢
  have hl : lv_has ls 5 [(0, .ref (o i)), (1, .long (lN val))] := hl
  skip
  obtain ⟨v, hV, hO⟩ := hN
  have hnB : nB = 1000000000 := rfl
  have loop : ∀ (g k left : Nat) (h : Nat → Nat) (f1 : Nat → va_E) (H : Heap) (locs : List Loc) (ls : Array Slot), k + g = 3 → left < nB ^ g → (∀ q, h q < nB) → nvb nB h k + left * nB ^ k = val → (left = 0 → 0 < k → 0 < h (k - 1)) → left < 2 ^ 63 → AllW D L f1 o r N (va_up v i (k, h)) → (∀ q, q ≠ o i → q ≠ r i → f1 q = f q) → hw_I D t0 (hw_A L s.heap.size) s L f1 H locs → lv_has ls 5 [(3, .long (lN left)), (0, .ref (o i)), (1, .long (lN val))] → W p l e (headSpec (Cond.code y_Wh_become b_Wh_become 5 none :: TT) ({ frames := 0, cells := 0, slots := 0, locals := 0 } : Room)).room s m ([.ref (o i), .long (lN val)]).toArray below meth c H locs 0 0 (MQ below (hw_Q D L s.heap.size (fun oc L' f' => oc = .returned none ∧ L = L' ∧ AllN D L f' o r N (va_up x i (val)) ∧ ∀ q, q ≠ o i → q ≠ r i → f' q = f q)) ([.ref (o i), .long (lN val)]).toArray s 0 0 (hw_A L s.heap.size)) (F0 m 7 ls []) := by
    intro g
    induction g with
    | zero =>
      intro k left h f1 H locs ls hkg hlt hB hS htop h63 hV hF hI hl
      refine lv_lload_n hx hb d_Wh_become_7 rfl (lv_at hl 0 rfl) ?_
      refine lv_lconst (v := lN 0) hx hb d_Wh_become_8 rfl ?_
      refine hw_l_le (tgt := 55) hx hb d_Wh_become_9 d_Wh_become_10 (by decide) (fun c1 => ?_) (fun c1 => ?_)
      · have hl0 : left = 0 := Nat.le_zero.mp ((pk_lLE h63 (by decide)).mp c1)
        exact hw_vret hx hb hr hlocks hI d_Wh_become_55 ⟨rfl, rfl, AllN.mk hO hV (by omega) ⟨hB, htop hl0, by rw [hl0, Nat.zero_mul, Nat.add_zero] at hS; exact hS⟩, hF⟩
      · have hlp : 0 < left := (pk_lLT (by decide) h63).mp c1
        exact absurd hlt (by rw [Nat.pow_zero]; omega)
    | succ g ih =>
      intro k left h f1 H locs ls hkg hlt hB hS htop h63 hV hF hI hl
      refine lv_lload_n hx hb d_Wh_become_7 rfl (lv_at hl 0 rfl) ?_
      refine lv_lconst (v := lN 0) hx hb d_Wh_become_8 rfl ?_
      refine hw_l_le (tgt := 55) hx hb d_Wh_become_9 d_Wh_become_10 (by decide) (fun c2 => ?_) (fun c2 => ?_)
      · have hl0 : left = 0 := Nat.le_zero.mp ((pk_lLE h63 (by decide)).mp c2)
        exact hw_vret hx hb hr hlocks hI d_Wh_become_55 ⟨rfl, rfl, AllN.mk hO hV (by omega) ⟨hB, htop hl0, by rw [hl0, Nat.zero_mul, Nat.add_zero] at hS; exact hS⟩, hF⟩
      · have hlp : 0 < left := (pk_lLT (by decide) h63).mp c2
        refine lv_aload_n hx hb d_Wh_become_13 rfl (lv_at hl 1 rfl) ?_
        refine wh_size S hI hV hi d_Wh_become_14 ?_
        refine hw_ti (show _ = nI k from by rw [hw_up_eq]) ?_
        refine lv_bipush (v := nI 41) hx hb d_Wh_become_17 (by decide) ?_
        refine hw_icmp_ge (tgt := 55) hx hb d_Wh_become_19 (by decide) (by omega) (by omega) (fun c3 => ?_) (fun c3 => ?_)
        · exact absurd c3 (by omega)
        · refine lv_aload_n hx hb d_Wh_become_22 rfl (lv_at hl 1 rfl) ?_
          refine wh_limbs S hI hV hi d_Wh_become_23 ?_
          refine lv_aload_n hx hb d_Wh_become_26 rfl (lv_at hl 1 rfl) ?_
          refine wh_size S hI hV hi d_Wh_become_27 ?_
          refine hw_ti (show _ = nI k from by rw [hw_up_eq]) ?_
          refine lv_lload_n hx hb d_Wh_become_30 rfl (lv_at hl 0 rfl) ?_
          refine hw_ldc2 (v := lN nB) hx hb hown (hT _ w_56) d_Wh_become_31 ?_
          refine lv_lrem hx hb d_Wh_become_34 (by intro h9; have h8 := (pk_lEQ (b := 0) (by omega) (by decide)).mp h9; omega) ?_
          refine hw_tl (pk_lRem (by omega) (by omega) (by omega)) ?_
          refine wh_st S hI hV hY hi (by omega) d_Wh_become_35 (fun f4 H locs hI hV hf4 => ?_)
          have hF := fun q (h1 : q ≠ o i) (h2 : q ≠ r i) => (hf4 q h2).trans (hF q h1 h2)
          have hV : AllW D L f4 o r N (va_up v i (k, va_up h k (left % nB))) := by simpa only [hw_up_eq, bx_uu] using hV
          refine lv_lload_n hx hb d_Wh_become_36 rfl (lv_at hl 0 rfl) ?_
          refine hw_ldc2 (v := lN nB) hx hb hown (hT _ w_56) d_Wh_become_37 ?_
          refine lv_ldiv hx hb d_Wh_become_40 (by intro h9; have h8 := (pk_lEQ (b := 0) (by omega) (by decide)).mp h9; omega) ?_
          refine hw_tl (pk_lDiv (by omega) (by omega) (by omega)) ?_
          refine lv_lstore_n (lv' := [(3, .long (lN (left / nB))), (0, .ref (o i)), (1, .long (lN val))]) hx hb d_Wh_become_41 rfl hl (by decide) rfl (fun ls hl => ?_)
          refine lv_aload_n hx hb d_Wh_become_42 rfl (lv_at hl 1 rfl) ?_
          refine lv_dup hx hb d_Wh_become_43 rfl ?_
          refine wh_size S hI hV hi d_Wh_become_44 ?_
          refine hw_ti (show _ = nI k from by rw [hw_up_eq]) ?_
          refine lv_iconst (v := nI 1) hx hb d_Wh_become_47 (by decide) ?_
          refine lv_iadd hx hb d_Wh_become_48 ?_
          refine hw_ti (nI_add _ _) ?_
          refine wh_psize S hI hV hY hi d_Wh_become_49 (fun f5 H locs hI hV hf5 => ?_)
          have hF := fun q (h1 : q ≠ o i) (h2 : q ≠ r i) => (hf5 q h1).trans (hF q h1 h2)
          refine lv_goto (tgt := 7) hx hb d_Wh_become_52 (by decide) ?_
          have hV : AllW D L f5 o r N (va_up v i (k + 1, va_up h k (left % nB))) := by simpa only [hw_up_eq, bx_uu] using hV
          have hlt2 : left / nB < nB ^ g := Nat.div_lt_of_lt_mul (by rw [Nat.pow_succ, Nat.mul_comm] at hlt; exact hlt)
          have hdm := Nat.div_add_mod left nB
          exact ih (k + 1) (left / nB) (va_up h k (left % nB)) _ _ _ _ (by omega) hlt2 (fun q => by by_cases e9 : q = k; (subst e9; rw [hw_up_eq]; exact Nat.mod_lt _ nB_pos); (rw [hw_up_ne e9]; exact hB q)) (by rw [nvb_digit (cr := left) (w := 0) rfl (by rw [Nat.zero_add, Nat.mul_comm]; omega), Nat.zero_mul, Nat.add_zero]; exact hS) (fun e0 _ => by rw [Nat.add_sub_cancel, hw_up_eq]; rw [e0] at hdm; omega) (Nat.lt_of_le_of_lt (Nat.div_le_self _ _) h63) hV hF hI hl
  refine lv_lload_n hx hb d_Wh_become_0 rfl (lv_at hl 1 rfl) ?_
  refine lv_lstore_n (lv' := [(3, .long (lN val)), (0, .ref (o i)), (1, .long (lN val))]) hx hb d_Wh_become_1 rfl hl (by decide) rfl (fun ls hl => ?_)
  refine lv_aload_n hx hb d_Wh_become_2 rfl (lv_at hl 1 rfl) ?_
  refine lv_iconst (v := nI 0) hx hb d_Wh_become_3 (by decide) ?_
  refine wh_psize S hI hV hY hi d_Wh_become_4 (fun f6 H locs hI hV hf6 => ?_)
  exact loop 3 0 val (v i).2 _ _ _ _ rfl (by rw [hnB]; omega) (hO i hi).2.1 (by rw [nvb_zero, Nat.pow_zero]; omega) (fun _ h => absurd h (by omega)) hval hV (fun q h1 h2 => hf6 q h1) hI hl
set_option maxHeartbeats 4000000 in
set_option maxRecDepth 100000 in
theorem c_Wh_becomeSum (l : Launch) (D : va_G) (t0 : Nat) (L : List Nat) (f : Nat → va_E) (sz : Nat) (o r : Nat → Nat) (N : Nat) (x : Nat → Nat) (i : Nat) (j k : Nat) (hi : i < N) (hY : Lay o r N) (hN : AllN D L f o r N x) (hj : j < N) (hk : k < N) (hxj : x j < nB ^ 40) (hxk : x k < nB ^ 40) : Met l y_Wh_becomeSum (Cond.code y_Wh_becomeSum b_Wh_becomeSum 9 none :: TT) ({ frames := 7, cells := 0, slots := 0, locals := 130 } : Room) (hw_Pc t0 [.ref (o i), .ref (o j), .ref (o k)] D L f sz) (hw_Q D L sz (fun oc L' f' => oc = .returned none ∧ L = L' ∧ AllN D L f' o r N (va_up x i (x j + x k)) ∧ ∀ q, q ≠ o i → q ≠ r i → f' q = f q)) 0 0 (hw_A L sz) := by
  refine Met.ofW (cc := b_Wh_becomeSum) (maxL := 9) (ret := none) (by decide) rfl ?_
  intro p e s m args below meth c s₁ B hml hv
  obtain ⟨rfl, rfl, hI⟩ := hw_start hv
  clear hv
  have hx := B.exec
  have hb := B.bytes
  have hr := B.returns
  have hlocks := B.notSynchronized
  have hown : s.vm.findClass "WallFractions$Whole" = some m.cls := findClass_of_methodNamed B.named
  have hT : ∀ w ∈ TT, w.before ([.ref (o i), .ref (o j), .ref (o k)]).toArray s = true := fun w h => atoms_spec (ws := (Cond.code y_Wh_becomeSum b_Wh_becomeSum 9 none :: TT)) B.pre w (List.mem_cons_of_mem _ h)
  have S : CallFix p m c b_Wh_becomeSum 9 s ([.ref (o i), .ref (o j), .ref (o k)]).toArray TT "WallFractions$Whole" := ⟨hx, hb, hml, hown, hT⟩
  have hl := lv_entry ([.ref (o i), .ref (o j), .ref (o k)]) (n := 9) (Nat.le_of_ble_eq_true rfl)
  rw [lg_entry_eq]
  generalize (lg_sl ([.ref (o i), .ref (o j), .ref (o k)]) ++ List.replicate (9 - (lg_sl ([.ref (o i), .ref (o j), .ref (o k)])).length) Slot.unset).toArray = ls at hl ⊢
  have hl : lv_has ls 9 [(0, .ref (o i)), (1, .ref (o j)), (2, .ref (o k))] := hl
  skip
  obtain ⟨v, hV, hO⟩ := hN
  have hnB : nB = 1000000000 := rfl
  have h1 : (v j).1 ≤ 40 := ((hO j hj).2.size_le nB1).mpr hxj
  have h2 : (v k).1 ≤ 40 := ((hO k hk).2.size_le nB1).mpr hxk
  obtain ⟨M, hM⟩ : ∃ M, M = max (v j).1 (v k).1 := ⟨_, rfl⟩
  have hM1 : (v j).1 ≤ M := by omega
  have hM2 : (v k).1 ≤ M := by omega
  have hM3 : M ≤ 40 := by omega
  refine lv_aload_n hx hb d_Wh_becomeSum_0 rfl (lv_at hl 1 rfl) ?_
  refine wh_size S hI hV hj d_Wh_becomeSum_1 ?_
  refine lv_aload_n hx hb d_Wh_becomeSum_4 rfl (lv_at hl 2 rfl) ?_
  refine wh_size S hI hV hk d_Wh_becomeSum_5 ?_
  refine hw_cS (As := [.int (nI (v j).1), .int (nI (v k).1)]) (rest := []) S hI m_Mt_max w_415 (c_Mt_max l D t0 L _ _ (v j).1 (v k).1 (by omega) (by omega)) hl.1 rfl rfl (Nat.le_of_ble_eq_true rfl) d_Wh_becomeSum_8 ⟨Nat.le_of_ble_eq_true rfl, Nat.le_of_ble_eq_true rfl⟩ ⟨Nat.le_of_ble_eq_true rfl, Nat.le_of_ble_eq_true rfl⟩ (fun v9 L9 f7 H locs hp hI => ?_)
  refine W.cs (cells' := 0) (slots' := 0) rfl rfl ?_
  obtain ⟨hv9, rfl, rfl⟩ := hp
  cases hv9
  refine hw_stk (st' := [.int (nI (max (v j).1 (v k).1))]) rfl ?_
  refine hw_ti (show _ = nI M from by rw [hM]) ?_
  refine lv_istore_n (lv' := [(3, .int (nI M)), (0, .ref (o i)), (1, .ref (o j)), (2, .ref (o k))]) hx hb d_Wh_becomeSum_11 rfl hl (by decide) rfl (fun ls hl => ?_)
  refine lv_iload_n hx hb d_Wh_becomeSum_12 rfl (lv_at hl 0 rfl) ?_
  refine lv_iconst (v := nI 1) hx hb d_Wh_becomeSum_13 (by decide) ?_
  refine lv_iadd hx hb d_Wh_becomeSum_14 ?_
  refine hw_ti (nI_add _ _) ?_
  refine hw_cS (As := [.int (nI (M + 1))]) (rest := []) S hI m_Wh_requireRoom w_385 (c_Wh_requireRoom l D t0 L _ _ (M + 1) (by omega)) hl.1 rfl rfl (Nat.le_of_ble_eq_true rfl) d_Wh_becomeSum_15 ⟨Nat.le_of_ble_eq_true rfl, Nat.le_of_ble_eq_true rfl⟩ ⟨Nat.le_of_ble_eq_true rfl, Nat.le_of_ble_eq_true rfl⟩ (fun v9 L9 f8 H locs hp hI => ?_)
  refine W.cs (cells' := 0) (slots' := 0) rfl rfl ?_
  obtain ⟨hv9, rfl, rfl⟩ := hp
  cases hv9
  refine hw_stk (st' := []) rfl ?_
  have loop : ∀ (g t cr : Nat) (h : Nat → Nat) (f1 : Nat → va_E) (H : Heap) (locs : List Loc) (ls : Array Slot), t + g = M → cr ≤ 1 → (∀ q, h q < nB) → (∀ q, t ≤ q → h q = (v i).2 q) → nvb nB h t + cr * nB ^ t = nvb nB (padl (v j)) t + nvb nB (padl (v k)) t → AllW D L f1 o r N (va_up v i ((v i).1, h)) → (∀ q, q ≠ o i → q ≠ r i → f1 q = f q) → hw_I D t0 (hw_A L s.heap.size) s L f1 H locs → lv_has ls 9 [(6, .int (nI t)), (4, .long (lN cr)), (3, .int (nI M)), (0, .ref (o i)), (1, .ref (o j)), (2, .ref (o k))] → W p l e (headSpec (Cond.code y_Wh_becomeSum b_Wh_becomeSum 9 none :: TT) ({ frames := 7, cells := 0, slots := 0, locals := 130 } : Room)).room s m ([.ref (o i), .ref (o j), .ref (o k)]).toArray below meth c H locs 0 0 (MQ below (hw_Q D L s.heap.size (fun oc L' f' => oc = .returned none ∧ L = L' ∧ AllN D L f' o r N (va_up x i (x j + x k)) ∧ ∀ q, q ≠ o i → q ≠ r i → f' q = f q)) ([.ref (o i), .ref (o j), .ref (o k)]).toArray s 0 0 (hw_A L s.heap.size)) (F0 m 24 ls []) := by
    intro g
    induction g with
    | zero =>
      intro t cr h f1 H locs ls htg hcr hB hh hS hV hF hI hl
      refine lv_iload hx hb d_Wh_becomeSum_24 (lv_at hl 0 rfl) ?_
      refine lv_iload_n hx hb d_Wh_becomeSum_26 rfl (lv_at hl 2 rfl) ?_
      refine hw_icmp_ge (tgt := 86) hx hb d_Wh_becomeSum_27 (by decide) (by omega) (by omega) (fun c9 => ?_) (fun c9 => ?_)
      · refine lv_aload_n hx hb d_Wh_becomeSum_86 rfl (lv_at hl 3 rfl) ?_
        refine wh_limbs S hI hV hi d_Wh_becomeSum_87 ?_
        refine lv_iload_n hx hb d_Wh_becomeSum_90 rfl (lv_at hl 2 rfl) ?_
        refine lv_lload hx hb d_Wh_becomeSum_91 (lv_at hl 1 rfl) ?_
        refine wh_st S hI hV hY hi (by omega) d_Wh_becomeSum_93 (fun f10 H locs hI hV hf10 => ?_)
        have hF := fun q (h1 : q ≠ o i) (h2 : q ≠ r i) => (hf10 q h2).trans (hF q h1 h2)
        refine lv_aload_n hx hb d_Wh_becomeSum_94 rfl (lv_at hl 3 rfl) ?_
        refine lv_iload_n hx hb d_Wh_becomeSum_95 rfl (lv_at hl 2 rfl) ?_
        refine lv_iconst (v := nI 1) hx hb d_Wh_becomeSum_96 (by decide) ?_
        refine lv_iadd hx hb d_Wh_becomeSum_97 ?_
        refine hw_ti (nI_add _ _) ?_
        have htM : t = M := by omega
        have hV : AllW D L f10 o r N (va_up v i ((v i).1, va_up h M cr)) := by simpa only [hw_up_eq, bx_uu] using hV
        have hB2 : ∀ q, va_up h M cr q < nB := fun q => by by_cases e9 : q = M; (subst e9; rw [hw_up_eq]; omega); (rw [hw_up_ne e9]; exact hB q)
        refine hw_cV (As := [.int (nI (M + 1))]) (rest := []) S hI m_Wh_settle w_389 (c_Wh_settle l D t0 L _ _ o r N (va_up v i ((v i).1, va_up h M cr)) i (M + 1) hi hY hV (by omega) (by rw [hw_up_eq]; exact hB2)) (hV _ hi).1 rfl hl.1 rfl rfl (Nat.le_of_ble_eq_true rfl) d_Wh_becomeSum_98 ⟨Nat.le_of_ble_eq_true rfl, Nat.le_of_ble_eq_true rfl⟩ ⟨Nat.le_of_ble_eq_true rfl, Nat.le_of_ble_eq_true rfl⟩ (fun v9 L9 f11 H locs hp hI => ?_)
        refine W.cs (cells' := 0) (slots' := 0) rfl rfl ?_
        obtain ⟨hv9, rfl, n9, hn9, hk9, hV, hF9⟩ := hp
        cases hv9
        refine hw_stk (st' := []) rfl ?_
        rw [hw_up_eq] at hk9
        have hV : AllW D L f11 o r N (va_up v i (n9, va_up h M cr)) := by simpa only [hw_up_eq, bx_uu] using hV
        have hval : nvb nB (va_up h M cr) (M + 1) = x j + x k := by
          have e1 := nvb_padl (b := nB) hM1
          have e2 := nvb_padl (b := nB) hM2
          rw [(hO j hj).2.2.2] at e1
          rw [(hO k hk).2.2.2] at e2
          rw [nvb_upS, ← e1, ← e2, ← htM]
          exact hS
        exact hw_vret hx hb hr hlocks hI d_Wh_becomeSum_101 ⟨rfl, rfl, AllN.mk hO hV (by omega) (by rw [← hval]; exact hk9), fun q h1 h2 => (hF9 q h1).trans (hF q h1 h2)⟩
      · exact absurd c9 (by omega)
    | succ g ih =>
      intro t cr h f1 H locs ls htg hcr hB hh hS hV hF hI hl
      refine lv_iload hx hb d_Wh_becomeSum_24 (lv_at hl 0 rfl) ?_
      refine lv_iload_n hx hb d_Wh_becomeSum_26 rfl (lv_at hl 2 rfl) ?_
      refine hw_icmp_ge (tgt := 86) hx hb d_Wh_becomeSum_27 (by decide) (by omega) (by omega) (fun c12 => ?_) (fun c12 => ?_)
      · exact absurd c12 (by omega)
      · have ht := hh t (Nat.le_refl _)
        refine lv_aload_n hx hb d_Wh_becomeSum_30 rfl (lv_at hl 4 rfl) ?_
        refine lv_iload hx hb d_Wh_becomeSum_31 (lv_at hl 0 rfl) ?_
        refine hw_cV (As := [.int (nI t)]) (rest := []) S hI m_Wh_limbAt w_418 (c_Wh_limbAt l D t0 L _ _ o r N (va_up v i ((v i).1, h)) j t hj hY hV (by omega) (by rw [up_fst]; omega)) (hV _ hj).1 rfl hl.1 rfl rfl (Nat.le_of_ble_eq_true rfl) d_Wh_becomeSum_33 ⟨Nat.le_of_ble_eq_true rfl, Nat.le_of_ble_eq_true rfl⟩ ⟨Nat.le_of_ble_eq_true rfl, Nat.le_of_ble_eq_true rfl⟩ (fun v9 L9 f13 H locs hp hI => ?_)
        refine W.cs (cells' := 0) (slots' := 0) rfl rfl ?_
        obtain ⟨hv9, rfl, rfl⟩ := hp
        cases hv9
        refine hw_stk (st' := [.long (lN (padl (va_up v i ((v i).1, h) j) t))]) rfl ?_
        refine hw_tl (show _ = lN (padl (v j) t) from by rw [up_padl ht]) ?_
        refine lv_aload_n hx hb d_Wh_becomeSum_36 rfl (lv_at hl 5 rfl) ?_
        refine lv_iload hx hb d_Wh_becomeSum_37 (lv_at hl 0 rfl) ?_
        refine hw_cV (As := [.int (nI t)]) (rest := [.long (lN (padl (v j) t))]) S hI m_Wh_limbAt w_418 (c_Wh_limbAt l D t0 L _ _ o r N (va_up v i ((v i).1, h)) k t hk hY hV (by omega) (by rw [up_fst]; omega)) (hV _ hk).1 rfl hl.1 rfl rfl (Nat.le_of_ble_eq_true rfl) d_Wh_becomeSum_39 ⟨Nat.le_of_ble_eq_true rfl, Nat.le_of_ble_eq_true rfl⟩ ⟨Nat.le_of_ble_eq_true rfl, Nat.le_of_ble_eq_true rfl⟩ (fun v9 L9 f14 H locs hp hI => ?_)
        refine W.cs (cells' := 0) (slots' := 0) rfl rfl ?_
        obtain ⟨hv9, rfl, rfl⟩ := hp
        cases hv9
        refine hw_stk (st' := [.long (lN (padl (va_up v i ((v i).1, h) k) t)), .long (lN (padl (v j) t))]) rfl ?_
        refine hw_tl (show _ = lN (padl (v k) t) from by rw [up_padl ht]) ?_
        have hpj := padl_lt nB_pos (hO j hj).2.1 t
        have hpk := padl_lt nB_pos (hO k hk).2.1 t
        refine lv_ladd hx hb d_Wh_becomeSum_42 ?_
        refine hw_tl (lN_add _ _) ?_
        refine lv_lload hx hb d_Wh_becomeSum_43 (lv_at hl 1 rfl) ?_
        refine lv_ladd hx hb d_Wh_becomeSum_45 ?_
        refine hw_tl (lN_add _ _) ?_
        refine lv_lstore (lv' := [(7, .long (lN (((padl (v j) t) + (padl (v k) t)) + cr))), (6, .int (nI t)), (4, .long (lN cr)), (3, .int (nI M)), (0, .ref (o i)), (1, .ref (o j)), (2, .ref (o k))]) hx hb d_Wh_becomeSum_46 hl (by decide) rfl (fun ls hl => ?_)
        refine lv_lload hx hb d_Wh_becomeSum_48 (lv_at hl 0 rfl) ?_
        refine hw_ldc2 (v := lN nB) hx hb hown (hT _ w_56) d_Wh_becomeSum_50 ?_
        refine hw_l_lt (tgt := 61) hx hb d_Wh_becomeSum_53 d_Wh_becomeSum_54 (by decide) (fun c15 => ?_) (fun c15 => ?_)
        · have hc : padl (v j) t + padl (v k) t + cr < nB := (pk_lLT (by omega) (by omega)).mp c15
          refine lv_lconst (v := lN 0) hx hb d_Wh_becomeSum_61 rfl ?_
          refine lv_lstore (lv' := [(4, .long (lN 0)), (7, .long (lN (((padl (v j) t) + (padl (v k) t)) + cr))), (6, .int (nI t)), (3, .int (nI M)), (0, .ref (o i)), (1, .ref (o j)), (2, .ref (o k))]) hx hb d_Wh_becomeSum_62 hl (by decide) rfl (fun ls hl => ?_)
          refine lv_aload_n hx hb d_Wh_becomeSum_64 rfl (lv_at hl 4 rfl) ?_
          refine wh_limbs S hI hV hi d_Wh_becomeSum_65 ?_
          refine lv_iload hx hb d_Wh_becomeSum_68 (lv_at hl 2 rfl) ?_
          refine lv_lload hx hb d_Wh_becomeSum_70 (lv_at hl 1 rfl) ?_
          refine lv_lload hx hb d_Wh_becomeSum_72 (lv_at hl 0 rfl) ?_
          refine hw_ldc2 (v := lN nB) hx hb hown (hT _ w_56) d_Wh_becomeSum_74 ?_
          refine lv_lmul hx hb d_Wh_becomeSum_77 ?_
          refine hw_tl (lN_mul _ _) ?_
          refine lv_lsub hx hb d_Wh_becomeSum_78 ?_
          refine hw_tl (lN_sub (by omega)) ?_
          refine wh_st S hI hV hY hi (by omega) d_Wh_becomeSum_79 (fun f16 H locs hI hV hf16 => ?_)
          have hF := fun q (h1 : q ≠ o i) (h2 : q ≠ r i) => (hf16 q h2).trans (hF q h1 h2)
          have hV : AllW D L f16 o r N (va_up v i ((v i).1, va_up h t (padl (v j) t + padl (v k) t + cr - 0 * nB))) := by simpa only [hw_up_eq, bx_uu] using hV
          refine lv_iinc (v := nI (t + 1)) (lv' := [(6, .int (nI (t + 1))), (4, .long (lN 0)), (7, .long (lN (((padl (v j) t) + (padl (v k) t)) + cr))), (3, .int (nI M)), (0, .ref (o i)), (1, .ref (o j)), (2, .ref (o k))]) hx hb d_Wh_becomeSum_80 hl (k := 2) rfl (nI_1 _) (by decide) rfl (fun ls hl => ?_)
          refine lv_goto (tgt := 24) hx hb d_Wh_becomeSum_83 (by decide) ?_
          exact ih (t + 1) 0 (va_up h t (padl (v j) t + padl (v k) t + cr - 0 * nB)) _ _ _ _ (by omega) (by omega) (fun q => by by_cases e9 : q = t; (subst e9; rw [hw_up_eq]; omega); (rw [hw_up_ne e9]; exact hB q)) (fun q hq => by rw [hw_up_ne (by omega)]; exact hh q (by omega)) (by rw [nvb_digit (w := padl (v j) t + padl (v k) t) hS (by omega), nvb_succ, nvb_succ, Nat.add_mul]; omega) hV hF hI (lv_sub hl [0, 1, 3, 4, 5, 6] rfl)
        · have hc : nB ≤ padl (v j) t + padl (v k) t + cr := (pk_lLE (by omega) (by omega)).mp c15
          refine lv_lconst (v := lN 1) hx hb d_Wh_becomeSum_57 rfl ?_
          refine lv_goto (tgt := 62) hx hb d_Wh_becomeSum_58 (by decide) ?_
          refine lv_lstore (lv' := [(4, .long (lN 1)), (7, .long (lN (((padl (v j) t) + (padl (v k) t)) + cr))), (6, .int (nI t)), (3, .int (nI M)), (0, .ref (o i)), (1, .ref (o j)), (2, .ref (o k))]) hx hb d_Wh_becomeSum_62 hl (by decide) rfl (fun ls hl => ?_)
          refine lv_aload_n hx hb d_Wh_becomeSum_64 rfl (lv_at hl 4 rfl) ?_
          refine wh_limbs S hI hV hi d_Wh_becomeSum_65 ?_
          refine lv_iload hx hb d_Wh_becomeSum_68 (lv_at hl 2 rfl) ?_
          refine lv_lload hx hb d_Wh_becomeSum_70 (lv_at hl 1 rfl) ?_
          refine lv_lload hx hb d_Wh_becomeSum_72 (lv_at hl 0 rfl) ?_
          refine hw_ldc2 (v := lN nB) hx hb hown (hT _ w_56) d_Wh_becomeSum_74 ?_
          refine lv_lmul hx hb d_Wh_becomeSum_77 ?_
          refine hw_tl (lN_mul _ _) ?_
          refine lv_lsub hx hb d_Wh_becomeSum_78 ?_
          refine hw_tl (lN_sub (by omega)) ?_
          refine wh_st S hI hV hY hi (by omega) d_Wh_becomeSum_79 (fun f17 H locs hI hV hf17 => ?_)
          have hF := fun q (h1 : q ≠ o i) (h2 : q ≠ r i) => (hf17 q h2).trans (hF q h1 h2)
          have hV : AllW D L f17 o r N (va_up v i ((v i).1, va_up h t (padl (v j) t + padl (v k) t + cr - 1 * nB))) := by simpa only [hw_up_eq, bx_uu] using hV
          refine lv_iinc (v := nI (t + 1)) (lv' := [(6, .int (nI (t + 1))), (4, .long (lN 1)), (7, .long (lN (((padl (v j) t) + (padl (v k) t)) + cr))), (3, .int (nI M)), (0, .ref (o i)), (1, .ref (o j)), (2, .ref (o k))]) hx hb d_Wh_becomeSum_80 hl (k := 2) rfl (nI_1 _) (by decide) rfl (fun ls hl => ?_)
          refine lv_goto (tgt := 24) hx hb d_Wh_becomeSum_83 (by decide) ?_
          exact ih (t + 1) 1 (va_up h t (padl (v j) t + padl (v k) t + cr - 1 * nB)) _ _ _ _ (by omega) (by omega) (fun q => by by_cases e9 : q = t; (subst e9; rw [hw_up_eq]; omega); (rw [hw_up_ne e9]; exact hB q)) (fun q hq => by rw [hw_up_ne (by omega)]; exact hh q (by omega)) (by rw [nvb_digit (w := padl (v j) t + padl (v k) t) hS (by omega), nvb_succ, nvb_succ, Nat.add_mul]; omega) hV hF hI (lv_sub hl [0, 1, 3, 4, 5, 6] rfl)
  refine lv_lconst (v := lN 0) hx hb d_Wh_becomeSum_18 rfl ?_
  refine lv_lstore (lv' := [(4, .long (lN 0)), (3, .int (nI M)), (0, .ref (o i)), (1, .ref (o j)), (2, .ref (o k))]) hx hb d_Wh_becomeSum_19 hl (by decide) rfl (fun ls hl => ?_)
  refine lv_iconst (v := nI 0) hx hb d_Wh_becomeSum_21 (by decide) ?_
  refine lv_istore (lv' := [(6, .int (nI 0)), (4, .long (lN 0)), (3, .int (nI M)), (0, .ref (o i)), (1, .ref (o j)), (2, .ref (o k))]) hx hb d_Wh_becomeSum_22 hl (by decide) rfl (fun ls hl => ?_)
  exact loop M 0 0 (v i).2 _ _ _ _ (by omega) (by omega) (hO i hi).2.1 (fun _ _ => rfl) (by rw [nvb_zero, nvb_zero, nvb_zero]; rfl) (fun z hz => by by_cases e9 : z = i; (subst e9; rw [hw_up_eq]; exact hV z hz); (rw [hw_up_ne e9]; exact hV z hz)) (fun _ _ _ => rfl) hI hl

theorem i32_sub_eq {u w : Nat} (hu : u < 2 ^ 30) (hw : w < 2 ^ 30) : nI u - nI w = 0 ↔ u = w := by
  rw [← Int32.toInt_inj, pk_sub_toInt hu hw]
  show (u : Int) - w = 0 ↔ u = w
  omega
theorem i32_sub_ge {u w : Nat} (hu : u < 2 ^ 30) (hw : w < 2 ^ 30) : 0 ≤ nI u - nI w ↔ w ≤ u := by
  rw [Int32.le_iff_toInt_le, pk_sub_toInt hu hw]
  show (0 : Int) ≤ (u : Int) - w ↔ w ≤ u
  omega
theorem i32_sub3 {a b c : Nat} : nI a - nI b - nI c = nI a - nI (b + c) := by
  rw [← nI_add]
  rw [Int32.sub_eq_add_neg, Int32.sub_eq_add_neg, Int32.sub_eq_add_neg, Int32.neg_add, Int32.sub_eq_add_neg, Int32.add_assoc]
theorem i32_sub3w {a b c w : Nat} (h : b + c ≤ a + w) : nI a - nI b - nI c + nI w = nI (a + w - b - c) := by
  rw [i32_sub3, show a + w - b - c = a + w - (b + c) by omega, ← pk_sub h, show nI (a + w) = nI a + nI w from (nI_add a w).symm, Int32.sub_eq_add_neg, Int32.sub_eq_add_neg, Int32.add_assoc, Int32.add_assoc, Int32.add_comm (-nI (b + c)) (nI w)]
theorem m1 : 1 < 10000 := by decide
theorem mpos : 0 < 10000 := by decide
theorem nsh_up3 {c : Nat → Nat} {i a t v : Nat} : nsh (va_up c (128 * i + a + t) v) (128 * i) = va_up (nsh c (128 * i)) (a + t) v := by
  rw [Nat.add_assoc]
  exact nsh_up
theorem Mc.nvb {c n y : Nat → Nat} (h : Mc c n y) {i k : Nat} (hi : i < 50) (hk : n i ≤ k) : nvb 10000 (pcl c n i) k = y i := by
  have := nvb_padl (b := 10000) (u := (n i, nsh c (128 * i))) (n := k) hk
  rw [show pcl c n i = padl (n i, nsh c (128 * i)) from rfl, this]
  exact (h.2 i hi).2.2.2
theorem nOk_lt {n m x y : Nat} {f g : Nat → Nat} {b : Nat} (hb : 1 < b) (h : nOk b n f x) (k : nOk b m g y) (hl : n < m) : x < y := by
  have h1 := h.lt
  have h2 := k.ge (by omega)
  have h3 : b ^ n ≤ b ^ (m - 1) := Nat.pow_le_pow_right (by omega) (by omega)
  omega
set_option maxHeartbeats 4000000 in
set_option maxRecDepth 100000 in
theorem c_Mo_order (l : Launch) (D : va_G) (t0 : Nat) (L : List Nat) (f : Nat → va_E) (sz : Nat) (mm mc ml mg mw mr : Nat) (th : Int32) (y : Nat → Nat) (sn : Nat → Int32) (wt rr : Nat → Nat) (i j : Nat) (hn : Mn D L f mm mc ml mg mw mr th y sn wt rr) (hi : i < 50) (hj : j < 50) : Met l y_Mo_order (Cond.code y_Mo_order b_Mo_order 5 (some .int) :: TT) ({ frames := 1, cells := 0, slots := 0, locals := 22 } : Room) (hw_Pc t0 [.ref (mm), .int (nI i), .int (nI j)] D L f sz) (hw_Q D L sz (fun oc L' f' => oc = .returned (some (.int (cmpN (y i) (y j)))) ∧ L = L' ∧ f = f')) 0 0 (hw_A L sz) := by
  refine Met.ofW (cc := b_Mo_order) (maxL := 5) (ret := (some .int)) (by decide) rfl ?_
  intro p e s m args below meth c s₁ B hml hv
  obtain ⟨rfl, rfl, hI⟩ := hw_start hv
  clear hv
  have hx := B.exec
  have hb := B.bytes
  have hr := B.returns
  have hlocks := B.notSynchronized
  have hown : s.vm.findClass "WallFractionsModel" = some m.cls := findClass_of_methodNamed B.named
  have hT : ∀ w ∈ TT, w.before ([.ref (mm), .int (nI i), .int (nI j)]).toArray s = true := fun w h => atoms_spec (ws := (Cond.code y_Mo_order b_Mo_order 5 (some .int) :: TT)) B.pre w (List.mem_cons_of_mem _ h)
  have S : CallFix p m c b_Mo_order 5 s ([.ref (mm), .int (nI i), .int (nI j)]).toArray TT "WallFractionsModel" := ⟨hx, hb, hml, hown, hT⟩
  have hl := lv_entry ([.ref (mm), .int (nI i), .int (nI j)]) (n := 5) (Nat.le_of_ble_eq_true rfl)
  rw [lg_entry_eq]
  generalize (lg_sl ([.ref (mm), .int (nI i), .int (nI j)]) ++ List.replicate (5 - (lg_sl ([.ref (mm), .int (nI i), .int (nI j)])).length) Slot.unset).toArray = ls at hl ⊢
  have hl : lv_has ls 5 [(0, .ref (mm)), (1, .int (nI i)), (2, .int (nI j))] := hl
  skip
  obtain ⟨cs, ns, hm, hc⟩ := hn
  have h1 := (hc.2 i hi).1
  have h2 := (hc.2 j hj).1
  refine lv_aload_n hx hb d_Mo_order_0 rfl (lv_at hl 0 rfl) ?_
  refine ob_get S hI hm.1 (C := R_Mo) (T := F_Mo) (N := 6) (ref := "WallFractionsModel") rfl i_Mo 2 (by decide) rfl w_773 rfl d_Mo_order_1 ?_
  refine lv_iload_n hx hb d_Mo_order_4 rfl (lv_at hl 1 rfl) ?_
  refine ia_ld S hI hm.2.2.1 (by decide) (by omega) d_Mo_order_5 ?_
  refine lv_aload_n hx hb d_Mo_order_6 rfl (lv_at hl 0 rfl) ?_
  refine ob_get S hI hm.1 (C := R_Mo) (T := F_Mo) (N := 6) (ref := "WallFractionsModel") rfl i_Mo 2 (by decide) rfl w_773 rfl d_Mo_order_7 ?_
  refine lv_iload_n hx hb d_Mo_order_10 rfl (lv_at hl 2 rfl) ?_
  refine ia_ld S hI hm.2.2.1 (by decide) (by omega) d_Mo_order_11 ?_
  refine hw_icmp_eq (tgt := 36) hx hb d_Mo_order_12 (by decide) (by omega) (by omega) (fun c1 => ?_) (fun c1 => ?_)
  · have hn9 : ns i = ns j := c1
    have loop : ∀ (t : Nat) (f1 : Nat → va_E) (H : Heap) (locs : List Loc) (ls : Array Slot), t ≤ ns i → (∀ q, t ≤ q → q < ns i → cs (128 * i + q) = cs (128 * j + q)) → f = f1 → hw_I D t0 (hw_A L s.heap.size) s L f1 H locs → lv_has ls 5 [(3, .int (mI t)), (2, .int (nI j)), (1, .int (nI i)), (0, .ref (mm))] → W p l e (headSpec (Cond.code y_Mo_order b_Mo_order 5 (some .int) :: TT) ({ frames := 1, cells := 0, slots := 0, locals := 22 } : Room)).room s m ([.ref (mm), .int (nI i), .int (nI j)]).toArray below meth c H locs 0 0 (MQ below (hw_Q D L s.heap.size (fun oc L' f' => oc = .returned (some (.int (cmpN (y i) (y j)))) ∧ L = L' ∧ f = f')) ([.ref (mm), .int (nI i), .int (nI j)]).toArray s 0 0 (hw_A L s.heap.size)) (F0 m 45 ls []) := by
      intro t
      induction t with
      | zero =>
        intro f1 H locs ls ht he hf hI hl
        subst hf
        have hyy : y i = y j := by rw [← (hc.2 i hi).2.2.2, ← (hc.2 j hj).2.2.2, ← hn9]; exact nvb_congr (fun q hq => he q (Nat.zero_le _) hq)
        refine lv_iload_n hx hb d_Mo_order_45 rfl (lv_at hl 0 rfl) ?_
        refine hw_m0 (tgt := 86) hx hb d_Mo_order_46 (by decide) ?_
        refine lv_iconst (v := nI 0) hx hb d_Mo_order_86 (by decide) ?_
        exact hw_iret hx hb hr hlocks hI d_Mo_order_87 ⟨by rw [cmpN_eq hyy]; rfl, rfl, rfl⟩
      | succ t ih =>
        intro f1 H locs ls ht he hf hI hl
        subst hf
        rw [mI_s] at hl
        refine lv_iload_n hx hb d_Mo_order_45 rfl (lv_at hl 0 rfl) ?_
        refine hw_if_lt (tgt := 86) hx hb d_Mo_order_46 (by decide) (by omega) ?_
        refine lv_aload_n hx hb d_Mo_order_49 rfl (lv_at hl 3 rfl) ?_
        refine lv_iload_n hx hb d_Mo_order_50 rfl (lv_at hl 2 rfl) ?_
        refine lv_iload_n hx hb d_Mo_order_51 rfl (lv_at hl 0 rfl) ?_
        refine hw_cV (As := [.int (nI i), .int (nI t)]) (rest := []) S hI m_Mo_cell w_822 (c_Mo_cell l D t0 L _ _ mm mc ml mg mw mr th cs ns sn wt rr i t hm hi (by omega) h1) hm.1 rfl hl.1 rfl rfl (Nat.le_of_ble_eq_true rfl) d_Mo_order_52 ⟨Nat.le_of_ble_eq_true rfl, Nat.le_of_ble_eq_true rfl⟩ ⟨Nat.le_of_ble_eq_true rfl, Nat.le_of_ble_eq_true rfl⟩ (fun v9 L9 f3 H locs hp hI => ?_)
        refine W.cs (cells' := 0) (slots' := 0) rfl rfl ?_
        obtain ⟨hv9, rfl, rfl⟩ := hp
        cases hv9
        refine hw_stk (st' := [.int (nI (pcl cs ns i t))]) rfl ?_
        refine hw_ti (show _ = nI (cs (128 * i + t)) from by unfold pcl; rw [if_pos (by omega)]) ?_
        refine lv_aload_n hx hb d_Mo_order_55 rfl (lv_at hl 3 rfl) ?_
        refine lv_iload_n hx hb d_Mo_order_56 rfl (lv_at hl 1 rfl) ?_
        refine lv_iload_n hx hb d_Mo_order_57 rfl (lv_at hl 0 rfl) ?_
        refine hw_cV (As := [.int (nI j), .int (nI t)]) (rest := [.int (nI (cs (128 * i + t)))]) S hI m_Mo_cell w_822 (c_Mo_cell l D t0 L _ _ mm mc ml mg mw mr th cs ns sn wt rr j t hm hj (by omega) h2) hm.1 rfl hl.1 rfl rfl (Nat.le_of_ble_eq_true rfl) d_Mo_order_58 ⟨Nat.le_of_ble_eq_true rfl, Nat.le_of_ble_eq_true rfl⟩ ⟨Nat.le_of_ble_eq_true rfl, Nat.le_of_ble_eq_true rfl⟩ (fun v9 L9 f4 H locs hp hI => ?_)
        refine W.cs (cells' := 0) (slots' := 0) rfl rfl ?_
        obtain ⟨hv9, rfl, rfl⟩ := hp
        cases hv9
        refine hw_stk (st' := [.int (nI (pcl cs ns j t)), .int (nI (cs (128 * i + t)))]) rfl ?_
        refine hw_ti (show _ = nI (cs (128 * j + t)) from by unfold pcl; rw [if_pos (by omega)]) ?_
        have b1 := hc.1 (128 * i + t)
        have b2 := hc.1 (128 * j + t)
        refine lv_isub hx hb d_Mo_order_61 ?_
        refine lv_istore (lv' := [(4, .int ((nI (cs (128 * i + t))) - (nI (cs (128 * j + t))))), (3, .int (nI t)), (2, .int (nI j)), (1, .int (nI i)), (0, .ref (mm))]) hx hb d_Mo_order_62 hl (by decide) rfl (fun ls hl => ?_)
        refine lv_iload hx hb d_Mo_order_64 (lv_at hl 0 rfl) ?_
        refine lv_if_eq (tgt := 80) hx hb d_Mo_order_66 (by decide) (fun c5 => ?_) (fun c5 => ?_)
        · have heq := (i32_sub_eq (by omega) (by omega)).mp c5
          refine lv_iinc (v := mI t) (lv' := [(3, .int (mI t)), (4, .int ((nI (cs (128 * i + t))) - (nI (cs (128 * j + t))))), (2, .int (nI j)), (1, .int (nI i)), (0, .ref (mm))]) hx hb d_Mo_order_80 hl (k := 1) rfl (mI_d t) (by decide) rfl (fun ls hl => ?_)
          refine lv_goto (tgt := 45) hx hb d_Mo_order_83 (by decide) ?_
          exact ih _ _ _ _ (by omega) (fun q g1 g2 => by rcases Nat.eq_or_lt_of_le g1 with e9 | e9; (rw [← e9]; exact heq); exact he q e9 g2) rfl hI (lv_sub hl [0, 2, 3, 4] rfl)
        · have hne : cs (128 * i + t) ≠ cs (128 * j + t) := fun h => c5 ((i32_sub_eq (by omega) (by omega)).mpr h)
          refine lv_iload hx hb d_Mo_order_69 (lv_at hl 0 rfl) ?_
          refine lv_if_ge (tgt := 78) hx hb d_Mo_order_71 (by decide) (fun c6 => ?_) (fun c6 => ?_)
          · have hge := (i32_sub_ge (by omega) (by omega)).mp c6
            have hlt : y j < y i := by rw [← (hc.2 i hi).2.2.2, ← (hc.2 j hj).2.2.2, ← hn9]; exact nvb_lt_of (i := t) (by omega) (fun q _ => hc.1 _) (show cs (128 * j + t) < cs (128 * i + t) by omega) (fun q g1 g2 => (he q g1 g2).symm)
            refine lv_iconst (v := nI 1) hx hb d_Mo_order_78 (by decide) ?_
            exact hw_iret hx hb hr hlocks hI d_Mo_order_79 ⟨by rw [cmpN_gt hlt]; rfl, rfl, rfl⟩
          · have hge : cs (128 * i + t) < cs (128 * j + t) := Nat.not_le.mp (fun h => c6 ((i32_sub_ge (by omega) (by omega)).mpr h))
            have hlt : y i < y j := by rw [← (hc.2 i hi).2.2.2, ← (hc.2 j hj).2.2.2, ← hn9]; exact nvb_lt_of (i := t) (by omega) (fun q _ => hc.1 _) hge (fun q g1 g2 => he q g1 g2)
            refine lv_iconst (v := -1) hx hb d_Mo_order_74 (by decide) ?_
            refine lv_goto (tgt := 79) hx hb d_Mo_order_75 (by decide) ?_
            exact hw_iret hx hb hr hlocks hI d_Mo_order_79 ⟨by rw [cmpN_lt hlt], rfl, rfl⟩
    refine lv_aload_n hx hb d_Mo_order_36 rfl (lv_at hl 0 rfl) ?_
    refine ob_get S hI hm.1 (C := R_Mo) (T := F_Mo) (N := 6) (ref := "WallFractionsModel") rfl i_Mo 2 (by decide) rfl w_773 rfl d_Mo_order_37 ?_
    refine lv_iload_n hx hb d_Mo_order_40 rfl (lv_at hl 1 rfl) ?_
    refine ia_ld S hI hm.2.2.1 (by decide) (by omega) d_Mo_order_41 ?_
    refine lv_iconst (v := nI 1) hx hb d_Mo_order_42 (by decide) ?_
    refine lv_isub hx hb d_Mo_order_43 ?_
    refine lv_istore_n (lv' := [(3, .int ((nI (ns i)) - (nI 1))), (0, .ref (mm)), (1, .int (nI i)), (2, .int (nI j))]) hx hb d_Mo_order_44 rfl hl (by decide) rfl (fun ls hl => ?_)
    exact loop (ns i) _ _ _ _ (Nat.le_refl _) (fun q g1 g2 => absurd g2 (by omega)) rfl hI (lv_sub hl [0, 3, 2, 1] rfl)
  · refine lv_aload_n hx hb d_Mo_order_15 rfl (lv_at hl 0 rfl) ?_
    refine ob_get S hI hm.1 (C := R_Mo) (T := F_Mo) (N := 6) (ref := "WallFractionsModel") rfl i_Mo 2 (by decide) rfl w_773 rfl d_Mo_order_16 ?_
    refine lv_iload_n hx hb d_Mo_order_19 rfl (lv_at hl 1 rfl) ?_
    refine ia_ld S hI hm.2.2.1 (by decide) (by omega) d_Mo_order_20 ?_
    refine lv_aload_n hx hb d_Mo_order_21 rfl (lv_at hl 0 rfl) ?_
    refine ob_get S hI hm.1 (C := R_Mo) (T := F_Mo) (N := 6) (ref := "WallFractionsModel") rfl i_Mo 2 (by decide) rfl w_773 rfl d_Mo_order_22 ?_
    refine lv_iload_n hx hb d_Mo_order_25 rfl (lv_at hl 2 rfl) ?_
    refine ia_ld S hI hm.2.2.1 (by decide) (by omega) d_Mo_order_26 ?_
    refine hw_icmp_ge (tgt := 34) hx hb d_Mo_order_27 (by decide) (by omega) (by omega) (fun c2 => ?_) (fun c2 => ?_)
    · have hlt : y j < y i := nOk_lt m1 (hc.2 j hj).2 (hc.2 i hi).2 (by omega)
      refine lv_iconst (v := nI 1) hx hb d_Mo_order_34 (by decide) ?_
      exact hw_iret hx hb hr hlocks hI d_Mo_order_35 ⟨by rw [cmpN_gt hlt]; rfl, rfl, rfl⟩
    · have hlt : y i < y j := nOk_lt m1 (hc.2 i hi).2 (hc.2 j hj).2 c2
      refine lv_iconst (v := -1) hx hb d_Mo_order_30 (by decide) ?_
      refine lv_goto (tgt := 35) hx hb d_Mo_order_31 (by decide) ?_
      exact hw_iret hx hb hr hlocks hI d_Mo_order_35 ⟨by rw [cmpN_lt hlt], rfl, rfl⟩
set_option maxHeartbeats 4000000 in
set_option maxRecDepth 100000 in
theorem c_Mo_plus (l : Launch) (D : va_G) (t0 : Nat) (L : List Nat) (f : Nat → va_E) (sz : Nat) (mm mc ml mg mw mr : Nat) (th : Int32) (y : Nat → Nat) (sn : Nat → Int32) (wt rr : Nat → Nat) (i j k : Nat) (hn : Mn D L f mm mc ml mg mw mr th y sn wt rr) (hi : i < 50) (hj : j < 50) (hk : k < 50) (hyj : y j < 10000 ^ 127) (hyk : y k < 10000 ^ 127) : Met l y_Mo_plus (Cond.code y_Mo_plus b_Mo_plus 8 none :: TT) ({ frames := 1, cells := 0, slots := 0, locals := 23 } : Room) (hw_Pc t0 [.ref (mm), .int (nI i), .int (nI j), .int (nI k)] D L f sz) (hw_Q D L sz (fun oc L' f' => oc = .returned none ∧ L = L' ∧ Mn D L f' mm mc ml mg mw mr th (va_up y i (y j + y k)) sn wt rr ∧ Fo mm mc ml mg mw mr f f')) 0 0 (hw_A L sz) := by
  refine Met.ofW (cc := b_Mo_plus) (maxL := 8) (ret := none) (by decide) rfl ?_
  intro p e s m args below meth c s₁ B hml hv
  obtain ⟨rfl, rfl, hI⟩ := hw_start hv
  clear hv
  have hx := B.exec
  have hb := B.bytes
  have hr := B.returns
  have hlocks := B.notSynchronized
  have hown : s.vm.findClass "WallFractionsModel" = some m.cls := findClass_of_methodNamed B.named
  have hT : ∀ w ∈ TT, w.before ([.ref (mm), .int (nI i), .int (nI j), .int (nI k)]).toArray s = true := fun w h => atoms_spec (ws := (Cond.code y_Mo_plus b_Mo_plus 8 none :: TT)) B.pre w (List.mem_cons_of_mem _ h)
  have S : CallFix p m c b_Mo_plus 8 s ([.ref (mm), .int (nI i), .int (nI j), .int (nI k)]).toArray TT "WallFractionsModel" := ⟨hx, hb, hml, hown, hT⟩
  have hl := lv_entry ([.ref (mm), .int (nI i), .int (nI j), .int (nI k)]) (n := 8) (Nat.le_of_ble_eq_true rfl)
  rw [lg_entry_eq]
  generalize (lg_sl ([.ref (mm), .int (nI i), .int (nI j), .int (nI k)]) ++ List.replicate (8 - (lg_sl ([.ref (mm), .int (nI i), .int (nI j), .int (nI k)])).length) Slot.unset).toArray = ls at hl ⊢
  have hl : lv_has ls 8 [(0, .ref (mm)), (1, .int (nI i)), (2, .int (nI j)), (3, .int (nI k))] := hl
  skip
  obtain ⟨cs, ns, hm, hc⟩ := hn
  have hF : Fo mm mc ml mg mw mr f f := Fo.refl
  have h1 : ns j ≤ 127 := ((hc.2 j hj).2.size_le m1).mpr hyj
  have h2 : ns k ≤ 127 := ((hc.2 k hk).2.size_le m1).mpr hyk
  obtain ⟨M, hM⟩ : ∃ M, M = max (ns j) (ns k) := ⟨_, rfl⟩
  have loop : ∀ (g t cr : Nat) (c1 : Nat → Nat) (f1 : Nat → va_E) (H : Heap) (locs : List Loc) (ls : Array Slot), t + g = M + 1 → cr ≤ 1 → (∀ q, c1 q < 10000) → (∀ q, q < 128 * i ∨ 128 * i + t ≤ q → c1 q = cs q) → nvb 10000 (nsh c1 (128 * i)) t + cr * 10000 ^ t = nvb 10000 (pcl cs ns j) t + nvb 10000 (pcl cs ns k) t → Mb D L f1 mm mc ml mg mw mr th c1 ns sn wt rr → Fo mm mc ml mg mw mr f f1 → hw_I D t0 (hw_A L s.heap.size) s L f1 H locs → lv_has ls 8 [(6, .int (nI t)), (5, .int (nI cr)), (4, .int (nI M)), (3, .int (nI k)), (2, .int (nI j)), (1, .int (nI i)), (0, .ref (mm))] → W p l e (headSpec (Cond.code y_Mo_plus b_Mo_plus 8 none :: TT) ({ frames := 1, cells := 0, slots := 0, locals := 23 } : Room)).room s m ([.ref (mm), .int (nI i), .int (nI j), .int (nI k)]).toArray below meth c H locs 0 0 (MQ below (hw_Q D L s.heap.size (fun oc L' f' => oc = .returned none ∧ L = L' ∧ Mn D L f' mm mc ml mg mw mr th (va_up y i (y j + y k)) sn wt rr ∧ Fo mm mc ml mg mw mr f f')) ([.ref (mm), .int (nI i), .int (nI j), .int (nI k)]).toArray s 0 0 (hw_A L s.heap.size)) (F0 m 38 ls []) := by
    intro g
    induction g with
    | zero =>
      intro t cr c1 f1 H locs ls htg hcr hB ho hS hm hF hI hl
      refine lv_iload hx hb d_Mo_plus_38 (lv_at hl 0 rfl) ?_
      refine lv_iload hx hb d_Mo_plus_40 (lv_at hl 2 rfl) ?_
      refine hw_icmp_gt (tgt := 98) hx hb d_Mo_plus_42 (by decide) (by omega) (by omega) (fun c7 => ?_) (fun c7 => ?_)
      · have ht : t = M + 1 := by omega
        subst ht
        rw [hc.nvb hj (by omega), hc.nvb hk (by omega)] at hS
        have g1 : y j < 10000 ^ M := Nat.lt_of_lt_of_le (hc.lt hj) (Nat.pow_le_pow_right mpos (by omega))
        have g2 : y k < 10000 ^ M := Nat.lt_of_lt_of_le (hc.lt hk) (Nat.pow_le_pow_right mpos (by omega))
        have hcr0 : cr = 0 := by rcases Nat.eq_zero_or_pos cr with q | q; exact q; rw [Nat.pow_succ] at hS; have q1 : cr = 1 := (by omega); rw [q1, Nat.one_mul] at hS; omega
        rw [hcr0, Nat.zero_mul, Nat.add_zero] at hS
        refine lv_aload_n hx hb d_Mo_plus_98 rfl (lv_at hl 6 rfl) ?_
        refine lv_iload_n hx hb d_Mo_plus_99 rfl (lv_at hl 5 rfl) ?_
        refine lv_iload hx hb d_Mo_plus_100 (lv_at hl 2 rfl) ?_
        refine lv_iconst (v := nI 1) hx hb d_Mo_plus_102 (by decide) ?_
        refine lv_iadd hx hb d_Mo_plus_103 ?_
        refine hw_ti (nI_add _ _) ?_
        refine hw_cV (As := [.int (nI i), .int (nI (M + 1))]) (rest := []) S hI m_Mo_trim w_834 (c_Mo_trim l D t0 L _ _ mm mc ml mg mw mr th c1 ns sn wt rr i (M + 1) hm hi (by omega) hB) hm.1 rfl hl.1 rfl rfl (Nat.le_of_ble_eq_true rfl) d_Mo_plus_104 ⟨Nat.le_of_ble_eq_true rfl, Nat.le_of_ble_eq_true rfl⟩ ⟨Nat.le_of_ble_eq_true rfl, Nat.le_of_ble_eq_true rfl⟩ (fun v9 L9 f8 H locs hp hI => ?_)
        refine W.cs (cells' := 0) (slots' := 0) rfl rfl ?_
        obtain ⟨hv9, rfl, n9, hn9, hk9, hm, hF9⟩ := hp
        cases hv9
        refine hw_stk (st' := []) rfl ?_
        rw [hS] at hk9
        exact hw_vret hx hb hr hlocks hI d_Mo_plus_107 ⟨rfl, rfl, ⟨_, _, hm, hc.up hi hB (fun q hq => ho q (by omega)) (by omega) hk9⟩, hF.trans hF9⟩
      · exact absurd c7 (by omega)
    | succ g ih =>
      intro t cr c1 f1 H locs ls htg hcr hB ho hS hm hF hI hl
      refine lv_iload hx hb d_Mo_plus_38 (lv_at hl 0 rfl) ?_
      refine lv_iload hx hb d_Mo_plus_40 (lv_at hl 2 rfl) ?_
      refine hw_icmp_gt (tgt := 98) hx hb d_Mo_plus_42 (by decide) (by omega) (by omega) (fun c9 => ?_) (fun c9 => ?_)
      · exact absurd c9 (by omega)
      · have p1 : pcl c1 ns j t = pcl cs ns j t := pcl_congr (ho _ (by omega))
        have p2 : pcl c1 ns k t = pcl cs ns k t := pcl_congr (ho _ (by omega))
        have l1 := pcl_lt (n := ns) hc.1 j t
        have l2 := pcl_lt (n := ns) hc.1 k t
        refine lv_aload_n hx hb d_Mo_plus_45 rfl (lv_at hl 6 rfl) ?_
        refine lv_iload_n hx hb d_Mo_plus_46 rfl (lv_at hl 4 rfl) ?_
        refine lv_iload hx hb d_Mo_plus_47 (lv_at hl 0 rfl) ?_
        refine hw_cV (As := [.int (nI j), .int (nI t)]) (rest := []) S hI m_Mo_cell w_822 (c_Mo_cell l D t0 L _ _ mm mc ml mg mw mr th c1 ns sn wt rr j t hm hj (by omega) (by omega)) hm.1 rfl hl.1 rfl rfl (Nat.le_of_ble_eq_true rfl) d_Mo_plus_49 ⟨Nat.le_of_ble_eq_true rfl, Nat.le_of_ble_eq_true rfl⟩ ⟨Nat.le_of_ble_eq_true rfl, Nat.le_of_ble_eq_true rfl⟩ (fun v9 L9 f10 H locs hp hI => ?_)
        refine W.cs (cells' := 0) (slots' := 0) rfl rfl ?_
        obtain ⟨hv9, rfl, rfl⟩ := hp
        cases hv9
        refine hw_stk (st' := [.int (nI (pcl c1 ns j t))]) rfl ?_
        refine hw_ti (show _ = nI (pcl cs ns j t) from by rw [p1]) ?_
        refine lv_aload_n hx hb d_Mo_plus_52 rfl (lv_at hl 6 rfl) ?_
        refine lv_iload_n hx hb d_Mo_plus_53 rfl (lv_at hl 3 rfl) ?_
        refine lv_iload hx hb d_Mo_plus_54 (lv_at hl 0 rfl) ?_
        refine hw_cV (As := [.int (nI k), .int (nI t)]) (rest := [.int (nI (pcl cs ns j t))]) S hI m_Mo_cell w_822 (c_Mo_cell l D t0 L _ _ mm mc ml mg mw mr th c1 ns sn wt rr k t hm hk (by omega) (by omega)) hm.1 rfl hl.1 rfl rfl (Nat.le_of_ble_eq_true rfl) d_Mo_plus_56 ⟨Nat.le_of_ble_eq_true rfl, Nat.le_of_ble_eq_true rfl⟩ ⟨Nat.le_of_ble_eq_true rfl, Nat.le_of_ble_eq_true rfl⟩ (fun v9 L9 f11 H locs hp hI => ?_)
        refine W.cs (cells' := 0) (slots' := 0) rfl rfl ?_
        obtain ⟨hv9, rfl, rfl⟩ := hp
        cases hv9
        refine hw_stk (st' := [.int (nI (pcl c1 ns k t)), .int (nI (pcl cs ns j t))]) rfl ?_
        refine hw_ti (show _ = nI (pcl cs ns k t) from by rw [p2]) ?_
        have hdm := Nat.div_add_mod (pcl cs ns j t + pcl cs ns k t + cr) 10000
        have hml9 := Nat.mod_lt (pcl cs ns j t + pcl cs ns k t + cr) mpos
        refine lv_iadd hx hb d_Mo_plus_59 ?_
        refine hw_ti (nI_add _ _) ?_
        refine lv_iload hx hb d_Mo_plus_60 (lv_at hl 1 rfl) ?_
        refine lv_iadd hx hb d_Mo_plus_62 ?_
        refine hw_ti (nI_add _ _) ?_
        refine lv_istore (lv' := [(7, .int (nI (((pcl cs ns j t) + (pcl cs ns k t)) + cr))), (6, .int (nI t)), (5, .int (nI cr)), (4, .int (nI M)), (3, .int (nI k)), (2, .int (nI j)), (1, .int (nI i)), (0, .ref (mm))]) hx hb d_Mo_plus_63 hl (by decide) rfl (fun ls hl => ?_)
        refine lv_aload_n hx hb d_Mo_plus_65 rfl (lv_at hl 7 rfl) ?_
        refine ob_get S hI hm.1 (C := R_Mo) (T := F_Mo) (N := 6) (ref := "WallFractionsModel") rfl i_Mo 1 (by decide) rfl w_772 rfl d_Mo_plus_66 ?_
        refine lv_sipush (v := nI 128) hx hb d_Mo_plus_69 (by decide) ?_
        refine lv_iload_n hx hb d_Mo_plus_72 rfl (lv_at hl 6 rfl) ?_
        refine lv_imul hx hb d_Mo_plus_73 ?_
        refine hw_ti (pk_mul _ _) ?_
        refine lv_iload hx hb d_Mo_plus_74 (lv_at hl 1 rfl) ?_
        refine lv_iadd hx hb d_Mo_plus_76 ?_
        refine hw_ti (nI_add _ _) ?_
        refine lv_iload hx hb d_Mo_plus_77 (lv_at hl 0 rfl) ?_
        refine lv_sipush (v := nI 10000) hx hb d_Mo_plus_79 (by decide) ?_
        refine lv_irem hx hb d_Mo_plus_82 (by decide) ?_
        refine hw_ti (pk_rem (by omega) (by omega) (by omega)) ?_
        refine ia_st S hI hm.2.1 (by decide) (by omega) d_Mo_plus_83 (fun f12 H locs hI hR9 hf12 => ?_)
        have hm := hm.umc hf12 hR9
        have hF := hF.umc hf12
        refine lv_iload hx hb d_Mo_plus_84 (lv_at hl 0 rfl) ?_
        refine lv_sipush (v := nI 10000) hx hb d_Mo_plus_86 (by decide) ?_
        refine lv_idiv hx hb d_Mo_plus_89 (by decide) ?_
        refine hw_ti (pk_div (by omega) (by omega) (by omega)) ?_
        refine lv_istore (lv' := [(5, .int (nI ((((pcl cs ns j t) + (pcl cs ns k t)) + cr) / 10000))), (7, .int (nI (((pcl cs ns j t) + (pcl cs ns k t)) + cr))), (6, .int (nI t)), (4, .int (nI M)), (3, .int (nI k)), (2, .int (nI j)), (1, .int (nI i)), (0, .ref (mm))]) hx hb d_Mo_plus_90 hl (by decide) rfl (fun ls hl => ?_)
        refine lv_iinc (v := nI (t + 1)) (lv' := [(6, .int (nI (t + 1))), (5, .int (nI ((((pcl cs ns j t) + (pcl cs ns k t)) + cr) / 10000))), (7, .int (nI (((pcl cs ns j t) + (pcl cs ns k t)) + cr))), (4, .int (nI M)), (3, .int (nI k)), (2, .int (nI j)), (1, .int (nI i)), (0, .ref (mm))]) hx hb d_Mo_plus_92 hl (k := 2) rfl (nI_1 _) (by decide) rfl (fun ls hl => ?_)
        refine lv_goto (tgt := 38) hx hb d_Mo_plus_95 (by decide) ?_
        exact ih (t + 1) ((pcl cs ns j t + pcl cs ns k t + cr) / 10000) _ _ _ _ _ (by omega) (by omega) (upB hB hml9) (fun q hq => by rw [hw_up_ne (by omega)]; exact ho q (by omega)) (by rw [nsh_upc, nvb_digit (w := pcl cs ns j t + pcl cs ns k t) hS (by omega), nvb_succ, nvb_succ]; grind) hm hF hI (lv_sub hl [0, 1, 3, 4, 5, 6, 7] rfl)
  refine lv_aload_n hx hb d_Mo_plus_0 rfl (lv_at hl 0 rfl) ?_
  refine ob_get S hI hm.1 (C := R_Mo) (T := F_Mo) (N := 6) (ref := "WallFractionsModel") rfl i_Mo 2 (by decide) rfl w_773 rfl d_Mo_plus_1 ?_
  refine lv_iload_n hx hb d_Mo_plus_4 rfl (lv_at hl 2 rfl) ?_
  refine ia_ld S hI hm.2.2.1 (by decide) (by omega) d_Mo_plus_5 ?_
  refine lv_aload_n hx hb d_Mo_plus_6 rfl (lv_at hl 0 rfl) ?_
  refine ob_get S hI hm.1 (C := R_Mo) (T := F_Mo) (N := 6) (ref := "WallFractionsModel") rfl i_Mo 2 (by decide) rfl w_773 rfl d_Mo_plus_7 ?_
  refine lv_iload_n hx hb d_Mo_plus_10 rfl (lv_at hl 3 rfl) ?_
  refine ia_ld S hI hm.2.2.1 (by decide) (by omega) d_Mo_plus_11 ?_
  refine hw_icmp_le (tgt := 24) hx hb d_Mo_plus_12 (by decide) (by omega) (by omega) (fun c13 => ?_) (fun c13 => ?_)
  · refine lv_aload_n hx hb d_Mo_plus_24 rfl (lv_at hl 0 rfl) ?_
    refine ob_get S hI hm.1 (C := R_Mo) (T := F_Mo) (N := 6) (ref := "WallFractionsModel") rfl i_Mo 2 (by decide) rfl w_773 rfl d_Mo_plus_25 ?_
    refine lv_iload_n hx hb d_Mo_plus_28 rfl (lv_at hl 3 rfl) ?_
    refine ia_ld S hI hm.2.2.1 (by decide) (by omega) d_Mo_plus_29 ?_
    refine hw_ti (show _ = nI M from by rw [hM, Nat.max_eq_right c13]) ?_
    refine lv_istore (lv' := [(4, .int (nI M)), (0, .ref (mm)), (1, .int (nI i)), (2, .int (nI j)), (3, .int (nI k))]) hx hb d_Mo_plus_30 hl (by decide) rfl (fun ls hl => ?_)
    refine lv_iconst (v := nI 0) hx hb d_Mo_plus_32 (by decide) ?_
    refine lv_istore (lv' := [(5, .int (nI 0)), (4, .int (nI M)), (0, .ref (mm)), (1, .int (nI i)), (2, .int (nI j)), (3, .int (nI k))]) hx hb d_Mo_plus_33 hl (by decide) rfl (fun ls hl => ?_)
    refine lv_iconst (v := nI 0) hx hb d_Mo_plus_35 (by decide) ?_
    refine lv_istore (lv' := [(6, .int (nI 0)), (5, .int (nI 0)), (4, .int (nI M)), (0, .ref (mm)), (1, .int (nI i)), (2, .int (nI j)), (3, .int (nI k))]) hx hb d_Mo_plus_36 hl (by decide) rfl (fun ls hl => ?_)
    exact loop (M + 1) 0 0 cs _ _ _ _ (by omega) (by omega) hc.1 (fun _ _ => rfl) (by simp [nvb_zero]) hm hF hI (lv_sub hl [0, 1, 2, 6, 5, 4, 3] rfl)
  · refine lv_aload_n hx hb d_Mo_plus_15 rfl (lv_at hl 0 rfl) ?_
    refine ob_get S hI hm.1 (C := R_Mo) (T := F_Mo) (N := 6) (ref := "WallFractionsModel") rfl i_Mo 2 (by decide) rfl w_773 rfl d_Mo_plus_16 ?_
    refine lv_iload_n hx hb d_Mo_plus_19 rfl (lv_at hl 2 rfl) ?_
    refine ia_ld S hI hm.2.2.1 (by decide) (by omega) d_Mo_plus_20 ?_
    refine lv_goto (tgt := 30) hx hb d_Mo_plus_21 (by decide) ?_
    refine hw_ti (show _ = nI M from by rw [hM, Nat.max_eq_left (by omega)]) ?_
    refine lv_istore (lv' := [(4, .int (nI M)), (0, .ref (mm)), (1, .int (nI i)), (2, .int (nI j)), (3, .int (nI k))]) hx hb d_Mo_plus_30 hl (by decide) rfl (fun ls hl => ?_)
    refine lv_iconst (v := nI 0) hx hb d_Mo_plus_32 (by decide) ?_
    refine lv_istore (lv' := [(5, .int (nI 0)), (4, .int (nI M)), (0, .ref (mm)), (1, .int (nI i)), (2, .int (nI j)), (3, .int (nI k))]) hx hb d_Mo_plus_33 hl (by decide) rfl (fun ls hl => ?_)
    refine lv_iconst (v := nI 0) hx hb d_Mo_plus_35 (by decide) ?_
    refine lv_istore (lv' := [(6, .int (nI 0)), (5, .int (nI 0)), (4, .int (nI M)), (0, .ref (mm)), (1, .int (nI i)), (2, .int (nI j)), (3, .int (nI k))]) hx hb d_Mo_plus_36 hl (by decide) rfl (fun ls hl => ?_)
    exact loop (M + 1) 0 0 cs _ _ _ _ (by omega) (by omega) hc.1 (fun _ _ => rfl) (by simp [nvb_zero]) hm hF hI (lv_sub hl [0, 1, 2, 6, 5, 4, 3] rfl)
set_option maxHeartbeats 4000000 in
set_option maxRecDepth 100000 in
theorem c_Mo_less (l : Launch) (D : va_G) (t0 : Nat) (L : List Nat) (f : Nat → va_E) (sz : Nat) (mm mc ml mg mw mr : Nat) (th : Int32) (y : Nat → Nat) (sn : Nat → Int32) (wt rr : Nat → Nat) (i j k : Nat) (hn : Mn D L f mm mc ml mg mw mr th y sn wt rr) (hi : i < 50) (hj : j < 50) (hk : k < 50) (hle : y k ≤ y j) : Met l y_Mo_less (Cond.code y_Mo_less b_Mo_less 8 none :: TT) ({ frames := 1, cells := 0, slots := 0, locals := 23 } : Room) (hw_Pc t0 [.ref (mm), .int (nI i), .int (nI j), .int (nI k)] D L f sz) (hw_Q D L sz (fun oc L' f' => oc = .returned none ∧ L = L' ∧ Mn D L f' mm mc ml mg mw mr th (va_up y i (y j - y k)) sn wt rr ∧ Fo mm mc ml mg mw mr f f')) 0 0 (hw_A L sz) := by
  refine Met.ofW (cc := b_Mo_less) (maxL := 8) (ret := none) (by decide) rfl ?_
  intro p e s m args below meth c s₁ B hml hv
  obtain ⟨rfl, rfl, hI⟩ := hw_start hv
  clear hv
  have hx := B.exec
  have hb := B.bytes
  have hr := B.returns
  have hlocks := B.notSynchronized
  have hown : s.vm.findClass "WallFractionsModel" = some m.cls := findClass_of_methodNamed B.named
  have hT : ∀ w ∈ TT, w.before ([.ref (mm), .int (nI i), .int (nI j), .int (nI k)]).toArray s = true := fun w h => atoms_spec (ws := (Cond.code y_Mo_less b_Mo_less 8 none :: TT)) B.pre w (List.mem_cons_of_mem _ h)
  have S : CallFix p m c b_Mo_less 8 s ([.ref (mm), .int (nI i), .int (nI j), .int (nI k)]).toArray TT "WallFractionsModel" := ⟨hx, hb, hml, hown, hT⟩
  have hl := lv_entry ([.ref (mm), .int (nI i), .int (nI j), .int (nI k)]) (n := 8) (Nat.le_of_ble_eq_true rfl)
  rw [lg_entry_eq]
  generalize (lg_sl ([.ref (mm), .int (nI i), .int (nI j), .int (nI k)]) ++ List.replicate (8 - (lg_sl ([.ref (mm), .int (nI i), .int (nI j), .int (nI k)])).length) Slot.unset).toArray = ls at hl ⊢
  have hl : lv_has ls 8 [(0, .ref (mm)), (1, .int (nI i)), (2, .int (nI j)), (3, .int (nI k))] := hl
  skip
  obtain ⟨cs, ns, hm, hc⟩ := hn
  have hF : Fo mm mc ml mg mw mr f f := Fo.refl
  have h1 := (hc.2 j hj).1
  have h2 : ns k ≤ ns j := ((hc.2 k hk).2.size_le m1).mpr (Nat.lt_of_le_of_lt hle (hc.lt hj))
  obtain ⟨M, hM⟩ : ∃ M, M = ns j := ⟨_, rfl⟩
  have loop : ∀ (g t bw : Nat) (c1 : Nat → Nat) (f1 : Nat → va_E) (H : Heap) (locs : List Loc) (ls : Array Slot), t + g = M → bw ≤ 1 → (∀ q, c1 q < 10000) → (∀ q, q < 128 * i ∨ 128 * i + t ≤ q → c1 q = cs q) → nvb 10000 (nsh c1 (128 * i)) t + nvb 10000 (pcl cs ns k) t = nvb 10000 (pcl cs ns j) t + bw * 10000 ^ t → Mb D L f1 mm mc ml mg mw mr th c1 ns sn wt rr → Fo mm mc ml mg mw mr f f1 → hw_I D t0 (hw_A L s.heap.size) s L f1 H locs → lv_has ls 8 [(6, .int (nI t)), (5, .int (nI bw)), (4, .int (nI M)), (3, .int (nI k)), (2, .int (nI j)), (1, .int (nI i)), (0, .ref (mm))] → W p l e (headSpec (Cond.code y_Mo_less b_Mo_less 8 none :: TT) ({ frames := 1, cells := 0, slots := 0, locals := 23 } : Room)).room s m ([.ref (mm), .int (nI i), .int (nI j), .int (nI k)]).toArray below meth c H locs 0 0 (MQ below (hw_Q D L s.heap.size (fun oc L' f' => oc = .returned none ∧ L = L' ∧ Mn D L f' mm mc ml mg mw mr th (va_up y i (y j - y k)) sn wt rr ∧ Fo mm mc ml mg mw mr f f')) ([.ref (mm), .int (nI i), .int (nI j), .int (nI k)]).toArray s 0 0 (hw_A L s.heap.size)) (F0 m 14 ls []) := by
    intro g
    induction g with
    | zero =>
      intro t bw c1 f1 H locs ls htg hbw hB ho hS hm hF hI hl
      refine lv_iload hx hb d_Mo_less_14 (lv_at hl 0 rfl) ?_
      refine lv_iload hx hb d_Mo_less_16 (lv_at hl 2 rfl) ?_
      refine hw_icmp_ge (tgt := 88) hx hb d_Mo_less_18 (by decide) (by omega) (by omega) (fun c14 => ?_) (fun c14 => ?_)
      · have ht : t = M := by omega
        subst ht
        rw [hc.nvb hj (by omega), hc.nvb hk (by omega)] at hS
        have g3 : nvb 10000 (nsh c1 (128 * i)) t < 10000 ^ t := nvb_lt (fun q _ => hB _)
        have hbw0 : bw = 0 := by rcases Nat.eq_zero_or_pos bw with q | q; exact q; have q1 : bw = 1 := (by omega); rw [q1, Nat.one_mul] at hS; omega
        rw [hbw0, Nat.zero_mul, Nat.add_zero] at hS
        refine lv_aload_n hx hb d_Mo_less_88 rfl (lv_at hl 6 rfl) ?_
        refine lv_iload_n hx hb d_Mo_less_89 rfl (lv_at hl 5 rfl) ?_
        refine lv_iload hx hb d_Mo_less_90 (lv_at hl 2 rfl) ?_
        refine hw_cV (As := [.int (nI i), .int (nI t)]) (rest := []) S hI m_Mo_trim w_834 (c_Mo_trim l D t0 L _ _ mm mc ml mg mw mr th c1 ns sn wt rr i t hm hi (by omega) hB) hm.1 rfl hl.1 rfl rfl (Nat.le_of_ble_eq_true rfl) d_Mo_less_92 ⟨Nat.le_of_ble_eq_true rfl, Nat.le_of_ble_eq_true rfl⟩ ⟨Nat.le_of_ble_eq_true rfl, Nat.le_of_ble_eq_true rfl⟩ (fun v9 L9 f15 H locs hp hI => ?_)
        refine W.cs (cells' := 0) (slots' := 0) rfl rfl ?_
        obtain ⟨hv9, rfl, n9, hn9, hk9, hm, hF9⟩ := hp
        cases hv9
        refine hw_stk (st' := []) rfl ?_
        rw [show nvb 10000 (nsh c1 (128 * i)) t = y j - y k by omega] at hk9
        exact hw_vret hx hb hr hlocks hI d_Mo_less_95 ⟨rfl, rfl, ⟨_, _, hm, hc.up hi hB (fun q hq => ho q (by omega)) (by omega) hk9⟩, hF.trans hF9⟩
      · exact absurd c14 (by omega)
    | succ g ih =>
      intro t bw c1 f1 H locs ls htg hbw hB ho hS hm hF hI hl
      refine lv_iload hx hb d_Mo_less_14 (lv_at hl 0 rfl) ?_
      refine lv_iload hx hb d_Mo_less_16 (lv_at hl 2 rfl) ?_
      refine hw_icmp_ge (tgt := 88) hx hb d_Mo_less_18 (by decide) (by omega) (by omega) (fun c16 => ?_) (fun c16 => ?_)
      · exact absurd c16 (by omega)
      · have p1 : pcl c1 ns j t = pcl cs ns j t := pcl_congr (ho _ (by omega))
        have p2 : pcl c1 ns k t = pcl cs ns k t := pcl_congr (ho _ (by omega))
        have l1 := pcl_lt (n := ns) hc.1 j t
        have l2 := pcl_lt (n := ns) hc.1 k t
        refine lv_aload_n hx hb d_Mo_less_21 rfl (lv_at hl 6 rfl) ?_
        refine lv_iload_n hx hb d_Mo_less_22 rfl (lv_at hl 4 rfl) ?_
        refine lv_iload hx hb d_Mo_less_23 (lv_at hl 0 rfl) ?_
        refine hw_cV (As := [.int (nI j), .int (nI t)]) (rest := []) S hI m_Mo_cell w_822 (c_Mo_cell l D t0 L _ _ mm mc ml mg mw mr th c1 ns sn wt rr j t hm hj (by omega) (by omega)) hm.1 rfl hl.1 rfl rfl (Nat.le_of_ble_eq_true rfl) d_Mo_less_25 ⟨Nat.le_of_ble_eq_true rfl, Nat.le_of_ble_eq_true rfl⟩ ⟨Nat.le_of_ble_eq_true rfl, Nat.le_of_ble_eq_true rfl⟩ (fun v9 L9 f17 H locs hp hI => ?_)
        refine W.cs (cells' := 0) (slots' := 0) rfl rfl ?_
        obtain ⟨hv9, rfl, rfl⟩ := hp
        cases hv9
        refine hw_stk (st' := [.int (nI (pcl c1 ns j t))]) rfl ?_
        refine hw_ti (show _ = nI (pcl cs ns j t) from by rw [p1]) ?_
        refine lv_aload_n hx hb d_Mo_less_28 rfl (lv_at hl 6 rfl) ?_
        refine lv_iload_n hx hb d_Mo_less_29 rfl (lv_at hl 3 rfl) ?_
        refine lv_iload hx hb d_Mo_less_30 (lv_at hl 0 rfl) ?_
        refine hw_cV (As := [.int (nI k), .int (nI t)]) (rest := [.int (nI (pcl cs ns j t))]) S hI m_Mo_cell w_822 (c_Mo_cell l D t0 L _ _ mm mc ml mg mw mr th c1 ns sn wt rr k t hm hk (by omega) (by omega)) hm.1 rfl hl.1 rfl rfl (Nat.le_of_ble_eq_true rfl) d_Mo_less_32 ⟨Nat.le_of_ble_eq_true rfl, Nat.le_of_ble_eq_true rfl⟩ ⟨Nat.le_of_ble_eq_true rfl, Nat.le_of_ble_eq_true rfl⟩ (fun v9 L9 f18 H locs hp hI => ?_)
        refine W.cs (cells' := 0) (slots' := 0) rfl rfl ?_
        obtain ⟨hv9, rfl, rfl⟩ := hp
        cases hv9
        refine hw_stk (st' := [.int (nI (pcl c1 ns k t)), .int (nI (pcl cs ns j t))]) rfl ?_
        refine hw_ti (show _ = nI (pcl cs ns k t) from by rw [p2]) ?_
        refine lv_isub hx hb d_Mo_less_35 ?_
        refine lv_iload hx hb d_Mo_less_36 (lv_at hl 1 rfl) ?_
        refine lv_isub hx hb d_Mo_less_38 ?_
        refine hw_ti (show _ = nI (pcl cs ns j t) - nI (pcl cs ns k t + bw) from i32_sub3) ?_
        refine lv_istore (lv' := [(7, .int (nI (pcl cs ns j t) - nI (pcl cs ns k t + bw))), (6, .int (nI t)), (5, .int (nI bw)), (4, .int (nI M)), (3, .int (nI k)), (2, .int (nI j)), (1, .int (nI i)), (0, .ref (mm))]) hx hb d_Mo_less_39 hl (by decide) rfl (fun ls hl => ?_)
        refine lv_iload hx hb d_Mo_less_41 (lv_at hl 0 rfl) ?_
        refine lv_if_ge (tgt := 50) hx hb d_Mo_less_43 (by decide) (fun c19 => ?_) (fun c19 => ?_)
        · have hge : pcl cs ns k t + bw ≤ pcl cs ns j t := (i32_sub_ge (by omega) (by omega)).mp c19
          refine lv_iconst (v := nI 0) hx hb d_Mo_less_50 (by decide) ?_
          refine lv_istore (lv' := [(5, .int (nI 0)), (7, .int (nI (pcl cs ns j t) - nI (pcl cs ns k t + bw))), (6, .int (nI t)), (4, .int (nI M)), (3, .int (nI k)), (2, .int (nI j)), (1, .int (nI i)), (0, .ref (mm))]) hx hb d_Mo_less_51 hl (by decide) rfl (fun ls hl => ?_)
          refine lv_aload_n hx hb d_Mo_less_53 rfl (lv_at hl 7 rfl) ?_
          refine ob_get S hI hm.1 (C := R_Mo) (T := F_Mo) (N := 6) (ref := "WallFractionsModel") rfl i_Mo 1 (by decide) rfl w_772 rfl d_Mo_less_54 ?_
          refine lv_sipush (v := nI 128) hx hb d_Mo_less_57 (by decide) ?_
          refine lv_iload_n hx hb d_Mo_less_60 rfl (lv_at hl 6 rfl) ?_
          refine lv_imul hx hb d_Mo_less_61 ?_
          refine hw_ti (pk_mul _ _) ?_
          refine lv_iload hx hb d_Mo_less_62 (lv_at hl 2 rfl) ?_
          refine lv_iadd hx hb d_Mo_less_64 ?_
          refine hw_ti (nI_add _ _) ?_
          refine lv_iload hx hb d_Mo_less_65 (lv_at hl 1 rfl) ?_
          refine lv_if_ge (tgt := 79) hx hb d_Mo_less_67 (by decide) (fun c20 => ?_) (fun c20 => ?_)
          · refine lv_iload hx hb d_Mo_less_79 (lv_at hl 1 rfl) ?_
            refine hw_ti (show _ = nI (pcl cs ns j t - (pcl cs ns k t + bw)) from pk_sub hge) ?_
            refine ia_st S hI hm.2.1 (by decide) (by omega) d_Mo_less_81 (fun f21 H locs hI hR9 hf21 => ?_)
            have hm := hm.umc hf21 hR9
            have hF := hF.umc hf21
            refine lv_iinc (v := nI (t + 1)) (lv' := [(6, .int (nI (t + 1))), (5, .int (nI 0)), (7, .int (nI (pcl cs ns j t) - nI (pcl cs ns k t + bw))), (4, .int (nI M)), (3, .int (nI k)), (2, .int (nI j)), (1, .int (nI i)), (0, .ref (mm))]) hx hb d_Mo_less_82 hl (k := 2) rfl (nI_1 _) (by decide) rfl (fun ls hl => ?_)
            refine lv_goto (tgt := 14) hx hb d_Mo_less_85 (by decide) ?_
            exact ih (t + 1) 0 _ _ _ _ _ (by omega) (by omega) (upB hB (by omega)) (fun q hq => by rw [hw_up_ne (by omega)]; exact ho q (by omega)) (by rw [nsh_upc, nvb_succ 10000 (pcl cs ns k) t, nvb_succ 10000 (pcl cs ns j) t]; exact nvb_borrow (x := pcl cs ns j t) (y := pcl cs ns k t) hS (by omega)) hm hF hI (lv_sub hl [0, 1, 3, 4, 5, 6, 7] rfl)
          · exact absurd c19 c20
        · have hge : pcl cs ns j t < pcl cs ns k t + bw := Nat.not_le.mp (fun h => c19 ((i32_sub_ge (by omega) (by omega)).mpr h))
          refine lv_iconst (v := nI 1) hx hb d_Mo_less_46 (by decide) ?_
          refine lv_goto (tgt := 51) hx hb d_Mo_less_47 (by decide) ?_
          refine lv_istore (lv' := [(5, .int (nI 1)), (7, .int (nI (pcl cs ns j t) - nI (pcl cs ns k t + bw))), (6, .int (nI t)), (4, .int (nI M)), (3, .int (nI k)), (2, .int (nI j)), (1, .int (nI i)), (0, .ref (mm))]) hx hb d_Mo_less_51 hl (by decide) rfl (fun ls hl => ?_)
          refine lv_aload_n hx hb d_Mo_less_53 rfl (lv_at hl 7 rfl) ?_
          refine ob_get S hI hm.1 (C := R_Mo) (T := F_Mo) (N := 6) (ref := "WallFractionsModel") rfl i_Mo 1 (by decide) rfl w_772 rfl d_Mo_less_54 ?_
          refine lv_sipush (v := nI 128) hx hb d_Mo_less_57 (by decide) ?_
          refine lv_iload_n hx hb d_Mo_less_60 rfl (lv_at hl 6 rfl) ?_
          refine lv_imul hx hb d_Mo_less_61 ?_
          refine hw_ti (pk_mul _ _) ?_
          refine lv_iload hx hb d_Mo_less_62 (lv_at hl 2 rfl) ?_
          refine lv_iadd hx hb d_Mo_less_64 ?_
          refine hw_ti (nI_add _ _) ?_
          refine lv_iload hx hb d_Mo_less_65 (lv_at hl 1 rfl) ?_
          refine lv_if_ge (tgt := 79) hx hb d_Mo_less_67 (by decide) (fun c22 => ?_) (fun c22 => ?_)
          · exact absurd c22 c19
          · refine lv_iload hx hb d_Mo_less_70 (lv_at hl 1 rfl) ?_
            refine lv_sipush (v := nI 10000) hx hb d_Mo_less_72 (by decide) ?_
            refine lv_iadd hx hb d_Mo_less_75 ?_
            refine lv_goto (tgt := 81) hx hb d_Mo_less_76 (by decide) ?_
            refine hw_ti (show _ = nI (pcl cs ns j t + 10000 - pcl cs ns k t - bw) from by rw [← i32_sub3]; exact i32_sub3w (by omega)) ?_
            refine ia_st S hI hm.2.1 (by decide) (by omega) d_Mo_less_81 (fun f23 H locs hI hR9 hf23 => ?_)
            have hm := hm.umc hf23 hR9
            have hF := hF.umc hf23
            refine lv_iinc (v := nI (t + 1)) (lv' := [(6, .int (nI (t + 1))), (5, .int (nI 1)), (7, .int (nI (pcl cs ns j t) - nI (pcl cs ns k t + bw))), (4, .int (nI M)), (3, .int (nI k)), (2, .int (nI j)), (1, .int (nI i)), (0, .ref (mm))]) hx hb d_Mo_less_82 hl (k := 2) rfl (nI_1 _) (by decide) rfl (fun ls hl => ?_)
            refine lv_goto (tgt := 14) hx hb d_Mo_less_85 (by decide) ?_
            exact ih (t + 1) 1 _ _ _ _ _ (by omega) (by omega) (upB hB (by omega)) (fun q hq => by rw [hw_up_ne (by omega)]; exact ho q (by omega)) (by rw [nsh_upc, nvb_succ 10000 (pcl cs ns k) t, nvb_succ 10000 (pcl cs ns j) t]; exact nvb_borrow (x := pcl cs ns j t) (y := pcl cs ns k t) hS (by omega)) hm hF hI (lv_sub hl [0, 1, 3, 4, 5, 6, 7] rfl)
  refine lv_aload_n hx hb d_Mo_less_0 rfl (lv_at hl 0 rfl) ?_
  refine ob_get S hI hm.1 (C := R_Mo) (T := F_Mo) (N := 6) (ref := "WallFractionsModel") rfl i_Mo 2 (by decide) rfl w_773 rfl d_Mo_less_1 ?_
  refine lv_iload_n hx hb d_Mo_less_4 rfl (lv_at hl 2 rfl) ?_
  refine ia_ld S hI hm.2.2.1 (by decide) (by omega) d_Mo_less_5 ?_
  refine hw_ti (show _ = nI M from by rw [hM]) ?_
  refine lv_istore (lv' := [(4, .int (nI M)), (0, .ref (mm)), (1, .int (nI i)), (2, .int (nI j)), (3, .int (nI k))]) hx hb d_Mo_less_6 hl (by decide) rfl (fun ls hl => ?_)
  refine lv_iconst (v := nI 0) hx hb d_Mo_less_8 (by decide) ?_
  refine lv_istore (lv' := [(5, .int (nI 0)), (4, .int (nI M)), (0, .ref (mm)), (1, .int (nI i)), (2, .int (nI j)), (3, .int (nI k))]) hx hb d_Mo_less_9 hl (by decide) rfl (fun ls hl => ?_)
  refine lv_iconst (v := nI 0) hx hb d_Mo_less_11 (by decide) ?_
  refine lv_istore (lv' := [(6, .int (nI 0)), (5, .int (nI 0)), (4, .int (nI M)), (0, .ref (mm)), (1, .int (nI i)), (2, .int (nI j)), (3, .int (nI k))]) hx hb d_Mo_less_12 hl (by decide) rfl (fun ls hl => ?_)
  exact loop M 0 0 cs _ _ _ _ (by omega) (by omega) hc.1 (fun _ _ => rfl) (by simp [nvb_zero]) hm hF hI (lv_sub hl [0, 1, 2, 6, 5, 4, 3] rfl)

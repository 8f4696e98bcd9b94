theorem pcl_in {c n : Nat → Nat} {i k : Nat} (h : k < n i) : pcl c n i k = nsh c (128 * i) k := by unfold pcl; rw [if_pos h]; rfl
theorem m3 : (10000 : Nat) ^ 3 = 1000000000000 := by decide
theorem up_self {α : Type} {v : Nat → α} {i : Nat} : va_up v i (v i) = v := by
  funext z
  by_cases e : z = i
  · subst e; rw [hw_up_eq]
  · rw [hw_up_ne e]
set_option maxHeartbeats 4000000 in
set_option maxRecDepth 100000 in
theorem c_Mo_product (l : Launch) (D : va_G) (t0 : Nat) (L : List Nat) (f : Nat → va_E) (sz : Nat) (mm mc ml mg mw mr : Nat) (th : Int32) (y : Nat → Nat) (sn : Nat → Int32) (wt rr : Nat → Nat) (i j k a1 a2 : Nat) (hn : Mn D L f mm mc ml mg mw mr th y sn wt rr) (hi : i < 50) (hj : j < 50) (hk : k < 50) (hij : i ≠ j) (hik : i ≠ k) (hyj : y j < 10000 ^ a1) (hyk : y k < 10000 ^ a2) (ha : a1 + a2 ≤ 128) : Met l y_Mo_product (Cond.code y_Mo_product b_Mo_product 9 none :: TT) ({ frames := 1, cells := 0, slots := 0, locals := 23 } : Room) (hw_Pc t0 [.ref (mm), .int (nI i), .int (nI j), .int (nI k)] D L f sz) (hw_Q D L sz (fun oc L' f' => oc = .returned none ∧ L = L' ∧ Mn D L f' mm mc ml mg mw mr th (va_up y i (y j * y k)) sn wt rr ∧ Fo mm mc ml mg mw mr f f')) 0 0 (hw_A L sz) := by
  refine Met.ofW (cc := b_Mo_product) (maxL := 9) (ret := none) (by decide) rfl ?_
  intro p e s m args below meth c s₁ B hml hv
  obtain ⟨rfl, rfl, hI⟩ := hw_start hv
  clear hv
  have hx := B.exec
  have hb := B.bytes
  have hr := B.returns
  have hlocks := B.notSynchronized
  have hown : s.vm.findClass "WallFractionsModel" = some m.cls := findClass_of_methodNamed B.named
  have hT : ∀ w ∈ TT, w.before ([.ref (mm), .int (nI i), .int (nI j), .int (nI k)]).toArray s = true := fun w h => atoms_spec (ws := (Cond.code y_Mo_product b_Mo_product 9 none :: TT)) B.pre w (List.mem_cons_of_mem _ h)
  have S : CallFix p m c b_Mo_product 9 s ([.ref (mm), .int (nI i), .int (nI j), .int (nI k)]).toArray TT "WallFractionsModel" := ⟨hx, hb, hml, hown, hT⟩
  have hl := lv_entry ([.ref (mm), .int (nI i), .int (nI j), .int (nI k)]) (n := 9) (Nat.le_of_ble_eq_true rfl)
  rw [lg_entry_eq]
  generalize (lg_sl ([.ref (mm), .int (nI i), .int (nI j), .int (nI k)]) ++ List.replicate (9 - (lg_sl ([.ref (mm), .int (nI i), .int (nI j), .int (nI k)])).length) Slot.unset).toArray = ls at hl ⊢
  have hl : lv_has ls 9 [(0, .ref (mm)), (1, .int (nI i)), (2, .int (nI j)), (3, .int (nI k))] := hl
  skip
  obtain ⟨cs, ns, hm, hc⟩ := hn
  have hF : Fo mm mc ml mg mw mr f f := Fo.refl
  have h1 : ns j ≤ a1 := ((hc.2 j hj).2.size_le m1).mpr hyj
  have h2 : ns k ≤ a2 := ((hc.2 k hk).2.size_le m1).mpr hyk
  obtain ⟨J, hJ⟩ : ∃ J, J = ns j := ⟨_, rfl⟩
  obtain ⟨K, hK⟩ : ∃ K, K = ns k := ⟨_, rfl⟩
  obtain ⟨M, hM⟩ : ∃ M, M = J + K := ⟨_, rfl⟩
  have outer : ∀ (g a : Nat) (c1 : Nat → Nat) (f1 : Nat → va_E) (H : Heap) (locs : List Loc) (ls : Array Slot), a + g = J → (∀ q, c1 q < 10000) → (∀ q, q < 128 * i ∨ 128 * i + 128 ≤ q → c1 q = cs q) → nvb 10000 (nsh c1 (128 * i)) (a + K) = nvb 10000 (nsh cs (128 * j)) a * nvb 10000 (nsh cs (128 * k)) K → (∀ q, a + K ≤ q → q < M → c1 (128 * i + q) = 0) → Mb D L f1 mm mc ml mg mw mr th c1 ns sn wt rr → Fo mm mc ml mg mw mr f f1 → hw_I D t0 (hw_A L s.heap.size) s L f1 H locs → lv_has ls 9 [(5, .int (nI a)), (4, .int (nI M)), (3, .int (nI k)), (2, .int (nI j)), (1, .int (nI i)), (0, .ref (mm))] → W p l e (headSpec (Cond.code y_Mo_product b_Mo_product 9 none :: TT) ({ frames := 1, cells := 0, slots := 0, locals := 23 } : Room)).room s m ([.ref (mm), .int (nI i), .int (nI j), .int (nI k)]).toArray below meth c H locs 0 0 (MQ below (hw_Q D L s.heap.size (fun oc L' f' => oc = .returned none ∧ L = L' ∧ Mn D L f' mm mc ml mg mw mr th (va_up y i (y j * y k)) sn wt rr ∧ Fo mm mc ml mg mw mr f f')) ([.ref (mm), .int (nI i), .int (nI j), .int (nI k)]).toArray s 0 0 (hw_A L s.heap.size)) (F0 m 48 ls []) := by
    intro g
    induction g with
    | zero =>
      intro a c1 f1 H locs ls hag hB ho hS hz hm hF hI hl
      refine lv_iload hx hb d_Mo_product_48 (lv_at hl 0 rfl) ?_
      refine lv_aload_n hx hb d_Mo_product_50 rfl (lv_at hl 5 rfl) ?_
      refine ob_get S hI hm.1 (C := R_Mo) (T := F_Mo) (N := 6) (ref := "WallFractionsModel") rfl i_Mo 2 (by decide) rfl w_773 rfl d_Mo_product_51 ?_
      refine lv_iload_n hx hb d_Mo_product_54 rfl (lv_at hl 3 rfl) ?_
      refine ia_ld S hI hm.2.2.1 (by decide) (by omega) d_Mo_product_55 ?_
      refine hw_ti (show _ = nI J from by rw [hJ]) ?_
      refine hw_icmp_ge (tgt := 177) hx hb d_Mo_product_56 (by decide) (by omega) (by omega) (fun c101 => ?_) (fun c101 => ?_)
      · have haJ : a = J := by omega
        have hval : nvb 10000 (nsh c1 (128 * i)) M = y j * y k := by rw [← (hc.2 j hj).2.2.2, ← (hc.2 k hk).2.2.2, ← hJ, ← hK, hM, ← haJ]; exact hS
        refine lv_aload_n hx hb d_Mo_product_177 rfl (lv_at hl 5 rfl) ?_
        refine lv_iload_n hx hb d_Mo_product_178 rfl (lv_at hl 4 rfl) ?_
        refine lv_iload hx hb d_Mo_product_179 (lv_at hl 1 rfl) ?_
        refine hw_cV (As := [.int (nI i), .int (nI M)]) (rest := []) S hI m_Mo_trim w_834 (c_Mo_trim l D t0 L _ _ mm mc ml mg mw mr th c1 ns sn wt rr i M hm hi (by omega) hB) hm.1 rfl hl.1 rfl rfl (Nat.le_of_ble_eq_true rfl) d_Mo_product_181 ⟨Nat.le_of_ble_eq_true rfl, Nat.le_of_ble_eq_true rfl⟩ ⟨Nat.le_of_ble_eq_true rfl, Nat.le_of_ble_eq_true rfl⟩ (fun v9 L9 f102 H locs hp hI => ?_)
        refine W.cs (cells' := 0) (slots' := 0) rfl rfl ?_
        obtain ⟨hv9, rfl, n9, hn9, hk9, hm, hF9⟩ := hp
        cases hv9
        refine hw_stk (st' := []) rfl ?_
        rw [hval] at hk9
        exact hw_vret hx hb hr hlocks hI d_Mo_product_184 ⟨rfl, rfl, ⟨_, _, hm, hc.up hi hB ho (by omega) hk9⟩, hF.trans hF9⟩
      · exact absurd c101 (by omega)
    | succ g ih =>
      intro a c1 f1 H locs ls hag hB ho hS hz hm hF hI hl
      refine lv_iload hx hb d_Mo_product_48 (lv_at hl 0 rfl) ?_
      refine lv_aload_n hx hb d_Mo_product_50 rfl (lv_at hl 5 rfl) ?_
      refine ob_get S hI hm.1 (C := R_Mo) (T := F_Mo) (N := 6) (ref := "WallFractionsModel") rfl i_Mo 2 (by decide) rfl w_773 rfl d_Mo_product_51 ?_
      refine lv_iload_n hx hb d_Mo_product_54 rfl (lv_at hl 3 rfl) ?_
      refine ia_ld S hI hm.2.2.1 (by decide) (by omega) d_Mo_product_55 ?_
      refine hw_ti (show _ = nI J from by rw [hJ]) ?_
      refine hw_icmp_ge (tgt := 177) hx hb d_Mo_product_56 (by decide) (by omega) (by omega) (fun c103 => ?_) (fun c103 => ?_)
      · exact absurd c103 (by omega)
      · refine lv_iconst (v := nI 0) hx hb d_Mo_product_59 (by decide) ?_
        refine lv_istore (lv' := [(6, .int (nI 0)), (5, .int (nI a)), (4, .int (nI M)), (3, .int (nI k)), (2, .int (nI j)), (1, .int (nI i)), (0, .ref (mm))]) hx hb d_Mo_product_60 hl (by decide) rfl (fun ls hl => ?_)
        refine lv_iconst (v := nI 0) hx hb d_Mo_product_62 (by decide) ?_
        refine lv_istore (lv' := [(7, .int (nI 0)), (6, .int (nI 0)), (5, .int (nI a)), (4, .int (nI M)), (3, .int (nI k)), (2, .int (nI j)), (1, .int (nI i)), (0, .ref (mm))]) hx hb d_Mo_product_63 hl (by decide) rfl (fun ls hl => ?_)
        have hfa := hc.1 (128 * j + a)
        have inner : ∀ (g2 t cr : Nat) (c2 : Nat → Nat) (f1 : Nat → va_E) (H : Heap) (locs : List Loc) (ls : Array Slot), t + g2 = K → cr < 10000 → (∀ q, c2 q < 10000) → (∀ q, q < 128 * i ∨ 128 * i + 128 ≤ q → c2 q = cs q) → (∀ q, q < a → c2 (128 * i + q) = c1 (128 * i + q)) → (∀ q, a + t ≤ q → c2 (128 * i + q) = c1 (128 * i + q)) → nvb 10000 (nsh (nsh c2 (128 * i)) a) t + cr * 10000 ^ t = nvb 10000 (nsh (nsh c1 (128 * i)) a) t + (nsh cs (128 * j)) a * nvb 10000 (nsh cs (128 * k)) t → Mb D L f1 mm mc ml mg mw mr th c2 ns sn wt rr → Fo mm mc ml mg mw mr f f1 → hw_I D t0 (hw_A L s.heap.size) s L f1 H locs → lv_has ls 9 [(7, .int (nI t)), (6, .int (nI cr)), (5, .int (nI a)), (4, .int (nI M)), (3, .int (nI k)), (2, .int (nI j)), (1, .int (nI i)), (0, .ref (mm))] → W p l e (headSpec (Cond.code y_Mo_product b_Mo_product 9 none :: TT) ({ frames := 1, cells := 0, slots := 0, locals := 23 } : Room)).room s m ([.ref (mm), .int (nI i), .int (nI j), .int (nI k)]).toArray below meth c H locs 0 0 (MQ below (hw_Q D L s.heap.size (fun oc L' f' => oc = .returned none ∧ L = L' ∧ Mn D L f' mm mc ml mg mw mr th (va_up y i (y j * y k)) sn wt rr ∧ Fo mm mc ml mg mw mr f f')) ([.ref (mm), .int (nI i), .int (nI j), .int (nI k)]).toArray s 0 0 (hw_A L s.heap.size)) (F0 m 65 ls []) := by
          intro g2
          induction g2 with
          | zero =>
            intro t cr c2 f1 H locs ls htg hcr hB2 ho2 hlo hhi hS2 hm hF hI hl
            refine lv_iload hx hb d_Mo_product_65 (lv_at hl 0 rfl) ?_
            refine lv_aload_n hx hb d_Mo_product_67 rfl (lv_at hl 7 rfl) ?_
            refine ob_get S hI hm.1 (C := R_Mo) (T := F_Mo) (N := 6) (ref := "WallFractionsModel") rfl i_Mo 2 (by decide) rfl w_773 rfl d_Mo_product_68 ?_
            refine lv_iload_n hx hb d_Mo_product_71 rfl (lv_at hl 4 rfl) ?_
            refine ia_ld S hI hm.2.2.1 (by decide) (by omega) d_Mo_product_72 ?_
            refine hw_ti (show _ = nI K from by rw [hK]) ?_
            refine hw_icmp_ge (tgt := 149) hx hb d_Mo_product_73 (by decide) (by omega) (by omega) (fun c104 => ?_) (fun c104 => ?_)
            · have htK : t = K := by omega
              refine lv_aload_n hx hb d_Mo_product_149 rfl (lv_at hl 7 rfl) ?_
              refine ob_get S hI hm.1 (C := R_Mo) (T := F_Mo) (N := 6) (ref := "WallFractionsModel") rfl i_Mo 1 (by decide) rfl w_772 rfl d_Mo_product_150 ?_
              refine lv_sipush (v := nI 128) hx hb d_Mo_product_153 (by decide) ?_
              refine lv_iload_n hx hb d_Mo_product_156 rfl (lv_at hl 6 rfl) ?_
              refine lv_imul hx hb d_Mo_product_157 ?_
              refine hw_ti (pk_mul _ _) ?_
              refine lv_iload hx hb d_Mo_product_158 (lv_at hl 2 rfl) ?_
              refine lv_iadd hx hb d_Mo_product_160 ?_
              refine hw_ti (nI_add _ _) ?_
              refine lv_aload_n hx hb d_Mo_product_161 rfl (lv_at hl 7 rfl) ?_
              refine ob_get S hI hm.1 (C := R_Mo) (T := F_Mo) (N := 6) (ref := "WallFractionsModel") rfl i_Mo 2 (by decide) rfl w_773 rfl d_Mo_product_162 ?_
              refine lv_iload_n hx hb d_Mo_product_165 rfl (lv_at hl 4 rfl) ?_
              refine ia_ld S hI hm.2.2.1 (by decide) (by omega) d_Mo_product_166 ?_
              refine hw_ti (show _ = nI K from by rw [hK]) ?_
              refine lv_iadd hx hb d_Mo_product_167 ?_
              refine hw_ti (nI_add _ _) ?_
              refine lv_iload hx hb d_Mo_product_168 (lv_at hl 1 rfl) ?_
              refine ia_st S hI hm.2.1 (by decide) (by omega) d_Mo_product_170 (fun f105 H locs hI hR9 hf105 => ?_)
              have hm := hm.umc hf105 hR9
              have hF := hF.umc hf105
              refine lv_iinc (v := nI (a + 1)) (lv' := [(5, .int (nI (a + 1))), (7, .int (nI t)), (6, .int (nI cr)), (4, .int (nI M)), (3, .int (nI k)), (2, .int (nI j)), (1, .int (nI i)), (0, .ref (mm))]) hx hb d_Mo_product_171 hl (k := 2) rfl (nI_1 _) (by decide) rfl (fun ls hl => ?_)
              refine lv_goto (tgt := 48) hx hb d_Mo_product_174 (by decide) ?_
              rw [htK] at hS2 hhi
              exact ih (a + 1) _ _ _ _ _ (by omega) (upB hB2 hcr) (fun q hq => by rw [hw_up_ne (by omega)]; exact ho2 q hq) (by rw [nsh_up3]; exact prod_step hlo hS2 hS) (fun q h1 h2 => by rw [hw_up_ne (by omega), hhi q (by omega)]; exact hz q (by omega) h2) hm hF hI (lv_sub hl [0, 3, 4, 5, 6, 7] rfl)
            · exact absurd c104 (by omega)
          | succ g2 ih2 =>
            intro t cr c2 f1 H locs ls htg hcr hB2 ho2 hlo hhi hS2 hm hF hI hl
            refine lv_iload hx hb d_Mo_product_65 (lv_at hl 0 rfl) ?_
            refine lv_aload_n hx hb d_Mo_product_67 rfl (lv_at hl 7 rfl) ?_
            refine ob_get S hI hm.1 (C := R_Mo) (T := F_Mo) (N := 6) (ref := "WallFractionsModel") rfl i_Mo 2 (by decide) rfl w_773 rfl d_Mo_product_68 ?_
            refine lv_iload_n hx hb d_Mo_product_71 rfl (lv_at hl 4 rfl) ?_
            refine ia_ld S hI hm.2.2.1 (by decide) (by omega) d_Mo_product_72 ?_
            refine hw_ti (show _ = nI K from by rw [hK]) ?_
            refine hw_icmp_ge (tgt := 149) hx hb d_Mo_product_73 (by decide) (by omega) (by omega) (fun c106 => ?_) (fun c106 => ?_)
            · exact absurd c106 (by omega)
            · have hkt := hc.1 (128 * k + t)
              have e1 : pcl c2 ns j a = cs (128 * j + a) := by unfold pcl; rw [if_pos (by omega)]; exact ho2 _ (by omega)
              have e2 : pcl c2 ns k t = cs (128 * k + t) := by unfold pcl; rw [if_pos (by omega)]; exact ho2 _ (by omega)
              have hpl := prod_lt hfa hkt (hB2 (128 * i + a + t)) hcr
              have hnn : 10000 * 10000 = 100000000 := rfl
              refine lv_aload_n hx hb d_Mo_product_76 rfl (lv_at hl 7 rfl) ?_
              refine ob_get S hI hm.1 (C := R_Mo) (T := F_Mo) (N := 6) (ref := "WallFractionsModel") rfl i_Mo 1 (by decide) rfl w_772 rfl d_Mo_product_77 ?_
              refine lv_sipush (v := nI 128) hx hb d_Mo_product_80 (by decide) ?_
              refine lv_iload_n hx hb d_Mo_product_83 rfl (lv_at hl 6 rfl) ?_
              refine lv_imul hx hb d_Mo_product_84 ?_
              refine hw_ti (pk_mul _ _) ?_
              refine lv_iload hx hb d_Mo_product_85 (lv_at hl 2 rfl) ?_
              refine lv_iadd hx hb d_Mo_product_87 ?_
              refine hw_ti (nI_add _ _) ?_
              refine lv_iload hx hb d_Mo_product_88 (lv_at hl 0 rfl) ?_
              refine lv_iadd hx hb d_Mo_product_90 ?_
              refine hw_ti (nI_add _ _) ?_
              refine ia_ld S hI hm.2.1 (by decide) (by omega) d_Mo_product_91 ?_
              refine lv_aload_n hx hb d_Mo_product_92 rfl (lv_at hl 7 rfl) ?_
              refine lv_iload_n hx hb d_Mo_product_93 rfl (lv_at hl 5 rfl) ?_
              refine lv_iload hx hb d_Mo_product_94 (lv_at hl 2 rfl) ?_
              refine hw_cV (As := [.int (nI j), .int (nI a)]) (rest := [.int (nI (c2 (((128 * i) + a) + t)))]) S hI m_Mo_cell w_822 (c_Mo_cell l D t0 L _ _ mm mc ml mg mw mr th c2 ns sn wt rr j a hm hj (by omega) (by omega)) hm.1 rfl hl.1 rfl rfl (Nat.le_of_ble_eq_true rfl) d_Mo_product_96 ⟨Nat.le_of_ble_eq_true rfl, Nat.le_of_ble_eq_true rfl⟩ ⟨Nat.le_of_ble_eq_true rfl, Nat.le_of_ble_eq_true rfl⟩ (fun v9 L9 f107 H locs hp hI => ?_)
              refine W.cs (cells' := 0) (slots' := 0) rfl rfl ?_
              obtain ⟨hv9, rfl, rfl⟩ := hp
              cases hv9
              refine hw_stk (st' := [.int (nI (pcl c2 ns j a)), .int (nI (c2 (((128 * i) + a) + t)))]) rfl ?_
              refine hw_ti (show _ = nI (cs (128 * j + a)) from by rw [e1]) ?_
              refine lv_aload_n hx hb d_Mo_product_99 rfl (lv_at hl 7 rfl) ?_
              refine lv_iload_n hx hb d_Mo_product_100 rfl (lv_at hl 4 rfl) ?_
              refine lv_iload hx hb d_Mo_product_101 (lv_at hl 0 rfl) ?_
              refine hw_cV (As := [.int (nI k), .int (nI t)]) (rest := [.int (nI (cs (128 * j + a))), .int (nI (c2 (((128 * i) + a) + t)))]) S hI m_Mo_cell w_822 (c_Mo_cell l D t0 L _ _ mm mc ml mg mw mr th c2 ns sn wt rr k t hm hk (by omega) (by omega)) hm.1 rfl hl.1 rfl rfl (Nat.le_of_ble_eq_true rfl) d_Mo_product_103 ⟨Nat.le_of_ble_eq_true rfl, Nat.le_of_ble_eq_true rfl⟩ ⟨Nat.le_of_ble_eq_true rfl, Nat.le_of_ble_eq_true rfl⟩ (fun v9 L9 f108 H locs hp hI => ?_)
              refine W.cs (cells' := 0) (slots' := 0) rfl rfl ?_
              obtain ⟨hv9, rfl, rfl⟩ := hp
              cases hv9
              refine hw_stk (st' := [.int (nI (pcl c2 ns k t)), .int (nI (cs (128 * j + a))), .int (nI (c2 (((128 * i) + a) + t)))]) rfl ?_
              refine hw_ti (show _ = nI (cs (128 * k + t)) from by rw [e2]) ?_
              have hq : (c2 (128 * i + a + t) + cs (128 * j + a) * cs (128 * k + t) + cr) / 10000 < 10000 := (Nat.div_lt_iff_lt_mul mpos).mpr hpl
              have hdm := Nat.div_add_mod (c2 (128 * i + a + t) + cs (128 * j + a) * cs (128 * k + t) + cr) 10000
              have hml9 := Nat.mod_lt (c2 (128 * i + a + t) + cs (128 * j + a) * cs (128 * k + t) + cr) mpos
              refine lv_imul hx hb d_Mo_product_106 ?_
              refine hw_ti (pk_mul _ _) ?_
              refine lv_iadd hx hb d_Mo_product_107 ?_
              refine hw_ti (nI_add _ _) ?_
              refine lv_iload hx hb d_Mo_product_108 (lv_at hl 1 rfl) ?_
              refine lv_iadd hx hb d_Mo_product_110 ?_
              refine hw_ti (nI_add _ _) ?_
              refine lv_istore (lv' := [(8, .int (nI (((c2 (((128 * i) + a) + t)) + ((cs (128 * j + a)) * (cs (128 * k + t)))) + cr))), (7, .int (nI t)), (6, .int (nI cr)), (5, .int (nI a)), (4, .int (nI M)), (3, .int (nI k)), (2, .int (nI j)), (1, .int (nI i)), (0, .ref (mm))]) hx hb d_Mo_product_111 hl (by decide) rfl (fun ls hl => ?_)
              refine lv_aload_n hx hb d_Mo_product_113 rfl (lv_at hl 8 rfl) ?_
              refine ob_get S hI hm.1 (C := R_Mo) (T := F_Mo) (N := 6) (ref := "WallFractionsModel") rfl i_Mo 1 (by decide) rfl w_772 rfl d_Mo_product_114 ?_
              refine lv_sipush (v := nI 128) hx hb d_Mo_product_117 (by decide) ?_
              refine lv_iload_n hx hb d_Mo_product_120 rfl (lv_at hl 7 rfl) ?_
              refine lv_imul hx hb d_Mo_product_121 ?_
              refine hw_ti (pk_mul _ _) ?_
              refine lv_iload hx hb d_Mo_product_122 (lv_at hl 3 rfl) ?_
              refine lv_iadd hx hb d_Mo_product_124 ?_
              refine hw_ti (nI_add _ _) ?_
              refine lv_iload hx hb d_Mo_product_125 (lv_at hl 1 rfl) ?_
              refine lv_iadd hx hb d_Mo_product_127 ?_
              refine hw_ti (nI_add _ _) ?_
              refine lv_iload hx hb d_Mo_product_128 (lv_at hl 0 rfl) ?_
              refine lv_sipush (v := nI 10000) hx hb d_Mo_product_130 (by decide) ?_
              refine lv_irem hx hb d_Mo_product_133 (by decide) ?_
              refine hw_ti (pk_rem (by omega) (by omega) (by omega)) ?_
              refine ia_st S hI hm.2.1 (by decide) (by omega) d_Mo_product_134 (fun f109 H locs hI hR9 hf109 => ?_)
              have hm := hm.umc hf109 hR9
              have hF := hF.umc hf109
              refine lv_iload hx hb d_Mo_product_135 (lv_at hl 0 rfl) ?_
              refine lv_sipush (v := nI 10000) hx hb d_Mo_product_137 (by decide) ?_
              refine lv_idiv hx hb d_Mo_product_140 (by decide) ?_
              refine hw_ti (pk_div (by omega) (by omega) (by omega)) ?_
              refine lv_istore (lv' := [(6, .int (nI ((((c2 (((128 * i) + a) + t)) + ((cs (128 * j + a)) * (cs (128 * k + t)))) + cr) / 10000))), (8, .int (nI (((c2 (((128 * i) + a) + t)) + ((cs (128 * j + a)) * (cs (128 * k + t)))) + cr))), (7, .int (nI t)), (5, .int (nI a)), (4, .int (nI M)), (3, .int (nI k)), (2, .int (nI j)), (1, .int (nI i)), (0, .ref (mm))]) hx hb d_Mo_product_141 hl (by decide) rfl (fun ls hl => ?_)
              refine lv_iinc (v := nI (t + 1)) (lv' := [(7, .int (nI (t + 1))), (6, .int (nI ((((c2 (((128 * i) + a) + t)) + ((cs (128 * j + a)) * (cs (128 * k + t)))) + cr) / 10000))), (8, .int (nI (((c2 (((128 * i) + a) + t)) + ((cs (128 * j + a)) * (cs (128 * k + t)))) + cr))), (5, .int (nI a)), (4, .int (nI M)), (3, .int (nI k)), (2, .int (nI j)), (1, .int (nI i)), (0, .ref (mm))]) hx hb d_Mo_product_143 hl (k := 2) rfl (nI_1 _) (by decide) rfl (fun ls hl => ?_)
              refine lv_goto (tgt := 65) hx hb d_Mo_product_146 (by decide) ?_
              have hat : c2 (128 * i + a + t) = c1 (128 * i + a + t) := by rw [Nat.add_assoc]; exact hhi (a + t) (Nat.le_refl _)
              exact ih2 (t + 1) ((c2 (128 * i + a + t) + cs (128 * j + a) * cs (128 * k + t) + cr) / 10000) _ _ _ _ _ (by omega) hq (upB hB2 hml9) (fun q hq => by rw [hw_up_ne (by omega)]; exact ho2 q hq) (fun q hq => by rw [hw_up_ne (by omega)]; exact hlo q hq) (fun q hq => by rw [hw_up_ne (by omega)]; exact hhi q (by omega)) (by rw [nsh_up3, nsh_up, nvb_digit (w := c2 (128 * i + a + t) + cs (128 * j + a) * cs (128 * k + t)) hS2 (by omega), nvb_succ, nvb_succ, hat]; unfold nsh; rw [Nat.add_assoc (128 * i) a t]; grind) hm hF hI (lv_sub hl [0, 1, 3, 4, 5, 6, 7, 8] rfl)
        exact inner K 0 0 c1 _ _ _ _ (by omega) mpos hB ho (fun _ _ => rfl) (fun _ _ => rfl) (by simp [nvb_zero]) hm hF hI hl
  have loop : ∀ (g t : Nat) (c1 : Nat → Nat) (f1 : Nat → va_E) (H : Heap) (locs : List Loc) (ls : Array Slot), t + g = M → (∀ q, c1 q < 10000) → (∀ q, q < 128 * i ∨ 128 * i + 128 ≤ q → c1 q = cs q) → (∀ q, q < t → c1 (128 * i + q) = 0) → Mb D L f1 mm mc ml mg mw mr th c1 ns sn wt rr → Fo mm mc ml mg mw mr f f1 → hw_I D t0 (hw_A L s.heap.size) s L f1 H locs → lv_has ls 9 [(5, .int (nI t)), (4, .int (nI M)), (3, .int (nI k)), (2, .int (nI j)), (1, .int (nI i)), (0, .ref (mm))] → W p l e (headSpec (Cond.code y_Mo_product b_Mo_product 9 none :: TT) ({ frames := 1, cells := 0, slots := 0, locals := 23 } : Room)).room s m ([.ref (mm), .int (nI i), .int (nI j), .int (nI k)]).toArray below meth c H locs 0 0 (MQ below (hw_Q D L s.heap.size (fun oc L' f' => oc = .returned none ∧ L = L' ∧ Mn D L f' mm mc ml mg mw mr th (va_up y i (y j * y k)) sn wt rr ∧ Fo mm mc ml mg mw mr f f')) ([.ref (mm), .int (nI i), .int (nI j), .int (nI k)]).toArray s 0 0 (hw_A L s.heap.size)) (F0 m 18 ls []) := by
    intro g
    induction g with
    | zero =>
      intro t c1 f1 H locs ls htg hB ho hz hm hF hI hl
      refine lv_iload hx hb d_Mo_product_18 (lv_at hl 0 rfl) ?_
      refine lv_iload hx hb d_Mo_product_20 (lv_at hl 1 rfl) ?_
      refine hw_icmp_ge (tgt := 45) hx hb d_Mo_product_22 (by decide) (by omega) (by omega) (fun c110 => ?_) (fun c110 => ?_)
      · refine lv_iconst (v := nI 0) hx hb d_Mo_product_45 (by decide) ?_
        refine lv_istore (lv' := [(5, .int (nI 0)), (4, .int (nI M)), (3, .int (nI k)), (2, .int (nI j)), (1, .int (nI i)), (0, .ref (mm))]) hx hb d_Mo_product_46 hl (by decide) rfl (fun ls hl => ?_)
        exact outer J 0 c1 _ _ _ _ (by omega) hB ho (by rw [nvb_zero, Nat.zero_mul, nvb_zeros (b := 10000) (f := nsh c1 (128 * i)) (n := 0) (Nat.zero_le _) (fun q _ hq => hz q (by omega)), nvb_zero]) (fun q _ hq => hz q (by omega)) hm hF hI hl
      · exact absurd c110 (by omega)
    | succ g ih =>
      intro t c1 f1 H locs ls htg hB ho hz hm hF hI hl
      refine lv_iload hx hb d_Mo_product_18 (lv_at hl 0 rfl) ?_
      refine lv_iload hx hb d_Mo_product_20 (lv_at hl 1 rfl) ?_
      refine hw_icmp_ge (tgt := 45) hx hb d_Mo_product_22 (by decide) (by omega) (by omega) (fun c111 => ?_) (fun c111 => ?_)
      · exact absurd c111 (by omega)
      · refine lv_aload_n hx hb d_Mo_product_25 rfl (lv_at hl 5 rfl) ?_
        refine ob_get S hI hm.1 (C := R_Mo) (T := F_Mo) (N := 6) (ref := "WallFractionsModel") rfl i_Mo 1 (by decide) rfl w_772 rfl d_Mo_product_26 ?_
        refine lv_sipush (v := nI 128) hx hb d_Mo_product_29 (by decide) ?_
        refine lv_iload_n hx hb d_Mo_product_32 rfl (lv_at hl 4 rfl) ?_
        refine lv_imul hx hb d_Mo_product_33 ?_
        refine hw_ti (pk_mul _ _) ?_
        refine lv_iload hx hb d_Mo_product_34 (lv_at hl 0 rfl) ?_
        refine lv_iadd hx hb d_Mo_product_36 ?_
        refine hw_ti (nI_add _ _) ?_
        refine lv_iconst (v := nI 0) hx hb d_Mo_product_37 (by decide) ?_
        refine ia_st S hI hm.2.1 (by decide) (by omega) d_Mo_product_38 (fun f112 H locs hI hR9 hf112 => ?_)
        have hm := hm.umc hf112 hR9
        have hF := hF.umc hf112
        refine lv_iinc (v := nI (t + 1)) (lv' := [(5, .int (nI (t + 1))), (4, .int (nI M)), (3, .int (nI k)), (2, .int (nI j)), (1, .int (nI i)), (0, .ref (mm))]) hx hb d_Mo_product_39 hl (k := 0) rfl (nI_1 _) (by decide) rfl (fun ls hl => ?_)
        refine lv_goto (tgt := 18) hx hb d_Mo_product_42 (by decide) ?_
        exact ih (t + 1) _ _ _ _ _ (by omega) (upB hB mpos) (fun q hq => by rw [hw_up_ne (by omega)]; exact ho q hq) (fun q hq => by by_cases e9 : q = t; (subst e9; rw [hw_up_eq]); (rw [hw_up_ne (by omega)]; exact hz q (by omega))) hm hF hI hl
  refine lv_aload_n hx hb d_Mo_product_0 rfl (lv_at hl 0 rfl) ?_
  refine ob_get S hI hm.1 (C := R_Mo) (T := F_Mo) (N := 6) (ref := "WallFractionsModel") rfl i_Mo 2 (by decide) rfl w_773 rfl d_Mo_product_1 ?_
  refine lv_iload_n hx hb d_Mo_product_4 rfl (lv_at hl 2 rfl) ?_
  refine ia_ld S hI hm.2.2.1 (by decide) (by omega) d_Mo_product_5 ?_
  refine hw_ti (show _ = nI J from by rw [hJ]) ?_
  refine lv_aload_n hx hb d_Mo_product_6 rfl (lv_at hl 0 rfl) ?_
  refine ob_get S hI hm.1 (C := R_Mo) (T := F_Mo) (N := 6) (ref := "WallFractionsModel") rfl i_Mo 2 (by decide) rfl w_773 rfl d_Mo_product_7 ?_
  refine lv_iload_n hx hb d_Mo_product_10 rfl (lv_at hl 3 rfl) ?_
  refine ia_ld S hI hm.2.2.1 (by decide) (by omega) d_Mo_product_11 ?_
  refine hw_ti (show _ = nI K from by rw [hK]) ?_
  refine lv_iadd hx hb d_Mo_product_12 ?_
  refine hw_ti (nI_add _ _) ?_
  refine hw_ti (show _ = nI M from by rw [hM]) ?_
  refine lv_istore (lv' := [(4, .int (nI M)), (0, .ref (mm)), (1, .int (nI i)), (2, .int (nI j)), (3, .int (nI k))]) hx hb d_Mo_product_13 hl (by decide) rfl (fun ls hl => ?_)
  refine lv_iconst (v := nI 0) hx hb d_Mo_product_15 (by decide) ?_
  refine lv_istore (lv' := [(5, .int (nI 0)), (4, .int (nI M)), (0, .ref (mm)), (1, .int (nI i)), (2, .int (nI j)), (3, .int (nI k))]) hx hb d_Mo_product_16 hl (by decide) rfl (fun ls hl => ?_)
  exact loop M 0 cs _ _ _ _ (by omega) hc.1 (fun _ _ => rfl) (fun q h => absurd h (by omega)) hm hF hI (lv_sub hl [0, 1, 5, 4, 3, 2] rfl)
set_option maxHeartbeats 4000000 in
set_option maxRecDepth 100000 in
theorem c_Mo_times (l : Launch) (D : va_G) (t0 : Nat) (L : List Nat) (f : Nat → va_E) (sz : Nat) (mm mc ml mg mw mr : Nat) (th : Int32) (y : Nat → Nat) (sn : Nat → Int32) (wt rr : Nat → Nat) (i F E : Nat) (hn : Mn D L f mm mc ml mg mw mr th y sn wt rr) (hi : i < 50) (hy : y i < 10000 ^ 125) (hFB : F ≤ 1000000000) (hEB : E ≤ 1000000000) : Met l y_Mo_times (Cond.code y_Mo_times b_Mo_times 12 none :: TT) ({ frames := 1, cells := 0, slots := 0, locals := 23 } : Room) (hw_Pc t0 [.ref (mm), .int (nI i), .long (lN F), .long (lN E)] D L f sz) (hw_Q D L sz (fun oc L' f' => oc = .returned none ∧ L = L' ∧ Mn D L f' mm mc ml mg mw mr th (va_up y i (y i * F + E)) sn wt rr ∧ Fo mm mc ml mg mw mr f f')) 0 0 (hw_A L sz) := by
  refine Met.ofW (cc := b_Mo_times) (maxL := 12) (ret := none) (by decide) rfl ?_
  intro p e s m args below meth c s₁ B hml hv
  obtain ⟨rfl, rfl, hI⟩ := hw_start hv
  clear hv
  have hx := B.exec
  have hb := B.bytes
  have hr := B.returns
  have hlocks := B.notSynchronized
  have hown : s.vm.findClass "WallFractionsModel" = some m.cls := findClass_of_methodNamed B.named
  have hT : ∀ w ∈ TT, w.before ([.ref (mm), .int (nI i), .long (lN F), .long (lN E)]).toArray s = true := fun w h => atoms_spec (ws := (Cond.code y_Mo_times b_Mo_times 12 none :: TT)) B.pre w (List.mem_cons_of_mem _ h)
  have S : CallFix p m c b_Mo_times 12 s ([.ref (mm), .int (nI i), .long (lN F), .long (lN E)]).toArray TT "WallFractionsModel" := ⟨hx, hb, hml, hown, hT⟩
  have hl := lv_entry ([.ref (mm), .int (nI i), .long (lN F), .long (lN E)]) (n := 12) (Nat.le_of_ble_eq_true rfl)
  rw [lg_entry_eq]
  generalize (lg_sl ([.ref (mm), .int (nI i), .long (lN F), .long (lN E)]) ++ List.replicate (12 - (lg_sl ([.ref (mm), .int (nI i), .long (lN F), .long (lN E)])).length) Slot.unset).toArray = ls at hl ⊢
  have hl : lv_has ls 12 [(0, .ref (mm)), (1, .int (nI i)), (2, .long (lN F)), (4, .long (lN E))] := hl
  skip
  obtain ⟨cs, ns, hm, hc⟩ := hn
  have hF : Fo mm mc ml mg mw mr f f := Fo.refl
  have h1 : ns i ≤ 125 := ((hc.2 i hi).2.size_le m1).mpr hy
  obtain ⟨M, hM⟩ : ∃ M, M = ns i := ⟨_, rfl⟩
  have hval : nvb 10000 (nsh cs (128 * i)) M = y i := by rw [hM]; exact (hc.2 i hi).2.2.2
  have tail : ∀ (g k cr : Nat) (c1 : Nat → Nat) (f1 : Nat → va_E) (H : Heap) (locs : List Loc) (ls : Array Slot), k + g = M + 3 → cr < 10000 ^ g → cr ≤ 1000000000 → (∀ q, c1 q < 10000) → (∀ q, q < 128 * i ∨ 128 * i + 128 ≤ q → c1 q = cs q) → nvb 10000 (nsh c1 (128 * i)) k + cr * 10000 ^ k = y i * F + E → Mb D L f1 mm mc ml mg mw mr th c1 ns sn wt rr → Fo mm mc ml mg mw mr f f1 → hw_I D t0 (hw_A L s.heap.size) s L f1 H locs → lv_has ls 12 [(7, .long (lN cr)), (6, .int (nI k)), (1, .int (nI i)), (0, .ref (mm))] → W p l e (headSpec (Cond.code y_Mo_times b_Mo_times 12 none :: TT) ({ frames := 1, cells := 0, slots := 0, locals := 23 } : Room)).room s m ([.ref (mm), .int (nI i), .long (lN F), .long (lN E)]).toArray below meth c H locs 0 0 (MQ below (hw_Q D L s.heap.size (fun oc L' f' => oc = .returned none ∧ L = L' ∧ Mn D L f' mm mc ml mg mw mr th (va_up y i (y i * F + E)) sn wt rr ∧ Fo mm mc ml mg mw mr f f')) ([.ref (mm), .int (nI i), .long (lN F), .long (lN E)]).toArray s 0 0 (hw_A L s.heap.size)) (F0 m 77 ls []) := by
    intro g
    induction g with
    | zero =>
      intro k cr c1 f1 H locs ls hkg hlt hcr hB ho hS hm hF hI hl
      refine lv_lload hx hb d_Mo_times_77 (lv_at hl 0 rfl) ?_
      refine lv_lconst (v := lN 0) hx hb d_Mo_times_79 rfl ?_
      refine hw_l_le (tgt := 118) hx hb d_Mo_times_80 d_Mo_times_81 (by decide) (fun c113 => ?_) (fun c113 => ?_)
      · have hl0 : cr = 0 := Nat.le_zero.mp ((pk_lLE (by omega) (by decide)).mp c113)
        rw [hl0, Nat.zero_mul, Nat.add_zero] at hS
        refine lv_aload_n hx hb d_Mo_times_118 rfl (lv_at hl 3 rfl) ?_
        refine lv_iload_n hx hb d_Mo_times_119 rfl (lv_at hl 2 rfl) ?_
        refine lv_iload hx hb d_Mo_times_120 (lv_at hl 1 rfl) ?_
        refine hw_cV (As := [.int (nI i), .int (nI k)]) (rest := []) S hI m_Mo_trim w_834 (c_Mo_trim l D t0 L _ _ mm mc ml mg mw mr th c1 ns sn wt rr i k hm hi (by omega) hB) hm.1 rfl hl.1 rfl rfl (Nat.le_of_ble_eq_true rfl) d_Mo_times_122 ⟨Nat.le_of_ble_eq_true rfl, Nat.le_of_ble_eq_true rfl⟩ ⟨Nat.le_of_ble_eq_true rfl, Nat.le_of_ble_eq_true rfl⟩ (fun v9 L9 f114 H locs hp hI => ?_)
        refine W.cs (cells' := 0) (slots' := 0) rfl rfl ?_
        obtain ⟨hv9, rfl, n9, hn9, hk9, hm, hF9⟩ := hp
        cases hv9
        refine hw_stk (st' := []) rfl ?_
        rw [hS] at hk9
        exact hw_vret hx hb hr hlocks hI d_Mo_times_125 ⟨rfl, rfl, ⟨_, _, hm, hc.up hi hB ho (by omega) hk9⟩, hF.trans hF9⟩
      · have hlp : 0 < cr := (pk_lLT (by decide) (by omega)).mp c113
        exact absurd hlt (by rw [Nat.pow_zero]; omega)
    | succ g ih =>
      intro k cr c1 f1 H locs ls hkg hlt hcr hB ho hS hm hF hI hl
      refine lv_lload hx hb d_Mo_times_77 (lv_at hl 0 rfl) ?_
      refine lv_lconst (v := lN 0) hx hb d_Mo_times_79 rfl ?_
      refine hw_l_le (tgt := 118) hx hb d_Mo_times_80 d_Mo_times_81 (by decide) (fun c115 => ?_) (fun c115 => ?_)
      · have hl0 : cr = 0 := Nat.le_zero.mp ((pk_lLE (by omega) (by decide)).mp c115)
        rw [hl0, Nat.zero_mul, Nat.add_zero] at hS
        refine lv_aload_n hx hb d_Mo_times_118 rfl (lv_at hl 3 rfl) ?_
        refine lv_iload_n hx hb d_Mo_times_119 rfl (lv_at hl 2 rfl) ?_
        refine lv_iload hx hb d_Mo_times_120 (lv_at hl 1 rfl) ?_
        refine hw_cV (As := [.int (nI i), .int (nI k)]) (rest := []) S hI m_Mo_trim w_834 (c_Mo_trim l D t0 L _ _ mm mc ml mg mw mr th c1 ns sn wt rr i k hm hi (by omega) hB) hm.1 rfl hl.1 rfl rfl (Nat.le_of_ble_eq_true rfl) d_Mo_times_122 ⟨Nat.le_of_ble_eq_true rfl, Nat.le_of_ble_eq_true rfl⟩ ⟨Nat.le_of_ble_eq_true rfl, Nat.le_of_ble_eq_true rfl⟩ (fun v9 L9 f116 H locs hp hI => ?_)
        refine W.cs (cells' := 0) (slots' := 0) rfl rfl ?_
        obtain ⟨hv9, rfl, n9, hn9, hk9, hm, hF9⟩ := hp
        cases hv9
        refine hw_stk (st' := []) rfl ?_
        rw [hS] at hk9
        exact hw_vret hx hb hr hlocks hI d_Mo_times_125 ⟨rfl, rfl, ⟨_, _, hm, hc.up hi hB ho (by omega) hk9⟩, hF.trans hF9⟩
      · have hlp : 0 < cr := (pk_lLT (by decide) (by omega)).mp c115
        have hml9 := Nat.mod_lt cr mpos
        have hdm := Nat.div_add_mod cr 10000
        refine lv_aload_n hx hb d_Mo_times_84 rfl (lv_at hl 3 rfl) ?_
        refine ob_get S hI hm.1 (C := R_Mo) (T := F_Mo) (N := 6) (ref := "WallFractionsModel") rfl i_Mo 1 (by decide) rfl w_772 rfl d_Mo_times_85 ?_
        refine lv_sipush (v := nI 128) hx hb d_Mo_times_88 (by decide) ?_
        refine lv_iload_n hx hb d_Mo_times_91 rfl (lv_at hl 2 rfl) ?_
        refine lv_imul hx hb d_Mo_times_92 ?_
        refine hw_ti (pk_mul _ _) ?_
        refine lv_iload hx hb d_Mo_times_93 (lv_at hl 1 rfl) ?_
        refine lv_iadd hx hb d_Mo_times_95 ?_
        refine hw_ti (nI_add _ _) ?_
        refine lv_lload hx hb d_Mo_times_96 (lv_at hl 0 rfl) ?_
        refine hw_ldc2 (v := lN 10000) hx hb hown (hT _ w_770) d_Mo_times_98 ?_
        refine lv_lrem hx hb d_Mo_times_101 (by intro h9; have h8 := (pk_lEQ (b := 0) (by omega) (by decide)).mp h9; omega) ?_
        refine hw_tl (pk_lRem (by omega) (by omega) (by omega)) ?_
        refine lv_l2i (v := nI (cr % 10000)) hx hb d_Mo_times_102 (lN_i _) ?_
        refine ia_st S hI hm.2.1 (by decide) (by omega) d_Mo_times_103 (fun f117 H locs hI hR9 hf117 => ?_)
        have hm := hm.umc hf117 hR9
        have hF := hF.umc hf117
        refine lv_lload hx hb d_Mo_times_104 (lv_at hl 0 rfl) ?_
        refine hw_ldc2 (v := lN 10000) hx hb hown (hT _ w_770) d_Mo_times_106 ?_
        refine lv_ldiv hx hb d_Mo_times_109 (by intro h9; have h8 := (pk_lEQ (b := 0) (by omega) (by decide)).mp h9; omega) ?_
        refine hw_tl (pk_lDiv (by omega) (by omega) (by omega)) ?_
        refine lv_lstore (lv' := [(7, .long (lN (cr / 10000))), (6, .int (nI k)), (1, .int (nI i)), (0, .ref (mm))]) hx hb d_Mo_times_110 hl (by decide) rfl (fun ls hl => ?_)
        refine lv_iinc (v := nI (k + 1)) (lv' := [(6, .int (nI (k + 1))), (7, .long (lN (cr / 10000))), (1, .int (nI i)), (0, .ref (mm))]) hx hb d_Mo_times_112 hl (k := 1) rfl (nI_1 _) (by decide) rfl (fun ls hl => ?_)
        refine lv_goto (tgt := 77) hx hb d_Mo_times_115 (by decide) ?_
        exact ih (k + 1) (cr / 10000) _ _ _ _ _ (by omega) ((Nat.div_lt_iff_lt_mul (by decide)).mpr (by rw [← Nat.pow_succ]; exact hlt)) (by omega) (upB hB hml9) (fun q hq => by rw [hw_up_ne (by omega)]; exact ho q hq) (by rw [nsh_upc, nvb_digit (w := cr) (cr := 0) (S := nvb 10000 (nsh c1 (128 * i)) k) (by rw [Nat.zero_mul, Nat.add_zero]) (by omega)]; exact hS) hm hF hI (lv_sub hl [1, 0, 2, 3] rfl)
  have loop : ∀ (g t cr : Nat) (c1 : Nat → Nat) (f1 : Nat → va_E) (H : Heap) (locs : List Loc) (ls : Array Slot), t + g = M → cr ≤ 1000000000 → (∀ q, c1 q < 10000) → (∀ q, q < 128 * i ∨ 128 * i + t ≤ q → c1 q = cs q) → nvb 10000 (nsh c1 (128 * i)) t + cr * 10000 ^ t = nvb 10000 (nsh cs (128 * i)) t * F + E → Mb D L f1 mm mc ml mg mw mr th c1 ns sn wt rr → Fo mm mc ml mg mw mr f f1 → hw_I D t0 (hw_A L s.heap.size) s L f1 H locs → lv_has ls 12 [(9, .int (nI t)), (7, .long (lN cr)), (6, .int (nI M)), (2, .long (lN F)), (1, .int (nI i)), (0, .ref (mm))] → W p l e (headSpec (Cond.code y_Mo_times b_Mo_times 12 none :: TT) ({ frames := 1, cells := 0, slots := 0, locals := 23 } : Room)).room s m ([.ref (mm), .int (nI i), .long (lN F), .long (lN E)]).toArray below meth c H locs 0 0 (MQ below (hw_Q D L s.heap.size (fun oc L' f' => oc = .returned none ∧ L = L' ∧ Mn D L f' mm mc ml mg mw mr th (va_up y i (y i * F + E)) sn wt rr ∧ Fo mm mc ml mg mw mr f f')) ([.ref (mm), .int (nI i), .long (lN F), .long (lN E)]).toArray s 0 0 (hw_A L s.heap.size)) (F0 m 15 ls []) := by
    intro g
    induction g with
    | zero =>
      intro t cr c1 f1 H locs ls htg hcr hB ho hS hm hF hI hl
      refine lv_iload hx hb d_Mo_times_15 (lv_at hl 0 rfl) ?_
      refine lv_iload hx hb d_Mo_times_17 (lv_at hl 2 rfl) ?_
      refine hw_icmp_ge (tgt := 77) hx hb d_Mo_times_19 (by decide) (by omega) (by omega) (fun c118 => ?_) (fun c118 => ?_)
      · have htM : t = M := by omega
        have hm3 := m3
        rw [htM] at hS ho
        exact tail 3 M cr c1 _ _ _ _ rfl (by omega) hcr hB (fun q hq => ho q (by omega)) (by rw [hS, hval]) hm hF hI (lv_sub hl [1, 2, 4, 5] rfl)
      · exact absurd c118 (by omega)
    | succ g ih =>
      intro t cr c1 f1 H locs ls htg hcr hB ho hS hm hF hI hl
      refine lv_iload hx hb d_Mo_times_15 (lv_at hl 0 rfl) ?_
      refine lv_iload hx hb d_Mo_times_17 (lv_at hl 2 rfl) ?_
      refine hw_icmp_ge (tgt := 77) hx hb d_Mo_times_19 (by decide) (by omega) (by omega) (fun c119 => ?_) (fun c119 => ?_)
      · exact absurd c119 (by omega)
      · have hct := hc.1 (128 * i + t)
        have hrd : c1 (128 * i + t) = cs (128 * i + t) := ho _ (by omega)
        have hpr : cs (128 * i + t) * F ≤ 9999 * 1000000000 := Nat.mul_le_mul (by omega) hFB
        have hdm := Nat.div_add_mod (cs (128 * i + t) * F + cr) 10000
        have hml9 := Nat.mod_lt (cs (128 * i + t) * F + cr) mpos
        refine lv_aload_n hx hb d_Mo_times_22 rfl (lv_at hl 5 rfl) ?_
        refine ob_get S hI hm.1 (C := R_Mo) (T := F_Mo) (N := 6) (ref := "WallFractionsModel") rfl i_Mo 1 (by decide) rfl w_772 rfl d_Mo_times_23 ?_
        refine lv_sipush (v := nI 128) hx hb d_Mo_times_26 (by decide) ?_
        refine lv_iload_n hx hb d_Mo_times_29 rfl (lv_at hl 4 rfl) ?_
        refine lv_imul hx hb d_Mo_times_30 ?_
        refine hw_ti (pk_mul _ _) ?_
        refine lv_iload hx hb d_Mo_times_31 (lv_at hl 0 rfl) ?_
        refine lv_iadd hx hb d_Mo_times_33 ?_
        refine hw_ti (nI_add _ _) ?_
        refine ia_ld S hI hm.2.1 (by decide) (by omega) d_Mo_times_34 ?_
        refine hw_ti (show _ = nI (cs (128 * i + t)) from by rw [hrd]) ?_
        refine lv_i2l (v := lN (cs (128 * i + t))) hx hb d_Mo_times_35 (nI_l (by omega)) ?_
        refine lv_lload_n hx hb d_Mo_times_36 rfl (lv_at hl 3 rfl) ?_
        refine lv_lmul hx hb d_Mo_times_37 ?_
        refine hw_tl (lN_mul _ _) ?_
        refine lv_lload hx hb d_Mo_times_38 (lv_at hl 1 rfl) ?_
        refine lv_ladd hx hb d_Mo_times_40 ?_
        refine hw_tl (lN_add _ _) ?_
        refine lv_lstore (lv' := [(10, .long (lN (((cs (128 * i + t)) * F) + cr))), (9, .int (nI t)), (7, .long (lN cr)), (6, .int (nI M)), (2, .long (lN F)), (1, .int (nI i)), (0, .ref (mm))]) hx hb d_Mo_times_41 hl (by decide) rfl (fun ls hl => ?_)
        refine lv_aload_n hx hb d_Mo_times_43 rfl (lv_at hl 6 rfl) ?_
        refine ob_get S hI hm.1 (C := R_Mo) (T := F_Mo) (N := 6) (ref := "WallFractionsModel") rfl i_Mo 1 (by decide) rfl w_772 rfl d_Mo_times_44 ?_
        refine lv_sipush (v := nI 128) hx hb d_Mo_times_47 (by decide) ?_
        refine lv_iload_n hx hb d_Mo_times_50 rfl (lv_at hl 5 rfl) ?_
        refine lv_imul hx hb d_Mo_times_51 ?_
        refine hw_ti (pk_mul _ _) ?_
        refine lv_iload hx hb d_Mo_times_52 (lv_at hl 1 rfl) ?_
        refine lv_iadd hx hb d_Mo_times_54 ?_
        refine hw_ti (nI_add _ _) ?_
        refine lv_lload hx hb d_Mo_times_55 (lv_at hl 0 rfl) ?_
        refine hw_ldc2 (v := lN 10000) hx hb hown (hT _ w_770) d_Mo_times_57 ?_
        refine lv_lrem hx hb d_Mo_times_60 (by intro h9; have h8 := (pk_lEQ (b := 0) (by omega) (by decide)).mp h9; omega) ?_
        refine hw_tl (pk_lRem (by omega) (by omega) (by omega)) ?_
        refine lv_l2i (v := nI ((((cs (128 * i + t)) * F) + cr) % 10000)) hx hb d_Mo_times_61 (lN_i _) ?_
        refine ia_st S hI hm.2.1 (by decide) (by omega) d_Mo_times_62 (fun f120 H locs hI hR9 hf120 => ?_)
        have hm := hm.umc hf120 hR9
        have hF := hF.umc hf120
        refine lv_lload hx hb d_Mo_times_63 (lv_at hl 0 rfl) ?_
        refine hw_ldc2 (v := lN 10000) hx hb hown (hT _ w_770) d_Mo_times_65 ?_
        refine lv_ldiv hx hb d_Mo_times_68 (by intro h9; have h8 := (pk_lEQ (b := 0) (by omega) (by decide)).mp h9; omega) ?_
        refine hw_tl (pk_lDiv (by omega) (by omega) (by omega)) ?_
        refine lv_lstore (lv' := [(7, .long (lN ((((cs (128 * i + t)) * F) + cr) / 10000))), (10, .long (lN (((cs (128 * i + t)) * F) + cr))), (9, .int (nI t)), (6, .int (nI M)), (2, .long (lN F)), (1, .int (nI i)), (0, .ref (mm))]) hx hb d_Mo_times_69 hl (by decide) rfl (fun ls hl => ?_)
        refine lv_iinc (v := nI (t + 1)) (lv' := [(9, .int (nI (t + 1))), (7, .long (lN ((((cs (128 * i + t)) * F) + cr) / 10000))), (10, .long (lN (((cs (128 * i + t)) * F) + cr))), (6, .int (nI M)), (2, .long (lN F)), (1, .int (nI i)), (0, .ref (mm))]) hx hb d_Mo_times_71 hl (k := 2) rfl (nI_1 _) (by decide) rfl (fun ls hl => ?_)
        refine lv_goto (tgt := 15) hx hb d_Mo_times_74 (by decide) ?_
        exact ih (t + 1) ((cs (128 * i + t) * F + cr) / 10000) _ _ _ _ _ (by omega) (by omega) (upB hB hml9) (fun q hq => by rw [hw_up_ne (by omega)]; exact ho q (by omega)) (by rw [nsh_upc, nvb_digit (w := cs (128 * i + t) * F) hS (by omega), nvb_succ, Nat.add_mul]; unfold nsh; grind) hm hF hI (lv_sub hl [0, 1, 3, 4, 5, 6] rfl)
  refine lv_aload_n hx hb d_Mo_times_0 rfl (lv_at hl 0 rfl) ?_
  refine ob_get S hI hm.1 (C := R_Mo) (T := F_Mo) (N := 6) (ref := "WallFractionsModel") rfl i_Mo 2 (by decide) rfl w_773 rfl d_Mo_times_1 ?_
  refine lv_iload_n hx hb d_Mo_times_4 rfl (lv_at hl 1 rfl) ?_
  refine ia_ld S hI hm.2.2.1 (by decide) (by omega) d_Mo_times_5 ?_
  refine hw_ti (show _ = nI M from by rw [hM]) ?_
  refine lv_istore (lv' := [(6, .int (nI M)), (0, .ref (mm)), (1, .int (nI i)), (2, .long (lN F)), (4, .long (lN E))]) hx hb d_Mo_times_6 hl (by decide) rfl (fun ls hl => ?_)
  refine lv_lload hx hb d_Mo_times_8 (lv_at hl 4 rfl) ?_
  refine lv_lstore (lv' := [(7, .long (lN E)), (6, .int (nI M)), (0, .ref (mm)), (1, .int (nI i)), (2, .long (lN F)), (4, .long (lN E))]) hx hb d_Mo_times_10 hl (by decide) rfl (fun ls hl => ?_)
  refine lv_iconst (v := nI 0) hx hb d_Mo_times_12 (by decide) ?_
  refine lv_istore (lv' := [(9, .int (nI 0)), (7, .long (lN E)), (6, .int (nI M)), (0, .ref (mm)), (1, .int (nI i)), (2, .long (lN F)), (4, .long (lN E))]) hx hb d_Mo_times_13 hl (by decide) rfl (fun ls hl => ?_)
  exact loop M 0 E cs _ _ _ _ (by omega) hEB hc.1 (fun _ _ => rfl) (by simp [nvb_zero]) hm hF hI (lv_sub hl [0, 1, 2, 5, 4, 3] rfl)
set_option maxHeartbeats 4000000 in
set_option maxRecDepth 100000 in
theorem c_Mo_by (l : Launch) (D : va_G) (t0 : Nat) (L : List Nat) (f : Nat → va_E) (sz : Nat) (mm mc ml mg mw mr : Nat) (th : Int32) (y : Nat → Nat) (sn : Nat → Int32) (wt rr : Nat → Nat) (i d : Nat) (hn : Mn D L f mm mc ml mg mw mr th y sn wt rr) (hi : i < 50) (hd0 : 0 < d) (hdB : d ≤ 10000000000) : Met l y_Mo_by (Cond.code y_Mo_by b_Mo_by 9 (some .long) :: TT) ({ frames := 1, cells := 0, slots := 0, locals := 23 } : Room) (hw_Pc t0 [.ref (mm), .int (nI i), .long (lN d)] D L f sz) (hw_Q D L sz (fun oc L' f' => oc = .returned (some (.long (lN (y i % d)))) ∧ L = L' ∧ Mn D L f' mm mc ml mg mw mr th (va_up y i (y i / d)) sn wt rr ∧ Fo mm mc ml mg mw mr f f')) 0 0 (hw_A L sz) := by
  refine Met.ofW (cc := b_Mo_by) (maxL := 9) (ret := (some .long)) (by decide) rfl ?_
  intro p e s m args below meth c s₁ B hml hv
  obtain ⟨rfl, rfl, hI⟩ := hw_start hv
  clear hv
  have hx := B.exec
  have hb := B.bytes
  have hr := B.returns
  have hlocks := B.notSynchronized
  have hown : s.vm.findClass "WallFractionsModel" = some m.cls := findClass_of_methodNamed B.named
  have hT : ∀ w ∈ TT, w.before ([.ref (mm), .int (nI i), .long (lN d)]).toArray s = true := fun w h => atoms_spec (ws := (Cond.code y_Mo_by b_Mo_by 9 (some .long) :: TT)) B.pre w (List.mem_cons_of_mem _ h)
  have S : CallFix p m c b_Mo_by 9 s ([.ref (mm), .int (nI i), .long (lN d)]).toArray TT "WallFractionsModel" := ⟨hx, hb, hml, hown, hT⟩
  have hl := lv_entry ([.ref (mm), .int (nI i), .long (lN d)]) (n := 9) (Nat.le_of_ble_eq_true rfl)
  rw [lg_entry_eq]
  generalize (lg_sl ([.ref (mm), .int (nI i), .long (lN d)]) ++ List.replicate (9 - (lg_sl ([.ref (mm), .int (nI i), .long (lN d)])).length) Slot.unset).toArray = ls at hl ⊢
  have hl : lv_has ls 9 [(0, .ref (mm)), (1, .int (nI i)), (2, .long (lN d))] := hl
  skip
  obtain ⟨cs, ns, hm, hc⟩ := hn
  have hF : Fo mm mc ml mg mw mr f f := Fo.refl
  have h1 := (hc.2 i hi).1
  obtain ⟨M, hM⟩ : ∃ M, M = ns i := ⟨_, rfl⟩
  have hval : nvb 10000 (nsh cs (128 * i)) M = y i := by rw [hM]; exact (hc.2 i hi).2.2.2
  have loop : ∀ (t re : Nat) (c1 : Nat → Nat) (f1 : Nat → va_E) (H : Heap) (locs : List Loc) (ls : Array Slot), t ≤ M → re < d → (∀ q, c1 q < 10000) → (∀ q, q < 128 * i + t ∨ 128 * i + 128 ≤ q → c1 q = cs q) → nvb 10000 (nsh (nsh cs (128 * i)) t) (M - t) = nvb 10000 (nsh (nsh c1 (128 * i)) t) (M - t) * d + re → Mb D L f1 mm mc ml mg mw mr th c1 ns sn wt rr → Fo mm mc ml mg mw mr f f1 → hw_I D t0 (hw_A L s.heap.size) s L f1 H locs → lv_has ls 9 [(6, .int (mI t)), (4, .long (lN re)), (2, .long (lN d)), (1, .int (nI i)), (0, .ref (mm))] → W p l e (headSpec (Cond.code y_Mo_by b_Mo_by 9 (some .long) :: TT) ({ frames := 1, cells := 0, slots := 0, locals := 23 } : Room)).room s m ([.ref (mm), .int (nI i), .long (lN d)]).toArray below meth c H locs 0 0 (MQ below (hw_Q D L s.heap.size (fun oc L' f' => oc = .returned (some (.long (lN (y i % d)))) ∧ L = L' ∧ Mn D L f' mm mc ml mg mw mr th (va_up y i (y i / d)) sn wt rr ∧ Fo mm mc ml mg mw mr f f')) ([.ref (mm), .int (nI i), .long (lN d)]).toArray s 0 0 (hw_A L s.heap.size)) (F0 m 13 ls []) := by
    intro t
    induction t with
    | zero =>
      intro re c1 f1 H locs ls ht hre hB ho hS hm hF hI hl
      rw [nsh0, nsh0, Nat.sub_zero, hval] at hS
      have hq : nvb 10000 (nsh c1 (128 * i)) M = y i / d := by rw [hS, Nat.mul_comm (nvb 10000 (nsh c1 (128 * i)) M) d, Nat.mul_add_div hd0, Nat.div_eq_of_lt hre, Nat.add_zero]
      have hr9 : re = y i % d := by rw [hS, Nat.mul_comm (nvb 10000 (nsh c1 (128 * i)) M) d, Nat.mul_add_mod, Nat.mod_eq_of_lt hre]
      refine lv_iload hx hb d_Mo_by_13 (lv_at hl 0 rfl) ?_
      refine hw_m0 (tgt := 71) hx hb d_Mo_by_15 (by decide) ?_
      refine lv_aload_n hx hb d_Mo_by_71 rfl (lv_at hl 4 rfl) ?_
      refine lv_iload_n hx hb d_Mo_by_72 rfl (lv_at hl 3 rfl) ?_
      refine lv_aload_n hx hb d_Mo_by_73 rfl (lv_at hl 4 rfl) ?_
      refine ob_get S hI hm.1 (C := R_Mo) (T := F_Mo) (N := 6) (ref := "WallFractionsModel") rfl i_Mo 2 (by decide) rfl w_773 rfl d_Mo_by_74 ?_
      refine lv_iload_n hx hb d_Mo_by_77 rfl (lv_at hl 3 rfl) ?_
      refine ia_ld S hI hm.2.2.1 (by decide) (by omega) d_Mo_by_78 ?_
      refine hw_ti (show _ = nI M from by rw [hM]) ?_
      refine hw_cV (As := [.int (nI i), .int (nI M)]) (rest := []) S hI m_Mo_trim w_834 (c_Mo_trim l D t0 L _ _ mm mc ml mg mw mr th c1 ns sn wt rr i M hm hi (by omega) hB) hm.1 rfl hl.1 rfl rfl (Nat.le_of_ble_eq_true rfl) d_Mo_by_79 ⟨Nat.le_of_ble_eq_true rfl, Nat.le_of_ble_eq_true rfl⟩ ⟨Nat.le_of_ble_eq_true rfl, Nat.le_of_ble_eq_true rfl⟩ (fun v9 L9 f121 H locs hp hI => ?_)
      refine W.cs (cells' := 0) (slots' := 0) rfl rfl ?_
      obtain ⟨hv9, rfl, n9, hn9, hk9, hm, hF9⟩ := hp
      cases hv9
      refine hw_stk (st' := []) rfl ?_
      rw [hq] at hk9
      refine lv_lload hx hb d_Mo_by_82 (lv_at hl 1 rfl) ?_
      exact hw_lret hx hb hr hlocks hI d_Mo_by_84 ⟨by rw [hr9], rfl, ⟨_, _, hm, hc.up hi hB (fun q hq => ho q (by omega)) (by omega) hk9⟩, hF.trans hF9⟩
    | succ t ih =>
      intro re c1 f1 H locs ls ht hre hB ho hS hm hF hI hl
      rw [mI_s] at hl
      refine lv_iload hx hb d_Mo_by_13 (lv_at hl 0 rfl) ?_
      refine hw_if_lt (tgt := 71) hx hb d_Mo_by_15 (by decide) (by omega) ?_
      have hct := hc.1 (128 * i + t)
      have hrd : c1 (128 * i + t) = cs (128 * i + t) := ho _ (by omega)
      have hpr : re * 10000 ≤ 10000000000 * 10000 := Nat.mul_le_mul_right _ (by omega)
      have hq : (re * 10000 + cs (128 * i + t)) / d < 10000 := sdiv_lt hre hct
      have hml9 := Nat.mod_lt (re * 10000 + cs (128 * i + t)) hd0
      refine lv_lload hx hb d_Mo_by_18 (lv_at hl 1 rfl) ?_
      refine hw_ldc2 (v := lN 10000) hx hb hown (hT _ w_770) d_Mo_by_20 ?_
      refine lv_lmul hx hb d_Mo_by_23 ?_
      refine hw_tl (lN_mul _ _) ?_
      refine lv_aload_n hx hb d_Mo_by_24 rfl (lv_at hl 4 rfl) ?_
      refine ob_get S hI hm.1 (C := R_Mo) (T := F_Mo) (N := 6) (ref := "WallFractionsModel") rfl i_Mo 1 (by decide) rfl w_772 rfl d_Mo_by_25 ?_
      refine lv_sipush (v := nI 128) hx hb d_Mo_by_28 (by decide) ?_
      refine lv_iload_n hx hb d_Mo_by_31 rfl (lv_at hl 3 rfl) ?_
      refine lv_imul hx hb d_Mo_by_32 ?_
      refine hw_ti (pk_mul _ _) ?_
      refine lv_iload hx hb d_Mo_by_33 (lv_at hl 0 rfl) ?_
      refine lv_iadd hx hb d_Mo_by_35 ?_
      refine hw_ti (nI_add _ _) ?_
      refine ia_ld S hI hm.2.1 (by decide) (by omega) d_Mo_by_36 ?_
      refine hw_ti (show _ = nI (cs (128 * i + t)) from by rw [hrd]) ?_
      refine lv_i2l (v := lN (cs (128 * i + t))) hx hb d_Mo_by_37 (nI_l (by omega)) ?_
      refine lv_ladd hx hb d_Mo_by_38 ?_
      refine hw_tl (lN_add _ _) ?_
      refine lv_lstore (lv' := [(7, .long (lN ((re * 10000) + (cs (128 * i + t))))), (6, .int (nI t)), (4, .long (lN re)), (2, .long (lN d)), (1, .int (nI i)), (0, .ref (mm))]) hx hb d_Mo_by_39 hl (by decide) rfl (fun ls hl => ?_)
      refine lv_aload_n hx hb d_Mo_by_41 rfl (lv_at hl 5 rfl) ?_
      refine ob_get S hI hm.1 (C := R_Mo) (T := F_Mo) (N := 6) (ref := "WallFractionsModel") rfl i_Mo 1 (by decide) rfl w_772 rfl d_Mo_by_42 ?_
      refine lv_sipush (v := nI 128) hx hb d_Mo_by_45 (by decide) ?_
      refine lv_iload_n hx hb d_Mo_by_48 rfl (lv_at hl 4 rfl) ?_
      refine lv_imul hx hb d_Mo_by_49 ?_
      refine hw_ti (pk_mul _ _) ?_
      refine lv_iload hx hb d_Mo_by_50 (lv_at hl 1 rfl) ?_
      refine lv_iadd hx hb d_Mo_by_52 ?_
      refine hw_ti (nI_add _ _) ?_
      refine lv_lload hx hb d_Mo_by_53 (lv_at hl 0 rfl) ?_
      refine lv_lload_n hx hb d_Mo_by_55 rfl (lv_at hl 3 rfl) ?_
      refine lv_ldiv hx hb d_Mo_by_56 (by intro h9; have h8 := (pk_lEQ (b := 0) (by omega) (by decide)).mp h9; omega) ?_
      refine hw_tl (pk_lDiv (by omega) (by omega) (by omega)) ?_
      refine lv_l2i (v := nI (((re * 10000) + (cs (128 * i + t))) / d)) hx hb d_Mo_by_57 (lN_i _) ?_
      refine ia_st S hI hm.2.1 (by decide) (by omega) d_Mo_by_58 (fun f122 H locs hI hR9 hf122 => ?_)
      have hm := hm.umc hf122 hR9
      have hF := hF.umc hf122
      refine lv_lload hx hb d_Mo_by_59 (lv_at hl 0 rfl) ?_
      refine lv_lload_n hx hb d_Mo_by_61 rfl (lv_at hl 3 rfl) ?_
      refine lv_lrem hx hb d_Mo_by_62 (by intro h9; have h8 := (pk_lEQ (b := 0) (by omega) (by decide)).mp h9; omega) ?_
      refine hw_tl (pk_lRem (by omega) (by omega) (by omega)) ?_
      refine lv_lstore (lv' := [(4, .long (lN (((re * 10000) + (cs (128 * i + t))) % d))), (7, .long (lN ((re * 10000) + (cs (128 * i + t))))), (6, .int (nI t)), (2, .long (lN d)), (1, .int (nI i)), (0, .ref (mm))]) hx hb d_Mo_by_63 hl (by decide) rfl (fun ls hl => ?_)
      refine lv_iinc (v := mI t) (lv' := [(6, .int (mI t)), (4, .long (lN (((re * 10000) + (cs (128 * i + t))) % d))), (7, .long (lN ((re * 10000) + (cs (128 * i + t))))), (2, .long (lN d)), (1, .int (nI i)), (0, .ref (mm))]) hx hb d_Mo_by_65 hl (k := 2) rfl (mI_d t) (by decide) rfl (fun ls hl => ?_)
      refine lv_goto (tgt := 13) hx hb d_Mo_by_68 (by decide) ?_
      exact ih _ _ _ _ _ _ (by omega) hml9 (upB hB hq) (fun q hq => by rw [hw_up_ne (by omega)]; exact ho q (by omega)) (by rw [nsh_upc]; exact sdiv_step (f := nsh cs (128 * i)) (h := nsh c1 (128 * i)) (by omega) hd0 hS) hm hF hI (lv_sub hl [0, 1, 3, 4, 5] rfl)
  refine lv_lconst (v := lN 0) hx hb d_Mo_by_0 rfl ?_
  refine lv_lstore (lv' := [(4, .long (lN 0)), (0, .ref (mm)), (1, .int (nI i)), (2, .long (lN d))]) hx hb d_Mo_by_1 hl (by decide) rfl (fun ls hl => ?_)
  refine lv_aload_n hx hb d_Mo_by_3 rfl (lv_at hl 1 rfl) ?_
  refine ob_get S hI hm.1 (C := R_Mo) (T := F_Mo) (N := 6) (ref := "WallFractionsModel") rfl i_Mo 2 (by decide) rfl w_773 rfl d_Mo_by_4 ?_
  refine lv_iload_n hx hb d_Mo_by_7 rfl (lv_at hl 2 rfl) ?_
  refine ia_ld S hI hm.2.2.1 (by decide) (by omega) d_Mo_by_8 ?_
  refine hw_ti (show _ = nI M from by rw [hM]) ?_
  refine lv_iconst (v := nI 1) hx hb d_Mo_by_9 (by decide) ?_
  refine lv_isub hx hb d_Mo_by_10 ?_
  refine lv_istore (lv' := [(6, .int ((nI M) - (nI 1))), (4, .long (lN 0)), (0, .ref (mm)), (1, .int (nI i)), (2, .long (lN d))]) hx hb d_Mo_by_11 hl (by decide) rfl (fun ls hl => ?_)
  exact loop M 0 cs _ _ _ _ (Nat.le_refl _) hd0 hc.1 (fun _ _ => rfl) (by rw [Nat.sub_self, nvb_zero, Nat.zero_mul]) hm hF hI (lv_sub hl [0, 1, 4, 3, 2] rfl)
set_option maxHeartbeats 4000000 in
set_option maxRecDepth 100000 in
theorem c_Mo_tens (l : Launch) (D : va_G) (t0 : Nat) (L : List Nat) (f : Nat → va_E) (sz : Nat) (mm mc ml mg mw mr : Nat) (th : Int32) (y : Nat → Nat) (sn : Nat → Int32) (wt rr : Nat → Nat) (i n0 : Nat) (hn : Mn D L f mm mc ml mg mw mr th y sn wt rr) (hi : i < 50) (hn0 : n0 < 1000) (hy : y i * 10 ^ n0 < 10000 ^ 125) : Met l y_Mo_tens (Cond.code y_Mo_tens b_Mo_tens 4 none :: TT) ({ frames := 2, cells := 0, slots := 0, locals := 54 } : Room) (hw_Pc t0 [.ref (mm), .int (nI i), .int (nI n0)] D L f sz) (hw_Q D L sz (fun oc L' f' => oc = .returned none ∧ L = L' ∧ Mn D L f' mm mc ml mg mw mr th (va_up y i (y i * 10 ^ n0)) sn wt rr ∧ Fo mm mc ml mg mw mr f f')) 0 0 (hw_A L sz) := by
  refine Met.ofW (cc := b_Mo_tens) (maxL := 4) (ret := none) (by decide) rfl ?_
  intro p e s m args below meth c s₁ B hml hv
  obtain ⟨rfl, rfl, hI⟩ := hw_start hv
  clear hv
  have hx := B.exec
  have hb := B.bytes
  have hr := B.returns
  have hlocks := B.notSynchronized
  have hown : s.vm.findClass "WallFractionsModel" = some m.cls := findClass_of_methodNamed B.named
  have hT : ∀ w ∈ TT, w.before ([.ref (mm), .int (nI i), .int (nI n0)]).toArray s = true := fun w h => atoms_spec (ws := (Cond.code y_Mo_tens b_Mo_tens 4 none :: TT)) B.pre w (List.mem_cons_of_mem _ h)
  have S : CallFix p m c b_Mo_tens 4 s ([.ref (mm), .int (nI i), .int (nI n0)]).toArray TT "WallFractionsModel" := ⟨hx, hb, hml, hown, hT⟩
  have hl := lv_entry ([.ref (mm), .int (nI i), .int (nI n0)]) (n := 4) (Nat.le_of_ble_eq_true rfl)
  rw [lg_entry_eq]
  generalize (lg_sl ([.ref (mm), .int (nI i), .int (nI n0)]) ++ List.replicate (4 - (lg_sl ([.ref (mm), .int (nI i), .int (nI n0)])).length) Slot.unset).toArray = ls at hl ⊢
  have hl : lv_has ls 4 [(0, .ref (mm)), (1, .int (nI i)), (2, .int (nI n0))] := hl
  skip
  have hF : Fo mm mc ml mg mw mr f f := Fo.refl
  have loop : ∀ (g t : Nat) (f1 : Nat → va_E) (H : Heap) (locs : List Loc) (ls : Array Slot), t + g = n0 → Mn D L f1 mm mc ml mg mw mr th (va_up y i (y i * 10 ^ t)) sn wt rr → Fo mm mc ml mg mw mr f f1 → hw_I D t0 (hw_A L s.heap.size) s L f1 H locs → lv_has ls 4 [(3, .int (nI t)), (2, .int (nI n0)), (1, .int (nI i)), (0, .ref (mm))] → W p l e (headSpec (Cond.code y_Mo_tens b_Mo_tens 4 none :: TT) ({ frames := 2, cells := 0, slots := 0, locals := 54 } : Room)).room s m ([.ref (mm), .int (nI i), .int (nI n0)]).toArray below meth c H locs 0 0 (MQ below (hw_Q D L s.heap.size (fun oc L' f' => oc = .returned none ∧ L = L' ∧ Mn D L f' mm mc ml mg mw mr th (va_up y i (y i * 10 ^ n0)) sn wt rr ∧ Fo mm mc ml mg mw mr f f')) ([.ref (mm), .int (nI i), .int (nI n0)]).toArray s 0 0 (hw_A L s.heap.size)) (F0 m 2 ls []) := by
    intro g
    induction g with
    | zero =>
      intro t f1 H locs ls htg hn hF hI hl
      refine lv_iload_n hx hb d_Mo_tens_2 rfl (lv_at hl 0 rfl) ?_
      refine lv_iload_n hx hb d_Mo_tens_3 rfl (lv_at hl 1 rfl) ?_
      refine hw_icmp_ge (tgt := 22) hx hb d_Mo_tens_4 (by decide) (by omega) (by omega) (fun c123 => ?_) (fun c123 => ?_)
      · have ht : t = n0 := by omega
        rw [ht] at hn
        exact hw_vret hx hb hr hlocks hI d_Mo_tens_22 ⟨rfl, rfl, hn, hF⟩
      · exact absurd c123 (by omega)
    | succ g ih =>
      intro t f1 H locs ls htg hn hF hI hl
      refine lv_iload_n hx hb d_Mo_tens_2 rfl (lv_at hl 0 rfl) ?_
      refine lv_iload_n hx hb d_Mo_tens_3 rfl (lv_at hl 1 rfl) ?_
      refine hw_icmp_ge (tgt := 22) hx hb d_Mo_tens_4 (by decide) (by omega) (by omega) (fun c124 => ?_) (fun c124 => ?_)
      · exact absurd c124 (by omega)
      · obtain ⟨c8, n8, hm, -⟩ := id hn
        have hlt : va_up y i (y i * 10 ^ t) i < 10000 ^ 125 := by rw [hw_up_eq]; exact Nat.lt_of_le_of_lt (Nat.mul_le_mul_left _ (Nat.pow_le_pow_right (by decide) (by omega))) hy
        refine lv_aload_n hx hb d_Mo_tens_7 rfl (lv_at hl 3 rfl) ?_
        refine lv_iload_n hx hb d_Mo_tens_8 rfl (lv_at hl 2 rfl) ?_
        refine hw_ldc2 (v := lN 10) hx hb hown (hT _ w_918) d_Mo_tens_9 ?_
        refine lv_lconst (v := lN 0) hx hb d_Mo_tens_12 rfl ?_
        refine hw_cV (As := [.int (nI i), .long (lN 10), .long (lN 0)]) (rest := []) S hI m_Mo_times w_851 (c_Mo_times l D t0 L _ _ mm mc ml mg mw mr th _ sn wt rr i 10 0 hn hi hlt (by decide) (by decide)) hm.1 rfl hl.1 rfl rfl (Nat.le_of_ble_eq_true rfl) d_Mo_tens_13 ⟨Nat.le_of_ble_eq_true rfl, Nat.le_of_ble_eq_true rfl⟩ ⟨Nat.le_of_ble_eq_true rfl, Nat.le_of_ble_eq_true rfl⟩ (fun v9 L9 f125 H locs hp hI => ?_)
        refine W.cs (cells' := 0) (slots' := 0) rfl rfl ?_
        obtain ⟨hv9, rfl, hn, hF9⟩ := hp
        cases hv9
        refine hw_stk (st' := []) rfl ?_
        rw [hw_up_eq, bx_uu, Nat.add_zero, Nat.mul_assoc, ← Nat.pow_succ] at hn
        refine lv_iinc (v := nI (t + 1)) (lv' := [(3, .int (nI (t + 1))), (2, .int (nI n0)), (1, .int (nI i)), (0, .ref (mm))]) hx hb d_Mo_tens_16 hl (k := 0) rfl (nI_1 _) (by decide) rfl (fun ls hl => ?_)
        refine lv_goto (tgt := 2) hx hb d_Mo_tens_19 (by decide) ?_
        exact ih (t + 1) _ _ _ _ (by omega) hn (hF.trans hF9) hI hl
  refine lv_iconst (v := nI 0) hx hb d_Mo_tens_0 (by decide) ?_
  refine lv_istore_n (lv' := [(3, .int (nI 0)), (0, .ref (mm)), (1, .int (nI i)), (2, .int (nI n0))]) hx hb d_Mo_tens_1 rfl hl (by decide) rfl (fun ls hl => ?_)
  exact loop n0 0 _ _ _ _ (by omega) (by rw [Nat.pow_zero, Nat.mul_one, up_self]; exact hn) hF hI (lv_sub hl [0, 3, 2, 1] rfl)

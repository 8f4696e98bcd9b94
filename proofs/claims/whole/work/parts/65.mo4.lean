theorem first_lt {n m U a b : Nat} (hU : n = m + U) (hm : 0 < m) (ha : a < 10000 ^ n) (hb : 10000 ^ (m - 1) ≤ b) : a < b * 10000 ^ (U + 1) := by
  refine Nat.lt_of_lt_of_le ha ?_
  rw [hU, show m + U = m - 1 + (U + 1) by omega, Nat.pow_add]
  exact Nat.mul_le_mul_right _ hb
theorem c_Mo_cell2 (l : Launch) (D : va_G) (t0 : Nat) (L : List Nat) (f : Nat → va_E) (sz : Nat) (mm mc ml mg mw mr : Nat) (th : Int32) (cs ns : Nat → Nat) (sn : Nat → Int32) (wt rr : Nat → Nat) (i k : Nat) (hm : Mb D L f mm mc ml mg mw mr th cs ns sn wt rr) (hi : i < 50) (hk : k < 2 ^ 30) (hni : ns i ≤ 128) : Met l y_Mo_cell (Cond.code y_Mo_cell b_Mo_cell 3 (some .int) :: TT) ({ frames := 0, cells := 0, slots := 0, locals := 0 } : Room) (hw_Pc t0 [.ref (mm), .int (nI i), .int (nI k - nI 2)] D L f sz) (hw_Q D L sz (fun oc L' f' => oc = .returned (some (.int (nI (if k < 2 then 0 else pcl cs ns i (k - 2))))) ∧ L = L' ∧ f = f')) 0 0 (hw_A L sz) := by
  rcases Nat.lt_or_ge k 2 with h | h
  · rw [if_pos h]
    exact c_Mo_cell_neg l D t0 L f sz mm mc ml mg mw mr th cs ns sn wt rr i (nI k - nI 2) hm hi ((i32_sub_lt (by omega) (by omega)).mpr h)
  · rw [if_neg (by omega), pk_sub h]
    exact c_Mo_cell l D t0 L f sz mm mc ml mg mw mr th cs ns sn wt rr i (k - 2) hm hi (by omega) hni
set_option maxHeartbeats 4000000 in
set_option maxRecDepth 100000 in
theorem c_Mo_holds (l : Launch) (D : va_G) (t0 : Nat) (L : List Nat) (f : Nat → va_E) (sz : Nat) (mm mc ml mg mw mr : Nat) (th : Int32) (cs ns : Nat → Nat) (sn : Nat → Int32) (wt rr : Nat → Nat) (i j pp : Nat) (hm : Mb D L f mm mc ml mg mw mr th cs ns sn wt rr) (hi : i < 50) (hj : j < 50) (hB : ∀ q, cs q < 10000) (h1 : ns i ≤ 128) (h2 : ns j + pp ≤ ns i) : Met l y_Mo_holds (Cond.code y_Mo_holds b_Mo_holds 6 (some .boolean) :: TT) ({ frames := 1, cells := 0, slots := 0, locals := 22 } : Room) (hw_Pc t0 [.ref (mm), .int (nI i), .int (nI j), .int (nI pp)] D L f sz) (hw_Q D L sz (fun oc L' f' => oc = .returned (some (.int (if nvb 10000 (nsh cs (128 * j)) (ns j) * 10000 ^ pp ≤ nvb 10000 (nsh cs (128 * i)) (ns i) then nI 1 else nI 0))) ∧ L = L' ∧ f = f')) 0 0 (hw_A L sz) := by
  refine Met.ofW (cc := b_Mo_holds) (maxL := 6) (ret := (some .boolean)) (by decide) rfl ?_
  intro p e s m args below meth c s₁ B hml hv
  obtain ⟨rfl, rfl, hI⟩ := hw_start hv
  clear hv
  have hx := B.exec
  have hb := B.bytes
  have hr := B.returns
  have hlocks := B.notSynchronized
  have hown : s.vm.findClass "WallFractionsModel" = some m.cls := findClass_of_methodNamed B.named
  have hT : ∀ w ∈ TT, w.before ([.ref (mm), .int (nI i), .int (nI j), .int (nI pp)]).toArray s = true := fun w h => atoms_spec (ws := (Cond.code y_Mo_holds b_Mo_holds 6 (some .boolean) :: TT)) B.pre w (List.mem_cons_of_mem _ h)
  have S : CallFix p m c b_Mo_holds 6 s ([.ref (mm), .int (nI i), .int (nI j), .int (nI pp)]).toArray TT "WallFractionsModel" := ⟨hx, hb, hml, hown, hT⟩
  have hl := lv_entry ([.ref (mm), .int (nI i), .int (nI j), .int (nI pp)]) (n := 6) (Nat.le_of_ble_eq_true rfl)
  rw [lg_entry_eq]
  generalize (lg_sl ([.ref (mm), .int (nI i), .int (nI j), .int (nI pp)]) ++ List.replicate (6 - (lg_sl ([.ref (mm), .int (nI i), .int (nI j), .int (nI pp)])).length) Slot.unset).toArray = ls at hl ⊢
  have hl : lv_has ls 6 [(0, .ref (mm)), (1, .int (nI i)), (2, .int (nI j)), (3, .int (nI pp))] := hl
  skip
  obtain ⟨N, hN⟩ : ∃ N, ns i = pp + N := ⟨ns i - pp, by omega⟩
  have hBB : nvb 10000 (nsh cs (128 * j)) (ns j) = nvb 10000 (pcl cs ns j) N := (nvb_padl (b := 10000) (u := (ns j, nsh cs (128 * j))) (n := N) (show ns j ≤ N by omega)).symm
  have hio := ho_iff (a := nsh cs (128 * i)) (p := pp) (N := N) (B := nvb 10000 (nsh cs (128 * j)) (ns j)) (fun q => hB _)
  rw [← hN] at hio
  have loop : ∀ (g : Nat) (f1 : Nat → va_E) (H : Heap) (locs : List Loc) (ls : Array Slot), g ≤ N → (∀ q, g ≤ q → q < N → cs (128 * i + (pp + q)) = pcl cs ns j q) → f = f1 → hw_I D t0 (hw_A L s.heap.size) s L f1 H locs → lv_has ls 6 [(4, .int (mI (pp + g))), (3, .int (nI pp)), (2, .int (nI j)), (1, .int (nI i)), (0, .ref (mm))] → W p l e (headSpec (Cond.code y_Mo_holds b_Mo_holds 6 (some .boolean) :: TT) ({ frames := 1, cells := 0, slots := 0, locals := 22 } : Room)).room s m ([.ref (mm), .int (nI i), .int (nI j), .int (nI pp)]).toArray below meth c H locs 0 0 (MQ below (hw_Q D L s.heap.size (fun oc L' f' => oc = .returned (some (.int (if nvb 10000 (nsh cs (128 * j)) (ns j) * 10000 ^ pp ≤ nvb 10000 (nsh cs (128 * i)) (ns i) then nI 1 else nI 0))) ∧ L = L' ∧ f = f')) ([.ref (mm), .int (nI i), .int (nI j), .int (nI pp)]).toArray s 0 0 (hw_A L s.heap.size)) (F0 m 10 ls []) := by
    intro g
    induction g with
    | zero =>
      intro f1 H locs ls hg he hf hI hl
      subst hf
      refine lv_iload hx hb d_Mo_holds_10 (lv_at hl 0 rfl) ?_
      refine lv_iload_n hx hb d_Mo_holds_12 rfl (lv_at hl 1 rfl) ?_
      refine lv_icmp_lt (tgt := 57) hx hb d_Mo_holds_13 (by decide) (fun c101 => ?_) (fun c101 => ?_)
      · refine lv_aload_n hx hb d_Mo_holds_57 rfl (lv_at hl 4 rfl) ?_
        refine ob_get S hI hm.1 (C := R_Mo) (T := F_Mo) (N := 6) (ref := "WallFractionsModel") rfl i_Mo 2 (by decide) rfl w_773 rfl d_Mo_holds_58 ?_
        refine lv_iload_n hx hb d_Mo_holds_61 rfl (lv_at hl 2 rfl) ?_
        refine ia_ld S hI hm.2.2.1 (by decide) (by omega) d_Mo_holds_62 ?_
        refine lv_iload_n hx hb d_Mo_holds_63 rfl (lv_at hl 1 rfl) ?_
        refine lv_iadd hx hb d_Mo_holds_64 ?_
        refine hw_ti (nI_add _ _) ?_
        refine lv_aload_n hx hb d_Mo_holds_65 rfl (lv_at hl 4 rfl) ?_
        refine ob_get S hI hm.1 (C := R_Mo) (T := F_Mo) (N := 6) (ref := "WallFractionsModel") rfl i_Mo 2 (by decide) rfl w_773 rfl d_Mo_holds_66 ?_
        refine lv_iload_n hx hb d_Mo_holds_69 rfl (lv_at hl 3 rfl) ?_
        refine ia_ld S hI hm.2.2.1 (by decide) (by omega) d_Mo_holds_70 ?_
        refine hw_icmp_gt (tgt := 78) hx hb d_Mo_holds_71 (by decide) (by omega) (by omega) (fun c102 => ?_) (fun c102 => ?_)
        · exact absurd c102 (by omega)
        · refine lv_iconst (v := nI 1) hx hb d_Mo_holds_74 (by decide) ?_
          refine lv_goto (tgt := 79) hx hb d_Mo_holds_75 (by decide) ?_
          exact hw_zret hx hb hr hlocks hI rfl d_Mo_holds_79 ⟨by rw [if_pos (hio.mpr (by rw [hBB]; exact Nat.le_of_eq (nvb_congr (fun q hq => (he q (Nat.zero_le _) hq).symm))))], rfl, rfl⟩
      · exact absurd ((mI_lt (by omega) (by omega)).mpr (by omega)) c101
    | succ g ih =>
      intro f1 H locs ls hg he hf hI hl
      subst hf
      rw [show pp + (g + 1) = pp + g + 1 from rfl, mI_s] at hl
      refine lv_iload hx hb d_Mo_holds_10 (lv_at hl 0 rfl) ?_
      refine lv_iload_n hx hb d_Mo_holds_12 rfl (lv_at hl 1 rfl) ?_
      refine hw_icmp_lt (tgt := 57) hx hb d_Mo_holds_13 (by decide) (by omega) (by omega) (fun c103 => ?_) (fun c103 => ?_)
      · exact absurd c103 (by omega)
      · refine lv_aload_n hx hb d_Mo_holds_16 rfl (lv_at hl 4 rfl) ?_
        refine lv_iload_n hx hb d_Mo_holds_17 rfl (lv_at hl 3 rfl) ?_
        refine lv_iload hx hb d_Mo_holds_18 (lv_at hl 0 rfl) ?_
        refine hw_cV (As := [.int (nI i), .int (nI (pp + g))]) (rest := []) S hI m_Mo_cell w_822 (c_Mo_cell l D t0 L _ _ mm mc ml mg mw mr th cs ns sn wt rr i (pp + g) hm hi (by omega) h1) hm.1 rfl hl.1 rfl rfl (Nat.le_of_ble_eq_true rfl) d_Mo_holds_20 ⟨Nat.le_of_ble_eq_true rfl, Nat.le_of_ble_eq_true rfl⟩ ⟨Nat.le_of_ble_eq_true rfl, Nat.le_of_ble_eq_true rfl⟩ (fun v9 L9 f104 H locs hp hI => ?_)
        refine W.cs (cells' := 0) (slots' := 0) rfl rfl ?_
        obtain ⟨hv9, rfl, rfl⟩ := hp
        cases hv9
        refine hw_stk (st' := [.int (nI (pcl cs ns i (pp + g)))]) rfl ?_
        refine hw_ti (show _ = nI (cs (128 * i + (pp + g))) from by unfold pcl; rw [if_pos (by omega)]) ?_
        refine lv_aload_n hx hb d_Mo_holds_23 rfl (lv_at hl 4 rfl) ?_
        refine lv_iload_n hx hb d_Mo_holds_24 rfl (lv_at hl 2 rfl) ?_
        refine lv_iload hx hb d_Mo_holds_25 (lv_at hl 0 rfl) ?_
        refine lv_iload_n hx hb d_Mo_holds_27 rfl (lv_at hl 1 rfl) ?_
        refine lv_isub hx hb d_Mo_holds_28 ?_
        refine hw_ti (pk_sub (by omega)) ?_
        refine hw_ti (show _ = nI g from by rw [Nat.add_sub_cancel_left]) ?_
        refine hw_cV (As := [.int (nI j), .int (nI g)]) (rest := [.int (nI (cs (128 * i + (pp + g))))]) S hI m_Mo_cell w_822 (c_Mo_cell l D t0 L _ _ mm mc ml mg mw mr th cs ns sn wt rr j g hm hj (by omega) (by omega)) hm.1 rfl hl.1 rfl rfl (Nat.le_of_ble_eq_true rfl) d_Mo_holds_29 ⟨Nat.le_of_ble_eq_true rfl, Nat.le_of_ble_eq_true rfl⟩ ⟨Nat.le_of_ble_eq_true rfl, Nat.le_of_ble_eq_true rfl⟩ (fun v9 L9 f105 H locs hp hI => ?_)
        refine W.cs (cells' := 0) (slots' := 0) rfl rfl ?_
        obtain ⟨hv9, rfl, rfl⟩ := hp
        cases hv9
        refine hw_stk (st' := [.int (nI (pcl cs ns j g)), .int (nI (cs (128 * i + (pp + g))))]) rfl ?_
        have b1 := hB (128 * i + (pp + g))
        have b2 := pcl_lt (n := ns) hB j g
        refine lv_isub hx hb d_Mo_holds_32 ?_
        refine lv_istore (lv' := [(5, .int ((nI (cs (128 * i + (pp + g)))) - (nI (pcl cs ns j g)))), (4, .int (nI (pp + g))), (3, .int (nI pp)), (2, .int (nI j)), (1, .int (nI i)), (0, .ref (mm))]) hx hb d_Mo_holds_33 hl (by decide) rfl (fun ls hl => ?_)
        refine lv_iload hx hb d_Mo_holds_35 (lv_at hl 0 rfl) ?_
        refine lv_if_eq (tgt := 51) hx hb d_Mo_holds_37 (by decide) (fun c106 => ?_) (fun c106 => ?_)
        · have heq := (i32_sub_eq (by omega) (by omega)).mp c106
          refine lv_iinc (v := mI (pp + g)) (lv' := [(4, .int (mI (pp + g))), (5, .int ((nI (cs (128 * i + (pp + g)))) - (nI (pcl cs ns j g)))), (3, .int (nI pp)), (2, .int (nI j)), (1, .int (nI i)), (0, .ref (mm))]) hx hb d_Mo_holds_51 hl (k := 1) rfl (mI_d (pp + g)) (by decide) rfl (fun ls hl => ?_)
          refine lv_goto (tgt := 10) hx hb d_Mo_holds_54 (by decide) ?_
          exact ih _ _ _ _ (by omega) (fun q g1 g2 => by rcases Nat.eq_or_lt_of_le g1 with e9 | e9; (rw [← e9]; exact heq); exact he q e9 g2) rfl hI (lv_sub hl [0, 2, 3, 4, 5] rfl)
        · have hne : cs (128 * i + (pp + g)) ≠ pcl cs ns j g := fun h => c106 ((i32_sub_eq (by omega) (by omega)).mpr h)
          refine lv_iload hx hb d_Mo_holds_40 (lv_at hl 0 rfl) ?_
          refine lv_if_le (tgt := 49) hx hb d_Mo_holds_42 (by decide) (fun c107 => ?_) (fun c107 => ?_)
          · have hle := (i32_sub_le (by omega) (by omega)).mp c107
            refine lv_iconst (v := nI 0) hx hb d_Mo_holds_49 (by decide) ?_
            exact hw_zret hx hb hr hlocks hI rfl d_Mo_holds_50 ⟨by rw [if_neg (fun h => absurd (hio.mp h) (by rw [hBB]; exact Nat.not_le.mpr (nvb_lt_of (i := g) (by omega) (fun q _ => hB _) (show cs (128 * i + (pp + g)) < pcl cs ns j g by omega) (fun q g1 g2 => he q g1 g2))))], rfl, rfl⟩
          · have hgt : pcl cs ns j g < cs (128 * i + (pp + g)) := Nat.not_le.mp (fun h => c107 ((i32_sub_le (by omega) (by omega)).mpr h))
            refine lv_iconst (v := nI 1) hx hb d_Mo_holds_45 (by decide) ?_
            refine lv_goto (tgt := 50) hx hb d_Mo_holds_46 (by decide) ?_
            exact hw_zret hx hb hr hlocks hI rfl d_Mo_holds_50 ⟨by rw [if_pos (hio.mpr (by rw [hBB]; exact Nat.le_of_lt (nvb_lt_of (i := g) (by omega) (fun q _ => pcl_lt hB _ _) (show pcl cs ns j g < nsh (nsh cs (128 * i)) pp g from hgt) (fun q g1 g2 => (he q g1 g2).symm))))], rfl, rfl⟩
  refine lv_aload_n hx hb d_Mo_holds_0 rfl (lv_at hl 0 rfl) ?_
  refine ob_get S hI hm.1 (C := R_Mo) (T := F_Mo) (N := 6) (ref := "WallFractionsModel") rfl i_Mo 2 (by decide) rfl w_773 rfl d_Mo_holds_1 ?_
  refine lv_iload_n hx hb d_Mo_holds_4 rfl (lv_at hl 1 rfl) ?_
  refine ia_ld S hI hm.2.2.1 (by decide) (by omega) d_Mo_holds_5 ?_
  refine lv_iconst (v := nI 1) hx hb d_Mo_holds_6 (by decide) ?_
  refine lv_isub hx hb d_Mo_holds_7 ?_
  refine hw_ti (show _ = mI (pp + N) from congrArg mI hN) ?_
  refine lv_istore (lv' := [(4, .int (mI (pp + N))), (0, .ref (mm)), (1, .int (nI i)), (2, .int (nI j)), (3, .int (nI pp))]) hx hb d_Mo_holds_8 hl (by decide) rfl (fun ls hl => ?_)
  exact loop N _ _ _ _ (Nat.le_refl _) (fun q g1 g2 => absurd g2 (by omega)) rfl hI (lv_sub hl [0, 4, 3, 2, 1] rfl)
set_option maxHeartbeats 4000000 in
set_option maxRecDepth 100000 in
theorem c_Mo_takeOff (l : Launch) (D : va_G) (t0 : Nat) (L : List Nat) (f : Nat → va_E) (sz : Nat) (mm mc ml mg mw mr : Nat) (th : Int32) (cs ns : Nat → Nat) (sn : Nat → Int32) (wt rr : Nat → Nat) (i j pp E : Nat) (hm : Mb D L f mm mc ml mg mw mr th cs ns sn wt rr) (hi : i < 50) (hj : j < 50) (hij : i ≠ j) (hB : ∀ q, cs q < 10000) (h1 : ns i ≤ 128) (h2 : ns j + pp ≤ ns i) (hEB : E ≤ 10000) (hE : E * (nvb 10000 (nsh cs (128 * j)) (ns j) * 10000 ^ pp) ≤ nvb 10000 (nsh cs (128 * i)) (ns i)) : Met l y_Mo_takeOff (Cond.code y_Mo_takeOff b_Mo_takeOff 9 none :: TT) ({ frames := 1, cells := 0, slots := 0, locals := 22 } : Room) (hw_Pc t0 [.ref (mm), .int (nI i), .int (nI j), .int (nI pp), .int (nI E)] D L f sz) (hw_Q D L sz (fun oc L' f' => oc = .returned none ∧ L = L' ∧ ∃ c', Mb D L f' mm mc ml mg mw mr th c' ns sn wt rr ∧ (∀ q, c' q < 10000) ∧ (∀ q, q < 128 * i ∨ 128 * i + 128 ≤ q → c' q = cs q) ∧ nvb 10000 (nsh c' (128 * i)) (ns i) + E * (nvb 10000 (nsh cs (128 * j)) (ns j) * 10000 ^ pp) = nvb 10000 (nsh cs (128 * i)) (ns i) ∧ Fo mm mc ml mg mw mr f f')) 0 0 (hw_A L sz) := by
  refine Met.ofW (cc := b_Mo_takeOff) (maxL := 9) (ret := none) (by decide) rfl ?_
  intro p e s m args below meth c s₁ B hml hv
  obtain ⟨rfl, rfl, hI⟩ := hw_start hv
  clear hv
  have hx := B.exec
  have hb := B.bytes
  have hr := B.returns
  have hlocks := B.notSynchronized
  have hown : s.vm.findClass "WallFractionsModel" = some m.cls := findClass_of_methodNamed B.named
  have hT : ∀ w ∈ TT, w.before ([.ref (mm), .int (nI i), .int (nI j), .int (nI pp), .int (nI E)]).toArray s = true := fun w h => atoms_spec (ws := (Cond.code y_Mo_takeOff b_Mo_takeOff 9 none :: TT)) B.pre w (List.mem_cons_of_mem _ h)
  have S : CallFix p m c b_Mo_takeOff 9 s ([.ref (mm), .int (nI i), .int (nI j), .int (nI pp), .int (nI E)]).toArray TT "WallFractionsModel" := ⟨hx, hb, hml, hown, hT⟩
  have hl := lv_entry ([.ref (mm), .int (nI i), .int (nI j), .int (nI pp), .int (nI E)]) (n := 9) (Nat.le_of_ble_eq_true rfl)
  rw [lg_entry_eq]
  generalize (lg_sl ([.ref (mm), .int (nI i), .int (nI j), .int (nI pp), .int (nI E)]) ++ List.replicate (9 - (lg_sl ([.ref (mm), .int (nI i), .int (nI j), .int (nI pp), .int (nI E)])).length) Slot.unset).toArray = ls at hl ⊢
  have hl : lv_has ls 9 [(0, .ref (mm)), (1, .int (nI i)), (2, .int (nI j)), (3, .int (nI pp)), (4, .int (nI E))] := hl
  skip
  have hF : Fo mm mc ml mg mw mr f f := Fo.refl
  obtain ⟨N, hN⟩ : ∃ N, ns i = pp + N := ⟨ns i - pp, by omega⟩
  have hBB : nvb 10000 (nsh cs (128 * j)) (ns j) = nvb 10000 (pcl cs ns j) N := (nvb_padl (b := 10000) (u := (ns j, nsh cs (128 * j))) (n := N) (show ns j ≤ N by omega)).symm
  have loop : ∀ (g t cr : Nat) (c1 : Nat → Nat) (f1 : Nat → va_E) (H : Heap) (locs : List Loc) (ls : Array Slot), t + g = N → cr ≤ E → (∀ q, c1 q < 10000) → (∀ q, q < 128 * i ∨ 128 * i + (pp + t) ≤ q → c1 q = cs q) → nvb 10000 (nsh c1 (128 * i)) (pp + t) + E * nvb 10000 (pcl cs ns j) t * 10000 ^ pp = nvb 10000 (nsh cs (128 * i)) (pp + t) + cr * 10000 ^ (pp + t) → Mb D L f1 mm mc ml mg mw mr th c1 ns sn wt rr → Fo mm mc ml mg mw mr f f1 → hw_I D t0 (hw_A L s.heap.size) s L f1 H locs → lv_has ls 9 [(6, .int (nI (pp + t))), (5, .int (nI cr)), (4, .int (nI E)), (3, .int (nI pp)), (2, .int (nI j)), (1, .int (nI i)), (0, .ref (mm))] → W p l e (headSpec (Cond.code y_Mo_takeOff b_Mo_takeOff 9 none :: TT) ({ frames := 1, cells := 0, slots := 0, locals := 22 } : Room)).room s m ([.ref (mm), .int (nI i), .int (nI j), .int (nI pp), .int (nI E)]).toArray below meth c H locs 0 0 (MQ below (hw_Q D L s.heap.size (fun oc L' f' => oc = .returned none ∧ L = L' ∧ ∃ c', Mb D L f' mm mc ml mg mw mr th c' ns sn wt rr ∧ (∀ q, c' q < 10000) ∧ (∀ q, q < 128 * i ∨ 128 * i + 128 ≤ q → c' q = cs q) ∧ nvb 10000 (nsh c' (128 * i)) (ns i) + E * (nvb 10000 (nsh cs (128 * j)) (ns j) * 10000 ^ pp) = nvb 10000 (nsh cs (128 * i)) (ns i) ∧ Fo mm mc ml mg mw mr f f')) ([.ref (mm), .int (nI i), .int (nI j), .int (nI pp), .int (nI E)]).toArray s 0 0 (hw_A L s.heap.size)) (F0 m 6 ls []) := by
    intro g
    induction g with
    | zero =>
      intro t cr c1 f1 H locs ls htg hcr hB1 ho hS hm hF hI hl
      refine lv_iload hx hb d_Mo_takeOff_6 (lv_at hl 0 rfl) ?_
      refine lv_aload_n hx hb d_Mo_takeOff_8 rfl (lv_at hl 6 rfl) ?_
      refine ob_get S hI hm.1 (C := R_Mo) (T := F_Mo) (N := 6) (ref := "WallFractionsModel") rfl i_Mo 2 (by decide) rfl w_773 rfl d_Mo_takeOff_9 ?_
      refine lv_iload_n hx hb d_Mo_takeOff_12 rfl (lv_at hl 5 rfl) ?_
      refine ia_ld S hI hm.2.2.1 (by decide) (by omega) d_Mo_takeOff_13 ?_
      refine hw_icmp_ge (tgt := 106) hx hb d_Mo_takeOff_14 (by decide) (by omega) (by omega) (fun c108 => ?_) (fun c108 => ?_)
      · have ht : t = N := by omega
        rw [ht, ← hBB, ← hN, Nat.mul_assoc] at hS
        have g3 : nvb 10000 (nsh c1 (128 * i)) (ns i) < 10000 ^ ns i := nvb_lt (fun q _ => hB1 _)
        have hcr0 : cr = 0 := by rcases Nat.eq_zero_or_pos cr with q | q; exact q; have q1 := Nat.le_mul_of_pos_left (10000 ^ ns i) q; omega
        rw [hcr0, Nat.zero_mul, Nat.add_zero] at hS
        exact hw_vret hx hb hr hlocks hI d_Mo_takeOff_106 ⟨rfl, rfl, c1, hm, hB1, fun q hq => ho q (by omega), hS, hF⟩
      · exact absurd c108 (by omega)
    | succ g ih =>
      intro t cr c1 f1 H locs ls htg hcr hB1 ho hS hm hF hI hl
      refine lv_iload hx hb d_Mo_takeOff_6 (lv_at hl 0 rfl) ?_
      refine lv_aload_n hx hb d_Mo_takeOff_8 rfl (lv_at hl 6 rfl) ?_
      refine ob_get S hI hm.1 (C := R_Mo) (T := F_Mo) (N := 6) (ref := "WallFractionsModel") rfl i_Mo 2 (by decide) rfl w_773 rfl d_Mo_takeOff_9 ?_
      refine lv_iload_n hx hb d_Mo_takeOff_12 rfl (lv_at hl 5 rfl) ?_
      refine ia_ld S hI hm.2.2.1 (by decide) (by omega) d_Mo_takeOff_13 ?_
      refine hw_icmp_ge (tgt := 106) hx hb d_Mo_takeOff_14 (by decide) (by omega) (by omega) (fun c109 => ?_) (fun c109 => ?_)
      · exact absurd c109 (by omega)
      · have hrd : c1 (128 * i + (pp + t)) = cs (128 * i + (pp + t)) := ho _ (by omega)
        have hct := hB (128 * i + (pp + t))
        have p2 : pcl c1 ns j t = pcl cs ns j t := pcl_congr (ho _ (by omega))
        have l2 := pcl_lt (n := ns) hB j t
        have hEp : E * pcl cs ns j t ≤ E * 9999 := Nat.mul_le_mul_left E (by omega)
        obtain ⟨ρ, dg, cr9, q1, q2, q3, q4, q5, q6⟩ := tk_step (a := cs (128 * i + (pp + t))) (s := cr + E * pcl cs ns j t) hct (by omega)
        refine lv_aload_n hx hb d_Mo_takeOff_17 rfl (lv_at hl 6 rfl) ?_
        refine ob_get S hI hm.1 (C := R_Mo) (T := F_Mo) (N := 6) (ref := "WallFractionsModel") rfl i_Mo 1 (by decide) rfl w_772 rfl d_Mo_takeOff_18 ?_
        refine lv_sipush (v := nI 128) hx hb d_Mo_takeOff_21 (by decide) ?_
        refine lv_iload_n hx hb d_Mo_takeOff_24 rfl (lv_at hl 5 rfl) ?_
        refine lv_imul hx hb d_Mo_takeOff_25 ?_
        refine hw_ti (pk_mul _ _) ?_
        refine lv_iload hx hb d_Mo_takeOff_26 (lv_at hl 0 rfl) ?_
        refine lv_iadd hx hb d_Mo_takeOff_28 ?_
        refine hw_ti (nI_add _ _) ?_
        refine ia_ld S hI hm.2.1 (by decide) (by omega) d_Mo_takeOff_29 ?_
        refine hw_ti (show _ = nI (cs (128 * i + (pp + t))) from by rw [hrd]) ?_
        refine lv_iload hx hb d_Mo_takeOff_30 (lv_at hl 1 rfl) ?_
        refine lv_isub hx hb d_Mo_takeOff_32 ?_
        refine lv_iload hx hb d_Mo_takeOff_33 (lv_at hl 2 rfl) ?_
        refine lv_aload_n hx hb d_Mo_takeOff_35 rfl (lv_at hl 6 rfl) ?_
        refine lv_iload_n hx hb d_Mo_takeOff_36 rfl (lv_at hl 4 rfl) ?_
        refine lv_iload hx hb d_Mo_takeOff_37 (lv_at hl 0 rfl) ?_
        refine lv_iload_n hx hb d_Mo_takeOff_39 rfl (lv_at hl 3 rfl) ?_
        refine lv_isub hx hb d_Mo_takeOff_40 ?_
        refine hw_ti (pk_sub (by omega)) ?_
        refine hw_ti (show _ = nI t from by rw [Nat.add_sub_cancel_left]) ?_
        refine hw_cV (As := [.int (nI j), .int (nI t)]) (rest := [.int (nI E), .int ((nI (cs (128 * i + (pp + t)))) - (nI cr))]) S hI m_Mo_cell w_822 (c_Mo_cell l D t0 L _ _ mm mc ml mg mw mr th c1 ns sn wt rr j t hm hj (by omega) (by omega)) hm.1 rfl hl.1 rfl rfl (Nat.le_of_ble_eq_true rfl) d_Mo_takeOff_41 ⟨Nat.le_of_ble_eq_true rfl, Nat.le_of_ble_eq_true rfl⟩ ⟨Nat.le_of_ble_eq_true rfl, Nat.le_of_ble_eq_true rfl⟩ (fun v9 L9 f110 H locs hp hI => ?_)
        refine W.cs (cells' := 0) (slots' := 0) rfl rfl ?_
        obtain ⟨hv9, rfl, rfl⟩ := hp
        cases hv9
        refine hw_stk (st' := [.int (nI (pcl c1 ns j t)), .int (nI E), .int ((nI (cs (128 * i + (pp + t)))) - (nI cr))]) rfl ?_
        refine hw_ti (show _ = nI (pcl cs ns j t) from by rw [p2]) ?_
        refine lv_imul hx hb d_Mo_takeOff_44 ?_
        refine hw_ti (pk_mul _ _) ?_
        refine lv_isub hx hb d_Mo_takeOff_45 ?_
        refine hw_ti (show _ = zI ((cs (128 * i + (pp + t)) : Int) - ((cr + E * pcl cs ns j t : Nat) : Int)) from by rw [i32_sub3, zI_nI, zI_nI, zI_sub]) ?_
        refine lv_istore (lv' := [(7, .int (zI ((cs (128 * i + (pp + t)) : Int) - ((cr + E * pcl cs ns j t : Nat) : Int)))), (6, .int (nI (pp + t))), (5, .int (nI cr)), (4, .int (nI E)), (3, .int (nI pp)), (2, .int (nI j)), (1, .int (nI i)), (0, .ref (mm))]) hx hb d_Mo_takeOff_46 hl (by decide) rfl (fun ls hl => ?_)
        refine lv_iload hx hb d_Mo_takeOff_48 (lv_at hl 0 rfl) ?_
        refine lv_sipush (v := nI 10000) hx hb d_Mo_takeOff_50 (by decide) ?_
        refine lv_irem hx hb d_Mo_takeOff_53 (by decide) ?_
        refine hw_ti (show _ = ρ from q1) ?_
        refine lv_istore (lv' := [(8, .int (ρ)), (7, .int (zI ((cs (128 * i + (pp + t)) : Int) - ((cr + E * pcl cs ns j t : Nat) : Int)))), (6, .int (nI (pp + t))), (5, .int (nI cr)), (4, .int (nI E)), (3, .int (nI pp)), (2, .int (nI j)), (1, .int (nI i)), (0, .ref (mm))]) hx hb d_Mo_takeOff_54 hl (by decide) rfl (fun ls hl => ?_)
        refine lv_iload hx hb d_Mo_takeOff_56 (lv_at hl 0 rfl) ?_
        refine lv_if_ge (tgt := 70) hx hb d_Mo_takeOff_58 (by decide) (fun c111 => ?_) (fun c111 => ?_)
        · refine lv_iload hx hb d_Mo_takeOff_70 (lv_at hl 0 rfl) ?_
          refine hw_ti (show _ = nI dg from q2 c111) ?_
          refine lv_istore (lv' := [(8, .int (nI dg)), (7, .int (zI ((cs (128 * i + (pp + t)) : Int) - ((cr + E * pcl cs ns j t : Nat) : Int)))), (6, .int (nI (pp + t))), (5, .int (nI cr)), (4, .int (nI E)), (3, .int (nI pp)), (2, .int (nI j)), (1, .int (nI i)), (0, .ref (mm))]) hx hb d_Mo_takeOff_72 hl (by decide) rfl (fun ls hl => ?_)
          refine lv_iload hx hb d_Mo_takeOff_74 (lv_at hl 0 rfl) ?_
          refine lv_iload hx hb d_Mo_takeOff_76 (lv_at hl 1 rfl) ?_
          refine lv_isub hx hb d_Mo_takeOff_78 ?_
          refine lv_sipush (v := nI 10000) hx hb d_Mo_takeOff_79 (by decide) ?_
          refine lv_idiv hx hb d_Mo_takeOff_82 (by decide) ?_
          refine hw_ti (show _ = nI cr9 from q4) ?_
          refine lv_istore (lv' := [(5, .int (nI cr9)), (8, .int (nI dg)), (7, .int (zI ((cs (128 * i + (pp + t)) : Int) - ((cr + E * pcl cs ns j t : Nat) : Int)))), (6, .int (nI (pp + t))), (4, .int (nI E)), (3, .int (nI pp)), (2, .int (nI j)), (1, .int (nI i)), (0, .ref (mm))]) hx hb d_Mo_takeOff_83 hl (by decide) rfl (fun ls hl => ?_)
          refine lv_aload_n hx hb d_Mo_takeOff_85 rfl (lv_at hl 8 rfl) ?_
          refine ob_get S hI hm.1 (C := R_Mo) (T := F_Mo) (N := 6) (ref := "WallFractionsModel") rfl i_Mo 1 (by decide) rfl w_772 rfl d_Mo_takeOff_86 ?_
          refine lv_sipush (v := nI 128) hx hb d_Mo_takeOff_89 (by decide) ?_
          refine lv_iload_n hx hb d_Mo_takeOff_92 rfl (lv_at hl 7 rfl) ?_
          refine lv_imul hx hb d_Mo_takeOff_93 ?_
          refine hw_ti (pk_mul _ _) ?_
          refine lv_iload hx hb d_Mo_takeOff_94 (lv_at hl 3 rfl) ?_
          refine lv_iadd hx hb d_Mo_takeOff_96 ?_
          refine hw_ti (nI_add _ _) ?_
          refine lv_iload hx hb d_Mo_takeOff_97 (lv_at hl 1 rfl) ?_
          refine ia_st S hI hm.2.1 (by decide) (by omega) d_Mo_takeOff_99 (fun f112 H locs hI hR9 hf112 => ?_)
          have hm := hm.umc hf112 hR9
          have hF := hF.umc hf112
          refine lv_iinc (v := nI ((pp + t) + 1)) (lv' := [(6, .int (nI ((pp + t) + 1))), (5, .int (nI cr9)), (8, .int (nI dg)), (7, .int (zI ((cs (128 * i + (pp + t)) : Int) - ((cr + E * pcl cs ns j t : Nat) : Int)))), (4, .int (nI E)), (3, .int (nI pp)), (2, .int (nI j)), (1, .int (nI i)), (0, .ref (mm))]) hx hb d_Mo_takeOff_100 hl (k := 3) rfl (nI_1 _) (by decide) rfl (fun ls hl => ?_)
          refine lv_goto (tgt := 6) hx hb d_Mo_takeOff_103 (by decide) ?_
          exact ih (t + 1) cr9 _ _ _ _ _ (by omega) (by omega) (upB hB1 q5) (fun q hq => by rw [hw_up_ne (by omega)]; exact ho q (by omega)) (by rw [nsh_upc]; exact tk_inv hS q6) hm hF hI (lv_sub hl [0, 1, 4, 5, 6, 7, 8] rfl)
        · refine lv_iload hx hb d_Mo_takeOff_61 (lv_at hl 0 rfl) ?_
          refine lv_sipush (v := nI 10000) hx hb d_Mo_takeOff_63 (by decide) ?_
          refine lv_iadd hx hb d_Mo_takeOff_66 ?_
          refine lv_goto (tgt := 72) hx hb d_Mo_takeOff_67 (by decide) ?_
          refine hw_ti (show _ = nI dg from q3 c111) ?_
          refine lv_istore (lv' := [(8, .int (nI dg)), (7, .int (zI ((cs (128 * i + (pp + t)) : Int) - ((cr + E * pcl cs ns j t : Nat) : Int)))), (6, .int (nI (pp + t))), (5, .int (nI cr)), (4, .int (nI E)), (3, .int (nI pp)), (2, .int (nI j)), (1, .int (nI i)), (0, .ref (mm))]) hx hb d_Mo_takeOff_72 hl (by decide) rfl (fun ls hl => ?_)
          refine lv_iload hx hb d_Mo_takeOff_74 (lv_at hl 0 rfl) ?_
          refine lv_iload hx hb d_Mo_takeOff_76 (lv_at hl 1 rfl) ?_
          refine lv_isub hx hb d_Mo_takeOff_78 ?_
          refine lv_sipush (v := nI 10000) hx hb d_Mo_takeOff_79 (by decide) ?_
          refine lv_idiv hx hb d_Mo_takeOff_82 (by decide) ?_
          refine hw_ti (show _ = nI cr9 from q4) ?_
          refine lv_istore (lv' := [(5, .int (nI cr9)), (8, .int (nI dg)), (7, .int (zI ((cs (128 * i + (pp + t)) : Int) - ((cr + E * pcl cs ns j t : Nat) : Int)))), (6, .int (nI (pp + t))), (4, .int (nI E)), (3, .int (nI pp)), (2, .int (nI j)), (1, .int (nI i)), (0, .ref (mm))]) hx hb d_Mo_takeOff_83 hl (by decide) rfl (fun ls hl => ?_)
          refine lv_aload_n hx hb d_Mo_takeOff_85 rfl (lv_at hl 8 rfl) ?_
          refine ob_get S hI hm.1 (C := R_Mo) (T := F_Mo) (N := 6) (ref := "WallFractionsModel") rfl i_Mo 1 (by decide) rfl w_772 rfl d_Mo_takeOff_86 ?_
          refine lv_sipush (v := nI 128) hx hb d_Mo_takeOff_89 (by decide) ?_
          refine lv_iload_n hx hb d_Mo_takeOff_92 rfl (lv_at hl 7 rfl) ?_
          refine lv_imul hx hb d_Mo_takeOff_93 ?_
          refine hw_ti (pk_mul _ _) ?_
          refine lv_iload hx hb d_Mo_takeOff_94 (lv_at hl 3 rfl) ?_
          refine lv_iadd hx hb d_Mo_takeOff_96 ?_
          refine hw_ti (nI_add _ _) ?_
          refine lv_iload hx hb d_Mo_takeOff_97 (lv_at hl 1 rfl) ?_
          refine ia_st S hI hm.2.1 (by decide) (by omega) d_Mo_takeOff_99 (fun f113 H locs hI hR9 hf113 => ?_)
          have hm := hm.umc hf113 hR9
          have hF := hF.umc hf113
          refine lv_iinc (v := nI ((pp + t) + 1)) (lv' := [(6, .int (nI ((pp + t) + 1))), (5, .int (nI cr9)), (8, .int (nI dg)), (7, .int (zI ((cs (128 * i + (pp + t)) : Int) - ((cr + E * pcl cs ns j t : Nat) : Int)))), (4, .int (nI E)), (3, .int (nI pp)), (2, .int (nI j)), (1, .int (nI i)), (0, .ref (mm))]) hx hb d_Mo_takeOff_100 hl (k := 3) rfl (nI_1 _) (by decide) rfl (fun ls hl => ?_)
          refine lv_goto (tgt := 6) hx hb d_Mo_takeOff_103 (by decide) ?_
          exact ih (t + 1) cr9 _ _ _ _ _ (by omega) (by omega) (upB hB1 q5) (fun q hq => by rw [hw_up_ne (by omega)]; exact ho q (by omega)) (by rw [nsh_upc]; exact tk_inv hS q6) hm hF hI (lv_sub hl [0, 1, 4, 5, 6, 7, 8] rfl)
  refine lv_iconst (v := nI 0) hx hb d_Mo_takeOff_0 (by decide) ?_
  refine lv_istore (lv' := [(5, .int (nI 0)), (0, .ref (mm)), (1, .int (nI i)), (2, .int (nI j)), (3, .int (nI pp)), (4, .int (nI E))]) hx hb d_Mo_takeOff_1 hl (by decide) rfl (fun ls hl => ?_)
  refine lv_iload_n hx hb d_Mo_takeOff_3 rfl (lv_at hl 4 rfl) ?_
  refine lv_istore (lv' := [(6, .int (nI pp)), (5, .int (nI 0)), (0, .ref (mm)), (1, .int (nI i)), (2, .int (nI j)), (3, .int (nI pp)), (4, .int (nI E))]) hx hb d_Mo_takeOff_4 hl (by decide) rfl (fun ls hl => ?_)
  exact loop N 0 0 cs _ _ _ _ (by omega) (Nat.zero_le _) hB (fun _ _ => rfl) (by simp [nvb_zero]) hm hF hI (lv_sub hl [0, 1, 6, 5, 4, 3, 2] rfl)
set_option maxHeartbeats 4000000 in
set_option maxRecDepth 100000 in
theorem c_Mo_part (l : Launch) (D : va_G) (t0 : Nat) (L : List Nat) (f : Nat → va_E) (sz : Nat) (mm mc ml mg mw mr : Nat) (th : Int32) (y : Nat → Nat) (sn : Nat → Int32) (wt rr : Nat → Nat) (i j q : Nat) (hn : Mn D L f mm mc ml mg mw mr th y sn wt rr) (hi : i < 50) (hj : j < 50) (hq : q < 50) (hij : i ≠ j) (hiq : i ≠ q) (hjq : j ≠ q) (hpos : 0 < y j) : Met l y_Mo_part (Cond.code y_Mo_part b_Mo_part 14 none :: TT) ({ frames := 2, cells := 0, slots := 0, locals := 50 } : Room) (hw_Pc t0 [.ref (mm), .int (nI i), .int (nI j), .int (nI q)] D L f sz) (hw_Q D L sz (fun oc L' f' => oc = .returned none ∧ L = L' ∧ Mn D L f' mm mc ml mg mw mr th (va_up (va_up y i (y i % y j)) q (y i / y j)) sn wt rr ∧ Fo mm mc ml mg mw mr f f')) 0 0 (hw_A L sz) := by
  refine Met.ofW (cc := b_Mo_part) (maxL := 14) (ret := none) (by decide) rfl ?_
  intro p e s m args below meth c s₁ B hml hv
  obtain ⟨rfl, rfl, hI⟩ := hw_start hv
  clear hv
  have hx := B.exec
  have hb := B.bytes
  have hr := B.returns
  have hlocks := B.notSynchronized
  have hown : s.vm.findClass "WallFractionsModel" = some m.cls := findClass_of_methodNamed B.named
  have hT : ∀ w ∈ TT, w.before ([.ref (mm), .int (nI i), .int (nI j), .int (nI q)]).toArray s = true := fun w h => atoms_spec (ws := (Cond.code y_Mo_part b_Mo_part 14 none :: TT)) B.pre w (List.mem_cons_of_mem _ h)
  have S : CallFix p m c b_Mo_part 14 s ([.ref (mm), .int (nI i), .int (nI j), .int (nI q)]).toArray TT "WallFractionsModel" := ⟨hx, hb, hml, hown, hT⟩
  have hl := lv_entry ([.ref (mm), .int (nI i), .int (nI j), .int (nI q)]) (n := 14) (Nat.le_of_ble_eq_true rfl)
  rw [lg_entry_eq]
  generalize (lg_sl ([.ref (mm), .int (nI i), .int (nI j), .int (nI q)]) ++ List.replicate (14 - (lg_sl ([.ref (mm), .int (nI i), .int (nI j), .int (nI q)])).length) Slot.unset).toArray = ls at hl ⊢
  have hl : lv_has ls 14 [(0, .ref (mm)), (1, .int (nI i)), (2, .int (nI j)), (3, .int (nI q))] := hl
  skip
  obtain ⟨cs, ns, hm, hc⟩ := hn
  have hF : Fo mm mc ml mg mw mr f f := Fo.refl
  have h1 := (hc.2 i hi).1
  have h2 := (hc.2 j hj).1
  have hNj : 0 < ns j := Nat.pos_of_ne_zero (fun h => absurd (((hc.2 j hj).2.zero mpos).mp h) (by omega))
  have hyi : nvb 10000 (nsh cs (128 * i)) (ns i) = y i := (hc.2 i hi).2.2.2
  have hyj : nvb 10000 (nsh cs (128 * j)) (ns j) = y j := (hc.2 j hj).2.2.2
  have hyjl : y j < 10000 ^ ns j := hc.lt hj
  rcases Nat.lt_or_ge (ns i) (ns j) with hlt | hge
  · have hneg := (i32_sub_lt (u := ns i) (w := ns j) (by omega) (by omega)).mpr hlt
    have hlt9 : y i < y j := nOk_lt m1 (hc.2 i hi).2 (hc.2 j hj).2 hlt
    refine lv_aload_n hx hb d_Mo_part_0 rfl (lv_at hl 0 rfl) ?_
    refine ob_get S hI hm.1 (C := R_Mo) (T := F_Mo) (N := 6) (ref := "WallFractionsModel") rfl i_Mo 2 (by decide) rfl w_773 rfl d_Mo_part_1 ?_
    refine lv_iload_n hx hb d_Mo_part_4 rfl (lv_at hl 2 rfl) ?_
    refine ia_ld S hI hm.2.2.1 (by decide) (by omega) d_Mo_part_5 ?_
    refine lv_istore (lv' := [(4, .int (nI (ns j))), (0, .ref (mm)), (1, .int (nI i)), (2, .int (nI j)), (3, .int (nI q))]) hx hb d_Mo_part_6 hl (by decide) rfl (fun ls hl => ?_)
    refine lv_aload_n hx hb d_Mo_part_8 rfl (lv_at hl 1 rfl) ?_
    refine ob_get S hI hm.1 (C := R_Mo) (T := F_Mo) (N := 6) (ref := "WallFractionsModel") rfl i_Mo 2 (by decide) rfl w_773 rfl d_Mo_part_9 ?_
    refine lv_iload_n hx hb d_Mo_part_12 rfl (lv_at hl 2 rfl) ?_
    refine ia_ld S hI hm.2.2.1 (by decide) (by omega) d_Mo_part_13 ?_
    refine lv_iload hx hb d_Mo_part_14 (lv_at hl 0 rfl) ?_
    refine lv_isub hx hb d_Mo_part_16 ?_
    refine lv_istore (lv' := [(5, .int ((nI (ns i)) - (nI (ns j)))), (4, .int (nI (ns j))), (0, .ref (mm)), (1, .int (nI i)), (2, .int (nI j)), (3, .int (nI q))]) hx hb d_Mo_part_17 hl (by decide) rfl (fun ls hl => ?_)
    refine lv_iconst (v := nI 0) hx hb d_Mo_part_19 (by decide) ?_
    refine lv_istore (lv' := [(6, .int (nI 0)), (5, .int ((nI (ns i)) - (nI (ns j)))), (4, .int (nI (ns j))), (0, .ref (mm)), (1, .int (nI i)), (2, .int (nI j)), (3, .int (nI q))]) hx hb d_Mo_part_20 hl (by decide) rfl (fun ls hl => ?_)
    refine lv_iload hx hb d_Mo_part_22 (lv_at hl 0 rfl) ?_
    refine lv_iload hx hb d_Mo_part_24 (lv_at hl 1 rfl) ?_
    refine lv_icmp_gt (tgt := 49) hx hb d_Mo_part_26 (by decide) (fun c114 => ?_) (fun c114 => ?_)
    · refine lv_iload hx hb d_Mo_part_49 (lv_at hl 1 rfl) ?_
      refine lv_istore (lv' := [(6, .int ((nI (ns i)) - (nI (ns j)))), (5, .int ((nI (ns i)) - (nI (ns j)))), (4, .int (nI (ns j))), (0, .ref (mm)), (1, .int (nI i)), (2, .int (nI j)), (3, .int (nI q))]) hx hb d_Mo_part_51 hl (by decide) rfl (fun ls hl => ?_)
      refine lv_iload hx hb d_Mo_part_53 (lv_at hl 0 rfl) ?_
      refine lv_if_lt (tgt := 267) hx hb d_Mo_part_55 (by decide) (fun c115 => ?_) (fun c115 => ?_)
      · refine lv_aload_n hx hb d_Mo_part_267 rfl (lv_at hl 3 rfl) ?_
        refine lv_iload_n hx hb d_Mo_part_268 rfl (lv_at hl 4 rfl) ?_
        refine lv_aload_n hx hb d_Mo_part_269 rfl (lv_at hl 3 rfl) ?_
        refine ob_get S hI hm.1 (C := R_Mo) (T := F_Mo) (N := 6) (ref := "WallFractionsModel") rfl i_Mo 2 (by decide) rfl w_773 rfl d_Mo_part_270 ?_
        refine lv_iload_n hx hb d_Mo_part_273 rfl (lv_at hl 4 rfl) ?_
        refine ia_ld S hI hm.2.2.1 (by decide) (by omega) d_Mo_part_274 ?_
        refine hw_cV (As := [.int (nI i), .int (nI (ns i))]) (rest := []) S hI m_Mo_trim w_834 (c_Mo_trim l D t0 L _ _ mm mc ml mg mw mr th cs ns sn wt rr i (ns i) hm hi (by omega) hc.1) hm.1 rfl hl.1 rfl rfl (Nat.le_of_ble_eq_true rfl) d_Mo_part_275 ⟨Nat.le_of_ble_eq_true rfl, Nat.le_of_ble_eq_true rfl⟩ ⟨Nat.le_of_ble_eq_true rfl, Nat.le_of_ble_eq_true rfl⟩ (fun v9 L9 f116 H locs hp hI => ?_)
        refine W.cs (cells' := 0) (slots' := 0) rfl rfl ?_
        obtain ⟨hv9, rfl, n9, hn9, hk9, hm, hF9⟩ := hp
        cases hv9
        refine hw_stk (st' := []) rfl ?_
        refine lv_aload_n hx hb d_Mo_part_278 rfl (lv_at hl 3 rfl) ?_
        refine lv_iload_n hx hb d_Mo_part_279 rfl (lv_at hl 6 rfl) ?_
        refine lv_iload hx hb d_Mo_part_280 (lv_at hl 1 rfl) ?_
        refine lv_if_ge (tgt := 289) hx hb d_Mo_part_282 (by decide) (fun c117 => ?_) (fun c117 => ?_)
        · exact absurd hneg (Int32.not_lt.mpr c117)
        · refine lv_iconst (v := nI 0) hx hb d_Mo_part_285 (by decide) ?_
          refine lv_goto (tgt := 293) hx hb d_Mo_part_286 (by decide) ?_
          refine hw_cV (As := [.int (nI q), .int (nI 0)]) (rest := []) S hI m_Mo_trim w_834 (c_Mo_trim l D t0 L _ _ mm mc ml mg mw mr th cs (va_up ns i n9) sn wt rr q 0 hm hq (by omega) hc.1) hm.1 rfl hl.1 rfl rfl (Nat.le_of_ble_eq_true rfl) d_Mo_part_293 ⟨Nat.le_of_ble_eq_true rfl, Nat.le_of_ble_eq_true rfl⟩ ⟨Nat.le_of_ble_eq_true rfl, Nat.le_of_ble_eq_true rfl⟩ (fun v9 L9 f118 H locs hp hI => ?_)
          refine W.cs (cells' := 0) (slots' := 0) rfl rfl ?_
          obtain ⟨hv9, rfl, n8, hn8, hk8, hm, hF8⟩ := hp
          cases hv9
          refine hw_stk (st' := []) rfl ?_
          rw [hyi] at hk9
          rw [nvb_zero] at hk8
          have hfin : Mc cs (va_up (va_up ns i n9) q n8) (va_up (va_up y i (y i % y j)) q (y i / y j)) := by rw [Nat.mod_eq_of_lt hlt9, Nat.div_eq_of_lt hlt9]; exact hc.up2 hc.1 (fun _ _ _ => rfl) (by omega : n9 ≤ 128) (by omega : n8 ≤ 128) hk9 hk8
          exact hw_vret hx hb hr hlocks hI d_Mo_part_296 ⟨rfl, rfl, ⟨_, _, hm, hfin⟩, (hF.trans hF9).trans hF8⟩
      · exact absurd hneg c115
    · exact absurd hneg c114
  · obtain ⟨U, hU⟩ : ∃ U, ns i = ns j + U := ⟨ns i - ns j, by omega⟩
    have outer : ∀ (t : Nat) (c1 : Nat → Nat) (f1 : Nat → va_E) (H : Heap) (locs : List Loc) (ls : Array Slot), t ≤ U + 1 → (∀ k, c1 k < 10000) → (∀ k, (k < 128 * i ∨ 128 * i + 128 ≤ k) → (k < 128 * q ∨ 128 * q + 128 ≤ k) → c1 k = cs k) → nvb 10000 (nsh c1 (128 * q)) (U + 1) * y j + nvb 10000 (nsh c1 (128 * i)) (ns i) = y i → nvb 10000 (nsh c1 (128 * i)) (ns i) < y j * 10000 ^ t → (∀ k, k < t → c1 (128 * q + k) = 0) → Mb D L f1 mm mc ml mg mw mr th c1 ns sn wt rr → Fo mm mc ml mg mw mr f f1 → hw_I D t0 (hw_A L s.heap.size) s L f1 H locs → lv_has ls 14 [(6, .int (mI t)), (5, .int (nI U)), (4, .int (nI (ns j))), (3, .int (nI q)), (2, .int (nI j)), (1, .int (nI i)), (0, .ref (mm))] → W p l e (headSpec (Cond.code y_Mo_part b_Mo_part 14 none :: TT) ({ frames := 2, cells := 0, slots := 0, locals := 50 } : Room)).room s m ([.ref (mm), .int (nI i), .int (nI j), .int (nI q)]).toArray below meth c H locs 0 0 (MQ below (hw_Q D L s.heap.size (fun oc L' f' => oc = .returned none ∧ L = L' ∧ Mn D L f' mm mc ml mg mw mr th (va_up (va_up y i (y i % y j)) q (y i / y j)) sn wt rr ∧ Fo mm mc ml mg mw mr f f')) ([.ref (mm), .int (nI i), .int (nI j), .int (nI q)]).toArray s 0 0 (hw_A L s.heap.size)) (F0 m 53 ls []) := by
      intro t
      induction t with
      | zero =>
        intro c1 f1 H locs ls ht hB ho hV hlt hz hm hF hI hl
        rw [Nat.pow_zero, Nat.mul_one] at hlt
        obtain ⟨e1, e2⟩ := qr_of hV hlt
        refine lv_iload hx hb d_Mo_part_53 (lv_at hl 0 rfl) ?_
        refine hw_m0 (tgt := 267) hx hb d_Mo_part_55 (by decide) ?_
        refine lv_aload_n hx hb d_Mo_part_267 rfl (lv_at hl 6 rfl) ?_
        refine lv_iload_n hx hb d_Mo_part_268 rfl (lv_at hl 5 rfl) ?_
        refine lv_aload_n hx hb d_Mo_part_269 rfl (lv_at hl 6 rfl) ?_
        refine ob_get S hI hm.1 (C := R_Mo) (T := F_Mo) (N := 6) (ref := "WallFractionsModel") rfl i_Mo 2 (by decide) rfl w_773 rfl d_Mo_part_270 ?_
        refine lv_iload_n hx hb d_Mo_part_273 rfl (lv_at hl 5 rfl) ?_
        refine ia_ld S hI hm.2.2.1 (by decide) (by omega) d_Mo_part_274 ?_
        refine hw_cV (As := [.int (nI i), .int (nI (ns i))]) (rest := []) S hI m_Mo_trim w_834 (c_Mo_trim l D t0 L _ _ mm mc ml mg mw mr th c1 ns sn wt rr i (ns i) hm hi (by omega) hB) hm.1 rfl hl.1 rfl rfl (Nat.le_of_ble_eq_true rfl) d_Mo_part_275 ⟨Nat.le_of_ble_eq_true rfl, Nat.le_of_ble_eq_true rfl⟩ ⟨Nat.le_of_ble_eq_true rfl, Nat.le_of_ble_eq_true rfl⟩ (fun v9 L9 f119 H locs hp hI => ?_)
        refine W.cs (cells' := 0) (slots' := 0) rfl rfl ?_
        obtain ⟨hv9, rfl, n9, hn9, hk9, hm, hF9⟩ := hp
        cases hv9
        refine hw_stk (st' := []) rfl ?_
        refine lv_aload_n hx hb d_Mo_part_278 rfl (lv_at hl 6 rfl) ?_
        refine lv_iload_n hx hb d_Mo_part_279 rfl (lv_at hl 3 rfl) ?_
        refine lv_iload hx hb d_Mo_part_280 (lv_at hl 1 rfl) ?_
        refine lv_if_ge (tgt := 289) hx hb d_Mo_part_282 (by decide) (fun c120 => ?_) (fun c120 => ?_)
        · refine lv_iload hx hb d_Mo_part_289 (lv_at hl 1 rfl) ?_
          refine lv_iconst (v := nI 1) hx hb d_Mo_part_291 (by decide) ?_
          refine lv_iadd hx hb d_Mo_part_292 ?_
          refine hw_ti (nI_add _ _) ?_
          refine hw_cV (As := [.int (nI q), .int (nI (U + 1))]) (rest := []) S hI m_Mo_trim w_834 (c_Mo_trim l D t0 L _ _ mm mc ml mg mw mr th c1 (va_up ns i n9) sn wt rr q (U + 1) hm hq (by omega) hB) hm.1 rfl hl.1 rfl rfl (Nat.le_of_ble_eq_true rfl) d_Mo_part_293 ⟨Nat.le_of_ble_eq_true rfl, Nat.le_of_ble_eq_true rfl⟩ ⟨Nat.le_of_ble_eq_true rfl, Nat.le_of_ble_eq_true rfl⟩ (fun v9 L9 f121 H locs hp hI => ?_)
          refine W.cs (cells' := 0) (slots' := 0) rfl rfl ?_
          obtain ⟨hv9, rfl, n8, hn8, hk8, hm, hF8⟩ := hp
          cases hv9
          refine hw_stk (st' := []) rfl ?_
          rw [e1] at hk9
          rw [e2] at hk8
          exact hw_vret hx hb hr hlocks hI d_Mo_part_296 ⟨rfl, rfl, ⟨_, _, hm, hc.up2 hB ho (by omega) (by omega) hk9 hk8⟩, (hF.trans hF9).trans hF8⟩
        · exact absurd (nI_pos' (by omega)) c120
      | succ t ih =>
        intro c1 f1 H locs ls ht hB ho hV hlt hz hm hF hI hl
        rw [mI_s] at hl
        refine lv_iload hx hb d_Mo_part_53 (lv_at hl 0 rfl) ?_
        refine hw_if_lt (tgt := 267) hx hb d_Mo_part_55 (by decide) (by omega) ?_
        obtain ⟨P, hP⟩ : ∃ P, P = y j * 10000 ^ t := ⟨_, rfl⟩
        have hP0 : 0 < P := by rw [hP]; exact Nat.mul_pos hpos (Nat.pow_pos mpos)
        have hA1 : nvb 10000 (nsh c1 (128 * i)) (ns i) < 10000 * P := by rw [hP]; rw [Nat.pow_succ, ← Nat.mul_assoc, Nat.mul_comm _ 10000] at hlt; exact hlt
        have hPM : 10000 * P < 10000 ^ (t + ns j + 1) := by rw [hP, show t + ns j + 1 = ns j + (t + 1) by omega, Nat.pow_add, Nat.pow_succ, ← Nat.mul_assoc, Nat.mul_comm 10000, Nat.mul_assoc, Nat.mul_comm 10000]; first | exact Nat.mul_lt_mul_of_pos_right hyjl (Nat.mul_pos (Nat.pow_pos mpos) mpos) | (rw [← Nat.mul_assoc]; exact Nat.mul_lt_mul_of_pos_right hyjl (Nat.mul_pos (Nat.pow_pos mpos) mpos))
        have inner : ∀ (g dg : Nat) (c2 : Nat → Nat) (f1 : Nat → va_E) (H : Heap) (locs : List Loc) (ls : Array Slot), nvb 10000 (nsh c2 (128 * i)) (ns i) < (g + 1) * P → (∀ k, c2 k < 10000) → (∀ k, k < 128 * i ∨ 128 * i + 128 ≤ k → c2 k = c1 k) → nvb 10000 (nsh c2 (128 * i)) (ns i) + dg * P = nvb 10000 (nsh c1 (128 * i)) (ns i) → Mb D L f1 mm mc ml mg mw mr th c2 ns sn wt rr → Fo mm mc ml mg mw mr f f1 → hw_I D t0 (hw_A L s.heap.size) s L f1 H locs → lv_has ls 14 [(8, .int (nI 1)), (7, .int (nI dg)), (6, .int (nI t)), (5, .int (nI U)), (4, .int (nI (ns j))), (3, .int (nI q)), (2, .int (nI j)), (1, .int (nI i)), (0, .ref (mm))] → W p l e (headSpec (Cond.code y_Mo_part b_Mo_part 14 none :: TT) ({ frames := 2, cells := 0, slots := 0, locals := 50 } : Room)).room s m ([.ref (mm), .int (nI i), .int (nI j), .int (nI q)]).toArray below meth c H locs 0 0 (MQ below (hw_Q D L s.heap.size (fun oc L' f' => oc = .returned none ∧ L = L' ∧ Mn D L f' mm mc ml mg mw mr th (va_up (va_up y i (y i % y j)) q (y i / y j)) sn wt rr ∧ Fo mm mc ml mg mw mr f f')) ([.ref (mm), .int (nI i), .int (nI j), .int (nI q)]).toArray s 0 0 (hw_A L s.heap.size)) (F0 m 64 ls []) := by
          intro g
          induction g with
          | zero =>
            intro dg c2 f2 H locs ls hg hB2 ho2 hV2 hm hF hI hl
            have hyj2 : nvb 10000 (nsh c2 (128 * j)) (ns j) = y j := by rw [← hyj]; exact nvb_congr (fun k hk => (ho2 _ (by omega)).trans (ho _ (by omega) (by omega)))
            obtain ⟨A, hA⟩ : ∃ A, A = nvb 10000 (nsh c2 (128 * i)) (ns i) := ⟨_, rfl⟩
            rw [← hA] at hg hV2
            have hAM : A < 10000 * P := by omega
            obtain ⟨a2, ha2⟩ : ∃ z9, z9 = A / 10000 ^ (t + ns j) % 10000 := ⟨_, rfl⟩
            have ka2 : a2 < 10000 := by rw [ha2]; exact Nat.mod_lt _ mpos
            obtain ⟨a1, ha1⟩ : ∃ z9, z9 = A / 10000 ^ (t + ns j - 1) % 10000 := ⟨_, rfl⟩
            have ka1 : a1 < 10000 := by rw [ha1]; exact Nat.mod_lt _ mpos
            obtain ⟨a0, ha0⟩ : ∃ z9, z9 = if t + ns j < 2 then 0 else A / 10000 ^ (t + ns j - 2) % 10000 := ⟨_, rfl⟩
            have ka0 : a0 < 10000 := by rw [ha0]; split; decide; exact Nat.mod_lt _ mpos
            obtain ⟨b1, hb1⟩ : ∃ z9, z9 = y j / 10000 ^ (ns j - 1) % 10000 := ⟨_, rfl⟩
            have kb1 : b1 < 10000 := by rw [hb1]; exact Nat.mod_lt _ mpos
            obtain ⟨b0, hb0⟩ : ∃ z9, z9 = if ns j < 2 then 0 else y j / 10000 ^ (ns j - 2) % 10000 := ⟨_, rfl⟩
            have kb0 : b0 < 10000 := by rw [hb0]; split; decide; exact Nat.mod_lt _ mpos
            have hest : ((a2 * 10000 + a1) * 10000 + a0) / (b1 * 10000 + b0 + 1) * P ≤ A := by rw [ha2, ha1, ha0, hb1, hb0, hP]; exact est hNj (by omega) hyjl
            have elt : ∀ E, E * P ≤ A → E < 10000 := fun E h => Nat.lt_of_mul_lt_mul_right (a := P) (by omega)
            have tail : ∀ (E : Nat) (f1 : Nat → va_E) (H : Heap) (locs : List Loc) (ls : Array Slot), E * P ≤ A → (E = 0 → A < P) → f2 = f1 → hw_I D t0 (hw_A L s.heap.size) s L f1 H locs → lv_has ls 14 [(13, .int (nI E)), (7, .int (nI dg)), (6, .int (nI t)), (5, .int (nI U)), (4, .int (nI (ns j))), (3, .int (nI q)), (2, .int (nI j)), (1, .int (nI i)), (0, .ref (mm))] → W p l e (headSpec (Cond.code y_Mo_part b_Mo_part 14 none :: TT) ({ frames := 2, cells := 0, slots := 0, locals := 50 } : Room)).room s m ([.ref (mm), .int (nI i), .int (nI j), .int (nI q)]).toArray below meth c H locs 0 0 (MQ below (hw_Q D L s.heap.size (fun oc L' f' => oc = .returned none ∧ L = L' ∧ Mn D L f' mm mc ml mg mw mr th (va_up (va_up y i (y i % y j)) q (y i / y j)) sn wt rr ∧ Fo mm mc ml mg mw mr f f')) ([.ref (mm), .int (nI i), .int (nI j), .int (nI q)]).toArray s 0 0 (hw_A L s.heap.size)) (F0 m 214 ls []) := by
              intro E f3 H locs ls hE hE0 hf hI hl
              subst hf
              have hE9 := elt E hE
              refine lv_aload_n hx hb d_Mo_part_214 rfl (lv_at hl 8 rfl) ?_
              refine lv_iload_n hx hb d_Mo_part_215 rfl (lv_at hl 7 rfl) ?_
              refine lv_iload_n hx hb d_Mo_part_216 rfl (lv_at hl 6 rfl) ?_
              refine lv_iload hx hb d_Mo_part_217 (lv_at hl 2 rfl) ?_
              refine lv_iload hx hb d_Mo_part_219 (lv_at hl 0 rfl) ?_
              refine hw_cV (As := [.int (nI i), .int (nI j), .int (nI t), .int (nI E)]) (rest := []) S hI m_Mo_takeOff w_830 (c_Mo_takeOff l D t0 L _ _ mm mc ml mg mw mr th c2 ns sn wt rr i j t E hm hi hj hij hB2 h1 (by omega) (by omega) (by rw [hyj2, ← hP, ← hA]; exact hE)) hm.1 rfl hl.1 rfl rfl (Nat.le_of_ble_eq_true rfl) d_Mo_part_221 ⟨Nat.le_of_ble_eq_true rfl, Nat.le_of_ble_eq_true rfl⟩ ⟨Nat.le_of_ble_eq_true rfl, Nat.le_of_ble_eq_true rfl⟩ (fun v9 L9 f122 H locs hp hI => ?_)
              refine W.cs (cells' := 0) (slots' := 0) rfl rfl ?_
              obtain ⟨hv9, rfl, c3, hm, hB3, ho3, hV3, hF9⟩ := hp
              cases hv9
              refine hw_stk (st' := []) rfl ?_
              rw [hyj2, ← hP, ← hA] at hV3
              have hF := hF.trans hF9
              have hdE : (dg + E) * P = dg * P + E * P := Nat.add_mul _ _ _
              have hdl : dg + E < 10000 := Nat.lt_of_mul_lt_mul_right (a := P) (by omega)
              refine lv_iload hx hb d_Mo_part_224 (lv_at hl 1 rfl) ?_
              refine lv_iload hx hb d_Mo_part_226 (lv_at hl 0 rfl) ?_
              refine lv_iadd hx hb d_Mo_part_228 ?_
              refine hw_ti (nI_add _ _) ?_
              refine lv_istore (lv' := [(7, .int (nI (dg + E))), (13, .int (nI E)), (6, .int (nI t)), (5, .int (nI U)), (4, .int (nI (ns j))), (3, .int (nI q)), (2, .int (nI j)), (1, .int (nI i)), (0, .ref (mm))]) hx hb d_Mo_part_229 hl (by decide) rfl (fun ls hl => ?_)
              refine lv_iload hx hb d_Mo_part_231 (lv_at hl 1 rfl) ?_
              refine hw_if_le (tgt := 240) hx hb d_Mo_part_233 (by decide) (by omega) (fun c123 => ?_) (fun c123 => ?_)
              · have hE1 : E = 0 := by omega
                have hAP := hE0 hE1
                have hEz : E * P = 0 := by rw [hE1, Nat.zero_mul]
                refine lv_iconst (v := nI 0) hx hb d_Mo_part_240 (by decide) ?_
                refine lv_istore (lv' := [(8, .int (nI 0)), (7, .int (nI (dg + E))), (13, .int (nI E)), (6, .int (nI t)), (5, .int (nI U)), (4, .int (nI (ns j))), (3, .int (nI q)), (2, .int (nI j)), (1, .int (nI i)), (0, .ref (mm))]) hx hb d_Mo_part_241 hl (by decide) rfl (fun ls hl => ?_)
                refine lv_goto (tgt := 64) hx hb d_Mo_part_243 (by decide) ?_
                refine lv_iload hx hb d_Mo_part_64 (lv_at hl 0 rfl) ?_
                refine hw_if_eq (tgt := 246) hx hb d_Mo_part_66 (by decide) (by omega) (fun c124 => ?_) (fun c124 => ?_)
                · refine lv_aload_n hx hb d_Mo_part_246 rfl (lv_at hl 9 rfl) ?_
                  refine ob_get S hI hm.1 (C := R_Mo) (T := F_Mo) (N := 6) (ref := "WallFractionsModel") rfl i_Mo 1 (by decide) rfl w_772 rfl d_Mo_part_247 ?_
                  refine lv_sipush (v := nI 128) hx hb d_Mo_part_250 (by decide) ?_
                  refine lv_iload_n hx hb d_Mo_part_253 rfl (lv_at hl 6 rfl) ?_
                  refine lv_imul hx hb d_Mo_part_254 ?_
                  refine hw_ti (pk_mul _ _) ?_
                  refine lv_iload hx hb d_Mo_part_255 (lv_at hl 3 rfl) ?_
                  refine lv_iadd hx hb d_Mo_part_257 ?_
                  refine hw_ti (nI_add _ _) ?_
                  refine lv_iload hx hb d_Mo_part_258 (lv_at hl 1 rfl) ?_
                  refine ia_st S hI hm.2.1 (by decide) (by omega) d_Mo_part_260 (fun f125 H locs hI hR9 hf125 => ?_)
                  have hm := hm.umc hf125 hR9
                  have hF := hF.umc hf125
                  refine lv_iinc (v := mI t) (lv' := [(6, .int (mI t)), (8, .int (nI 0)), (7, .int (nI (dg + E))), (13, .int (nI E)), (5, .int (nI U)), (4, .int (nI (ns j))), (3, .int (nI q)), (2, .int (nI j)), (1, .int (nI i)), (0, .ref (mm))]) hx hb d_Mo_part_261 hl (k := 3) rfl (mI_d t) (by decide) rfl (fun ls hl => ?_)
                  refine lv_goto (tgt := 53) hx hb d_Mo_part_264 (by decide) ?_
                  have hrow : nvb 10000 (nsh (va_up c3 (128 * q + t) (dg + E)) (128 * i)) (ns i) = nvb 10000 (nsh c3 (128 * i)) (ns i) := nvb_congr (fun k hk => by unfold nsh; rw [hw_up_ne (by omega)])
                  have hc31 : ∀ k, k < 128 → c3 (128 * q + k) = c1 (128 * q + k) := fun k hk => (ho3 _ (by omega)).trans (ho2 _ (by omega))
                  have hrq : nvb 10000 (nsh (va_up c3 (128 * q + t) (dg + E)) (128 * q)) (U + 1) = nvb 10000 (nsh c1 (128 * q)) (U + 1) + (dg + E) * 10000 ^ t := by rw [nsh_upc, nvb_put (b := 10000) (f := nsh c3 (128 * q)) (n := U + 1) (t := t) (v := dg + E) (by omega) (show c3 (128 * q + t) = 0 by rw [hc31 t (by omega)]; exact hz t (by omega))]; exact congrArg (fun z => z + (dg + E) * 10000 ^ t) (nvb_congr (b := 10000) (f := nsh c3 (128 * q)) (g := nsh c1 (128 * q)) (fun k hk => hc31 k (by omega)))
                  have hval : (nvb 10000 (nsh c1 (128 * q)) (U + 1) + (dg + E) * 10000 ^ t) * y j = nvb 10000 (nsh c1 (128 * q)) (U + 1) * y j + (dg + E) * P := by rw [hP]; grind
                  exact ih _ _ _ _ _ (by omega) (upB hB3 hdl) (fun k k1 k2 => by rw [hw_up_ne (by omega)]; exact (ho3 k k1).trans ((ho2 k k1).trans (ho k k1 k2))) (by rw [hrq, hrow, hval]; omega) (by rw [hrow, ← hP]; omega) (fun k hk => by rw [hw_up_ne (by omega), hc31 k (by omega)]; exact hz k (by omega)) hm hF hI (lv_sub hl [0, 4, 5, 6, 7, 8, 9] rfl)
                · exact absurd rfl c124
              · have hEP1 : P ≤ E * P := Nat.le_mul_of_pos_left P (by omega)
                exact absurd hg (by rw [Nat.zero_add, Nat.one_mul]; omega)
            have join : ∀ (E : Nat) (f1 : Nat → va_E) (H : Heap) (locs : List Loc) (ls : Array Slot), E * P ≤ A → f2 = f1 → hw_I D t0 (hw_A L s.heap.size) s L f1 H locs → lv_has ls 14 [(13, .int (nI E)), (7, .int (nI dg)), (6, .int (nI t)), (5, .int (nI U)), (4, .int (nI (ns j))), (3, .int (nI q)), (2, .int (nI j)), (1, .int (nI i)), (0, .ref (mm))] → W p l e (headSpec (Cond.code y_Mo_part b_Mo_part 14 none :: TT) ({ frames := 2, cells := 0, slots := 0, locals := 50 } : Room)).room s m ([.ref (mm), .int (nI i), .int (nI j), .int (nI q)]).toArray below meth c H locs 0 0 (MQ below (hw_Q D L s.heap.size (fun oc L' f' => oc = .returned none ∧ L = L' ∧ Mn D L f' mm mc ml mg mw mr th (va_up (va_up y i (y i % y j)) q (y i / y j)) sn wt rr ∧ Fo mm mc ml mg mw mr f f')) ([.ref (mm), .int (nI i), .int (nI j), .int (nI q)]).toArray s 0 0 (hw_A L s.heap.size)) (F0 m 190 ls []) := by
              intro E f3 H locs ls hE hf hI hl
              subst hf
              have hE9 := elt E hE
              refine lv_iload hx hb d_Mo_part_190 (lv_at hl 0 rfl) ?_
              refine hw_if_ne (tgt := 210) hx hb d_Mo_part_192 (by decide) (by omega) (fun c126 => ?_) (fun c126 => ?_)
              · refine lv_iload hx hb d_Mo_part_210 (lv_at hl 0 rfl) ?_
                refine lv_istore (lv' := [(13, .int (nI E)), (7, .int (nI dg)), (6, .int (nI t)), (5, .int (nI U)), (4, .int (nI (ns j))), (3, .int (nI q)), (2, .int (nI j)), (1, .int (nI i)), (0, .ref (mm))]) hx hb d_Mo_part_212 hl (by decide) rfl (fun ls hl => ?_)
                exact tail E _ _ _ _ hE (fun h => absurd h c126) rfl hI hl
              · refine lv_aload_n hx hb d_Mo_part_195 rfl (lv_at hl 8 rfl) ?_
                refine lv_iload_n hx hb d_Mo_part_196 rfl (lv_at hl 7 rfl) ?_
                refine lv_iload_n hx hb d_Mo_part_197 rfl (lv_at hl 6 rfl) ?_
                refine lv_iload hx hb d_Mo_part_198 (lv_at hl 2 rfl) ?_
                refine hw_cV (As := [.int (nI i), .int (nI j), .int (nI t)]) (rest := []) S hI m_Mo_holds w_826 (c_Mo_holds l D t0 L _ _ mm mc ml mg mw mr th c2 ns sn wt rr i j t hm hi hj hB2 h1 (by omega)) hm.1 rfl hl.1 rfl rfl (Nat.le_of_ble_eq_true rfl) d_Mo_part_200 ⟨Nat.le_of_ble_eq_true rfl, Nat.le_of_ble_eq_true rfl⟩ ⟨Nat.le_of_ble_eq_true rfl, Nat.le_of_ble_eq_true rfl⟩ (fun v9 L9 f127 H locs hp hI => ?_)
                refine W.cs (cells' := 0) (slots' := 0) rfl rfl ?_
                obtain ⟨hv9, rfl, rfl⟩ := hp
                cases hv9
                refine hw_stk (st' := [.int (if nvb 10000 (nsh c2 (128 * j)) (ns j) * 10000 ^ t ≤ nvb 10000 (nsh c2 (128 * i)) (ns i) then nI 1 else nI 0)]) rfl ?_
                by_cases hh : P ≤ A
                · refine hw_ti (show _ = nI 1 from by rw [hyj2, ← hP, ← hA, if_pos hh]) ?_
                  refine hw_if_eq (tgt := 210) hx hb d_Mo_part_203 (by decide) (by omega) (fun c128 => ?_) (fun c128 => ?_)
                  · exact absurd c128 (by omega)
                  · refine lv_iconst (v := nI 1) hx hb d_Mo_part_206 (by decide) ?_
                    refine lv_goto (tgt := 212) hx hb d_Mo_part_207 (by decide) ?_
                    refine lv_istore (lv' := [(13, .int (nI 1)), (7, .int (nI dg)), (6, .int (nI t)), (5, .int (nI U)), (4, .int (nI (ns j))), (3, .int (nI q)), (2, .int (nI j)), (1, .int (nI i)), (0, .ref (mm))]) hx hb d_Mo_part_212 hl (by decide) rfl (fun ls hl => ?_)
                    exact tail 1 _ _ _ _ (by omega) (fun h => absurd h (by decide)) rfl hI hl
                · refine hw_ti (show _ = nI 0 from by rw [hyj2, ← hP, ← hA, if_neg hh]) ?_
                  refine hw_if_eq (tgt := 210) hx hb d_Mo_part_203 (by decide) (by omega) (fun c129 => ?_) (fun c129 => ?_)
                  · refine lv_iload hx hb d_Mo_part_210 (lv_at hl 0 rfl) ?_
                    refine lv_istore (lv' := [(13, .int (nI E)), (7, .int (nI dg)), (6, .int (nI t)), (5, .int (nI U)), (4, .int (nI (ns j))), (3, .int (nI q)), (2, .int (nI j)), (1, .int (nI i)), (0, .ref (mm))]) hx hb d_Mo_part_212 hl (by decide) rfl (fun ls hl => ?_)
                    exact tail E _ _ _ _ hE (fun _ => Nat.lt_of_not_le hh) rfl hI hl
                  · exact absurd rfl c129
            refine lv_iload hx hb d_Mo_part_64 (lv_at hl 0 rfl) ?_
            refine hw_if_eq (tgt := 246) hx hb d_Mo_part_66 (by decide) (by omega) (fun c130 => ?_) (fun c130 => ?_)
            · exact absurd c130 (by omega)
            · refine lv_aload_n hx hb d_Mo_part_69 rfl (lv_at hl 8 rfl) ?_
              refine lv_iload_n hx hb d_Mo_part_70 rfl (lv_at hl 7 rfl) ?_
              refine lv_iload hx hb d_Mo_part_71 (lv_at hl 2 rfl) ?_
              refine lv_iload hx hb d_Mo_part_73 (lv_at hl 4 rfl) ?_
              refine lv_iadd hx hb d_Mo_part_75 ?_
              refine hw_ti (nI_add _ _) ?_
              refine hw_cV (As := [.int (nI i), .int (nI (t + (ns j)))]) (rest := []) S hI m_Mo_cell w_822 (c_Mo_cell l D t0 L _ _ mm mc ml mg mw mr th c2 ns sn wt rr i (t + ns j) hm hi (by omega) h1) hm.1 rfl hl.1 rfl rfl (Nat.le_of_ble_eq_true rfl) d_Mo_part_76 ⟨Nat.le_of_ble_eq_true rfl, Nat.le_of_ble_eq_true rfl⟩ ⟨Nat.le_of_ble_eq_true rfl, Nat.le_of_ble_eq_true rfl⟩ (fun v9 L9 f131 H locs hp hI => ?_)
              refine W.cs (cells' := 0) (slots' := 0) rfl rfl ?_
              obtain ⟨hv9, rfl, rfl⟩ := hp
              cases hv9
              refine hw_stk (st' := [.int (nI (pcl c2 ns i (t + ns j)))]) rfl ?_
              refine hw_ti (show _ = nI a2 from by rw [pcl_num hB2, ← hA, ← ha2]) ?_
              refine lv_i2l (v := lN a2) hx hb d_Mo_part_79 (nI_l (by omega)) ?_
              refine hw_ldc2 (v := lN 10000) hx hb hown (hT _ w_770) d_Mo_part_80 ?_
              refine lv_lmul hx hb d_Mo_part_83 ?_
              refine hw_tl (lN_mul _ _) ?_
              refine lv_aload_n hx hb d_Mo_part_84 rfl (lv_at hl 8 rfl) ?_
              refine lv_iload_n hx hb d_Mo_part_85 rfl (lv_at hl 7 rfl) ?_
              refine lv_iload hx hb d_Mo_part_86 (lv_at hl 2 rfl) ?_
              refine lv_iload hx hb d_Mo_part_88 (lv_at hl 4 rfl) ?_
              refine lv_iadd hx hb d_Mo_part_90 ?_
              refine hw_ti (nI_add _ _) ?_
              refine lv_iconst (v := nI 1) hx hb d_Mo_part_91 (by decide) ?_
              refine lv_isub hx hb d_Mo_part_92 ?_
              refine hw_ti (pk_sub (by omega)) ?_
              refine hw_cV (As := [.int (nI i), .int (nI ((t + (ns j)) - 1))]) (rest := [.long (lN (a2 * 10000))]) S hI m_Mo_cell w_822 (c_Mo_cell l D t0 L _ _ mm mc ml mg mw mr th c2 ns sn wt rr i (t + ns j - 1) hm hi (by omega) h1) hm.1 rfl hl.1 rfl rfl (Nat.le_of_ble_eq_true rfl) d_Mo_part_93 ⟨Nat.le_of_ble_eq_true rfl, Nat.le_of_ble_eq_true rfl⟩ ⟨Nat.le_of_ble_eq_true rfl, Nat.le_of_ble_eq_true rfl⟩ (fun v9 L9 f132 H locs hp hI => ?_)
              refine W.cs (cells' := 0) (slots' := 0) rfl rfl ?_
              obtain ⟨hv9, rfl, rfl⟩ := hp
              cases hv9
              refine hw_stk (st' := [.int (nI (pcl c2 ns i (t + ns j - 1))), .long (lN (a2 * 10000))]) rfl ?_
              refine hw_ti (show _ = nI a1 from by rw [pcl_num hB2, ← hA, ← ha1]) ?_
              refine lv_i2l (v := lN a1) hx hb d_Mo_part_96 (nI_l (by omega)) ?_
              refine lv_ladd hx hb d_Mo_part_97 ?_
              refine hw_tl (lN_add _ _) ?_
              refine hw_ldc2 (v := lN 10000) hx hb hown (hT _ w_770) d_Mo_part_98 ?_
              refine lv_lmul hx hb d_Mo_part_101 ?_
              refine hw_tl (lN_mul _ _) ?_
              refine lv_aload_n hx hb d_Mo_part_102 rfl (lv_at hl 8 rfl) ?_
              refine lv_iload_n hx hb d_Mo_part_103 rfl (lv_at hl 7 rfl) ?_
              refine lv_iload hx hb d_Mo_part_104 (lv_at hl 2 rfl) ?_
              refine lv_iload hx hb d_Mo_part_106 (lv_at hl 4 rfl) ?_
              refine lv_iadd hx hb d_Mo_part_108 ?_
              refine hw_ti (nI_add _ _) ?_
              refine lv_iconst (v := nI 2) hx hb d_Mo_part_109 (by decide) ?_
              refine lv_isub hx hb d_Mo_part_110 ?_
              refine hw_cV (As := [.int (nI i), .int ((nI (t + (ns j))) - (nI 2))]) (rest := [.long (lN (((a2 * 10000) + a1) * 10000))]) S hI m_Mo_cell w_822 (c_Mo_cell2 l D t0 L _ _ mm mc ml mg mw mr th c2 ns sn wt rr i (t + ns j) hm hi (by omega) h1) hm.1 rfl hl.1 rfl rfl (Nat.le_of_ble_eq_true rfl) d_Mo_part_111 ⟨Nat.le_of_ble_eq_true rfl, Nat.le_of_ble_eq_true rfl⟩ ⟨Nat.le_of_ble_eq_true rfl, Nat.le_of_ble_eq_true rfl⟩ (fun v9 L9 f133 H locs hp hI => ?_)
              refine W.cs (cells' := 0) (slots' := 0) rfl rfl ?_
              obtain ⟨hv9, rfl, rfl⟩ := hp
              cases hv9
              refine hw_stk (st' := [.int (nI (if t + ns j < 2 then 0 else pcl c2 ns i (t + ns j - 2))), .long (lN (((a2 * 10000) + a1) * 10000))]) rfl ?_
              refine hw_ti (show _ = nI a0 from by rw [pcl_num hB2, ← hA, ← ha0]) ?_
              refine lv_i2l (v := lN a0) hx hb d_Mo_part_114 (nI_l (by omega)) ?_
              refine lv_ladd hx hb d_Mo_part_115 ?_
              refine hw_tl (lN_add _ _) ?_
              refine lv_lstore (lv' := [(9, .long (lN ((((a2 * 10000) + a1) * 10000) + a0))), (8, .int (nI 1)), (7, .int (nI dg)), (6, .int (nI t)), (5, .int (nI U)), (4, .int (nI (ns j))), (3, .int (nI q)), (2, .int (nI j)), (1, .int (nI i)), (0, .ref (mm))]) hx hb d_Mo_part_116 hl (by decide) rfl (fun ls hl => ?_)
              refine lv_aload_n hx hb d_Mo_part_118 rfl (lv_at hl 9 rfl) ?_
              refine lv_iload_n hx hb d_Mo_part_119 rfl (lv_at hl 7 rfl) ?_
              refine lv_iload hx hb d_Mo_part_120 (lv_at hl 5 rfl) ?_
              refine lv_iconst (v := nI 1) hx hb d_Mo_part_122 (by decide) ?_
              refine lv_isub hx hb d_Mo_part_123 ?_
              refine hw_ti (pk_sub (by omega)) ?_
              refine hw_cV (As := [.int (nI j), .int (nI ((ns j) - 1))]) (rest := []) S hI m_Mo_cell w_822 (c_Mo_cell l D t0 L _ _ mm mc ml mg mw mr th c2 ns sn wt rr j (ns j - 1) hm hj (by omega) h2) hm.1 rfl hl.1 rfl rfl (Nat.le_of_ble_eq_true rfl) d_Mo_part_124 ⟨Nat.le_of_ble_eq_true rfl, Nat.le_of_ble_eq_true rfl⟩ ⟨Nat.le_of_ble_eq_true rfl, Nat.le_of_ble_eq_true rfl⟩ (fun v9 L9 f134 H locs hp hI => ?_)
              refine W.cs (cells' := 0) (slots' := 0) rfl rfl ?_
              obtain ⟨hv9, rfl, rfl⟩ := hp
              cases hv9
              refine hw_stk (st' := [.int (nI (pcl c2 ns j (ns j - 1)))]) rfl ?_
              refine hw_ti (show _ = nI b1 from by rw [pcl_num hB2, hyj2, ← hb1]) ?_
              refine lv_i2l (v := lN b1) hx hb d_Mo_part_127 (nI_l (by omega)) ?_
              refine hw_ldc2 (v := lN 10000) hx hb hown (hT _ w_770) d_Mo_part_128 ?_
              refine lv_lmul hx hb d_Mo_part_131 ?_
              refine hw_tl (lN_mul _ _) ?_
              refine lv_aload_n hx hb d_Mo_part_132 rfl (lv_at hl 9 rfl) ?_
              refine lv_iload_n hx hb d_Mo_part_133 rfl (lv_at hl 7 rfl) ?_
              refine lv_iload hx hb d_Mo_part_134 (lv_at hl 5 rfl) ?_
              refine lv_iconst (v := nI 2) hx hb d_Mo_part_136 (by decide) ?_
              refine lv_isub hx hb d_Mo_part_137 ?_
              refine hw_cV (As := [.int (nI j), .int ((nI (ns j)) - (nI 2))]) (rest := [.long (lN (b1 * 10000))]) S hI m_Mo_cell w_822 (c_Mo_cell2 l D t0 L _ _ mm mc ml mg mw mr th c2 ns sn wt rr j (ns j) hm hj (by omega) h2) hm.1 rfl hl.1 rfl rfl (Nat.le_of_ble_eq_true rfl) d_Mo_part_138 ⟨Nat.le_of_ble_eq_true rfl, Nat.le_of_ble_eq_true rfl⟩ ⟨Nat.le_of_ble_eq_true rfl, Nat.le_of_ble_eq_true rfl⟩ (fun v9 L9 f135 H locs hp hI => ?_)
              refine W.cs (cells' := 0) (slots' := 0) rfl rfl ?_
              obtain ⟨hv9, rfl, rfl⟩ := hp
              cases hv9
              refine hw_stk (st' := [.int (nI (if ns j < 2 then 0 else pcl c2 ns j (ns j - 2))), .long (lN (b1 * 10000))]) rfl ?_
              refine hw_ti (show _ = nI b0 from by rw [pcl_num hB2, hyj2, ← hb0]) ?_
              refine lv_i2l (v := lN b0) hx hb d_Mo_part_141 (nI_l (by omega)) ?_
              refine lv_ladd hx hb d_Mo_part_142 ?_
              refine hw_tl (lN_add _ _) ?_
              refine lv_lconst (v := lN 1) hx hb d_Mo_part_143 rfl ?_
              refine lv_ladd hx hb d_Mo_part_144 ?_
              refine hw_tl (lN_add _ _) ?_
              refine lv_lstore (lv' := [(11, .long (lN (((b1 * 10000) + b0) + 1))), (9, .long (lN ((((a2 * 10000) + a1) * 10000) + a0))), (8, .int (nI 1)), (7, .int (nI dg)), (6, .int (nI t)), (5, .int (nI U)), (4, .int (nI (ns j))), (3, .int (nI q)), (2, .int (nI j)), (1, .int (nI i)), (0, .ref (mm))]) hx hb d_Mo_part_145 hl (by decide) rfl (fun ls hl => ?_)
              refine lv_lload hx hb d_Mo_part_147 (lv_at hl 1 rfl) ?_
              refine lv_lload hx hb d_Mo_part_149 (lv_at hl 0 rfl) ?_
              refine lv_ldiv hx hb d_Mo_part_151 (by intro h9; have h8 := (pk_lEQ (b := 0) (by omega) (by decide)).mp h9; omega) ?_
              refine hw_tl (pk_lDiv (by omega) (by omega) (by omega)) ?_
              refine lv_l2i (v := nI (((((a2 * 10000) + a1) * 10000) + a0) / (((b1 * 10000) + b0) + 1))) hx hb d_Mo_part_152 (lN_i _) ?_
              refine lv_istore (lv' := [(13, .int (nI (((((a2 * 10000) + a1) * 10000) + a0) / (((b1 * 10000) + b0) + 1)))), (11, .long (lN (((b1 * 10000) + b0) + 1))), (9, .long (lN ((((a2 * 10000) + a1) * 10000) + a0))), (8, .int (nI 1)), (7, .int (nI dg)), (6, .int (nI t)), (5, .int (nI U)), (4, .int (nI (ns j))), (3, .int (nI q)), (2, .int (nI j)), (1, .int (nI i)), (0, .ref (mm))]) hx hb d_Mo_part_153 hl (by decide) rfl (fun ls hl => ?_)
              refine lv_iload hx hb d_Mo_part_155 (lv_at hl 7 rfl) ?_
              refine lv_iconst (v := nI 1) hx hb d_Mo_part_157 (by decide) ?_
              refine hw_icmp_ne (tgt := 186) hx hb d_Mo_part_158 (by decide) (by omega) (by omega) (fun c136 => ?_) (fun c136 => ?_)
              · refine lv_iload hx hb d_Mo_part_186 (lv_at hl 0 rfl) ?_
                refine lv_istore (lv' := [(13, .int (nI (((((a2 * 10000) + a1) * 10000) + a0) / (((b1 * 10000) + b0) + 1)))), (11, .long (lN (((b1 * 10000) + b0) + 1))), (9, .long (lN ((((a2 * 10000) + a1) * 10000) + a0))), (8, .int (nI 1)), (7, .int (nI dg)), (6, .int (nI t)), (5, .int (nI U)), (4, .int (nI (ns j))), (3, .int (nI q)), (2, .int (nI j)), (1, .int (nI i)), (0, .ref (mm))]) hx hb d_Mo_part_188 hl (by decide) rfl (fun ls hl => ?_)
                exact join _ _ _ _ _ hest rfl hI (lv_sub hl [0, 4, 5, 6, 7, 8, 9, 10, 11] rfl)
              · refine lv_iload hx hb d_Mo_part_161 (lv_at hl 5 rfl) ?_
                refine hw_if_ne (tgt := 186) hx hb d_Mo_part_163 (by decide) (by omega) (fun c137 => ?_) (fun c137 => ?_)
                · refine lv_iload hx hb d_Mo_part_186 (lv_at hl 0 rfl) ?_
                  refine lv_istore (lv' := [(13, .int (nI (((((a2 * 10000) + a1) * 10000) + a0) / (((b1 * 10000) + b0) + 1)))), (11, .long (lN (((b1 * 10000) + b0) + 1))), (9, .long (lN ((((a2 * 10000) + a1) * 10000) + a0))), (8, .int (nI 1)), (7, .int (nI dg)), (6, .int (nI t)), (5, .int (nI U)), (4, .int (nI (ns j))), (3, .int (nI q)), (2, .int (nI j)), (1, .int (nI i)), (0, .ref (mm))]) hx hb d_Mo_part_188 hl (by decide) rfl (fun ls hl => ?_)
                  exact join _ _ _ _ _ hest rfl hI (lv_sub hl [0, 4, 5, 6, 7, 8, 9, 10, 11] rfl)
                · have hn1 : ns j = 1 := by omega
                  have ht0 : t = 0 := by omega
                  refine lv_lload hx hb d_Mo_part_166 (lv_at hl 2 rfl) ?_
                  refine hw_ldc2 (v := lN 10000) hx hb hown (hT _ w_770) d_Mo_part_168 ?_
                  refine lv_ldiv hx hb d_Mo_part_171 (by intro h9; have h8 := (pk_lEQ (b := 0) (by omega) (by decide)).mp h9; omega) ?_
                  refine hw_tl (pk_lDiv (by omega) (by omega) (by omega)) ?_
                  refine lv_aload_n hx hb d_Mo_part_172 rfl (lv_at hl 11 rfl) ?_
                  refine lv_iload_n hx hb d_Mo_part_173 rfl (lv_at hl 9 rfl) ?_
                  refine lv_iconst (v := nI 0) hx hb d_Mo_part_174 (by decide) ?_
                  refine hw_cV (As := [.int (nI j), .int (nI 0)]) (rest := [.long (lN (((((a2 * 10000) + a1) * 10000) + a0) / 10000))]) S hI m_Mo_cell w_822 (c_Mo_cell l D t0 L _ _ mm mc ml mg mw mr th c2 ns sn wt rr j 0 hm hj (by omega) h2) hm.1 rfl hl.1 rfl rfl (Nat.le_of_ble_eq_true rfl) d_Mo_part_175 ⟨Nat.le_of_ble_eq_true rfl, Nat.le_of_ble_eq_true rfl⟩ ⟨Nat.le_of_ble_eq_true rfl, Nat.le_of_ble_eq_true rfl⟩ (fun v9 L9 f138 H locs hp hI => ?_)
                  refine W.cs (cells' := 0) (slots' := 0) rfl rfl ?_
                  obtain ⟨hv9, rfl, rfl⟩ := hp
                  cases hv9
                  refine hw_stk (st' := [.int (nI (pcl c2 ns j 0)), .long (lN (((((a2 * 10000) + a1) * 10000) + a0) / 10000))]) rfl ?_
                  have hyl9 : y j < 10000 := by rw [hn1, Nat.pow_one] at hyjl; exact hyjl
                  refine hw_ti (show _ = nI (y j) from by rw [pcl_num hB2, hyj2, Nat.pow_zero, Nat.div_one, Nat.mod_eq_of_lt hyl9]) ?_
                  have hest0 : ((a2 * 10000 + a1) * 10000 + a0) / 10000 / (y j + 1) * P ≤ A := by rw [ha2, ha1, ha0, hP, hn1, ht0, if_pos (by decide), Nat.pow_zero, Nat.mul_one]; exact est0 (by rw [hn1, ht0] at hPM; omega)
                  refine lv_i2l (v := lN (y j)) hx hb d_Mo_part_178 (nI_l (by omega)) ?_
                  refine lv_lconst (v := lN 1) hx hb d_Mo_part_179 rfl ?_
                  refine lv_ladd hx hb d_Mo_part_180 ?_
                  refine hw_tl (lN_add _ _) ?_
                  refine lv_ldiv hx hb d_Mo_part_181 (by intro h9; have h8 := (pk_lEQ (b := 0) (by omega) (by decide)).mp h9; omega) ?_
                  refine hw_tl (pk_lDiv (by omega) (by omega) (by omega)) ?_
                  refine lv_l2i (v := nI ((((((a2 * 10000) + a1) * 10000) + a0) / 10000) / ((y j) + 1))) hx hb d_Mo_part_182 (lN_i _) ?_
                  refine lv_goto (tgt := 188) hx hb d_Mo_part_183 (by decide) ?_
                  refine lv_istore (lv' := [(13, .int (nI ((((((a2 * 10000) + a1) * 10000) + a0) / 10000) / ((y j) + 1)))), (11, .long (lN (((b1 * 10000) + b0) + 1))), (9, .long (lN ((((a2 * 10000) + a1) * 10000) + a0))), (8, .int (nI 1)), (7, .int (nI dg)), (6, .int (nI t)), (5, .int (nI U)), (4, .int (nI (ns j))), (3, .int (nI q)), (2, .int (nI j)), (1, .int (nI i)), (0, .ref (mm))]) hx hb d_Mo_part_188 hl (by decide) rfl (fun ls hl => ?_)
                  exact join _ _ _ _ _ hest0 rfl hI (lv_sub hl [0, 4, 5, 6, 7, 8, 9, 10, 11] rfl)
          | succ g ih2 =>
            intro dg c2 f2 H locs ls hg hB2 ho2 hV2 hm hF hI hl
            have hyj2 : nvb 10000 (nsh c2 (128 * j)) (ns j) = y j := by rw [← hyj]; exact nvb_congr (fun k hk => (ho2 _ (by omega)).trans (ho _ (by omega) (by omega)))
            obtain ⟨A, hA⟩ : ∃ A, A = nvb 10000 (nsh c2 (128 * i)) (ns i) := ⟨_, rfl⟩
            rw [← hA] at hg hV2
            have hAM : A < 10000 * P := by omega
            obtain ⟨a2, ha2⟩ : ∃ z9, z9 = A / 10000 ^ (t + ns j) % 10000 := ⟨_, rfl⟩
            have ka2 : a2 < 10000 := by rw [ha2]; exact Nat.mod_lt _ mpos
            obtain ⟨a1, ha1⟩ : ∃ z9, z9 = A / 10000 ^ (t + ns j - 1) % 10000 := ⟨_, rfl⟩
            have ka1 : a1 < 10000 := by rw [ha1]; exact Nat.mod_lt _ mpos
            obtain ⟨a0, ha0⟩ : ∃ z9, z9 = if t + ns j < 2 then 0 else A / 10000 ^ (t + ns j - 2) % 10000 := ⟨_, rfl⟩
            have ka0 : a0 < 10000 := by rw [ha0]; split; decide; exact Nat.mod_lt _ mpos
            obtain ⟨b1, hb1⟩ : ∃ z9, z9 = y j / 10000 ^ (ns j - 1) % 10000 := ⟨_, rfl⟩
            have kb1 : b1 < 10000 := by rw [hb1]; exact Nat.mod_lt _ mpos
            obtain ⟨b0, hb0⟩ : ∃ z9, z9 = if ns j < 2 then 0 else y j / 10000 ^ (ns j - 2) % 10000 := ⟨_, rfl⟩
            have kb0 : b0 < 10000 := by rw [hb0]; split; decide; exact Nat.mod_lt _ mpos
            have hest : ((a2 * 10000 + a1) * 10000 + a0) / (b1 * 10000 + b0 + 1) * P ≤ A := by rw [ha2, ha1, ha0, hb1, hb0, hP]; exact est hNj (by omega) hyjl
            have elt : ∀ E, E * P ≤ A → E < 10000 := fun E h => Nat.lt_of_mul_lt_mul_right (a := P) (by omega)
            have tail : ∀ (E : Nat) (f1 : Nat → va_E) (H : Heap) (locs : List Loc) (ls : Array Slot), E * P ≤ A → (E = 0 → A < P) → f2 = f1 → hw_I D t0 (hw_A L s.heap.size) s L f1 H locs → lv_has ls 14 [(13, .int (nI E)), (7, .int (nI dg)), (6, .int (nI t)), (5, .int (nI U)), (4, .int (nI (ns j))), (3, .int (nI q)), (2, .int (nI j)), (1, .int (nI i)), (0, .ref (mm))] → W p l e (headSpec (Cond.code y_Mo_part b_Mo_part 14 none :: TT) ({ frames := 2, cells := 0, slots := 0, locals := 50 } : Room)).room s m ([.ref (mm), .int (nI i), .int (nI j), .int (nI q)]).toArray below meth c H locs 0 0 (MQ below (hw_Q D L s.heap.size (fun oc L' f' => oc = .returned none ∧ L = L' ∧ Mn D L f' mm mc ml mg mw mr th (va_up (va_up y i (y i % y j)) q (y i / y j)) sn wt rr ∧ Fo mm mc ml mg mw mr f f')) ([.ref (mm), .int (nI i), .int (nI j), .int (nI q)]).toArray s 0 0 (hw_A L s.heap.size)) (F0 m 214 ls []) := by
              intro E f3 H locs ls hE hE0 hf hI hl
              subst hf
              have hE9 := elt E hE
              refine lv_aload_n hx hb d_Mo_part_214 rfl (lv_at hl 8 rfl) ?_
              refine lv_iload_n hx hb d_Mo_part_215 rfl (lv_at hl 7 rfl) ?_
              refine lv_iload_n hx hb d_Mo_part_216 rfl (lv_at hl 6 rfl) ?_
              refine lv_iload hx hb d_Mo_part_217 (lv_at hl 2 rfl) ?_
              refine lv_iload hx hb d_Mo_part_219 (lv_at hl 0 rfl) ?_
              refine hw_cV (As := [.int (nI i), .int (nI j), .int (nI t), .int (nI E)]) (rest := []) S hI m_Mo_takeOff w_830 (c_Mo_takeOff l D t0 L _ _ mm mc ml mg mw mr th c2 ns sn wt rr i j t E hm hi hj hij hB2 h1 (by omega) (by omega) (by rw [hyj2, ← hP, ← hA]; exact hE)) hm.1 rfl hl.1 rfl rfl (Nat.le_of_ble_eq_true rfl) d_Mo_part_221 ⟨Nat.le_of_ble_eq_true rfl, Nat.le_of_ble_eq_true rfl⟩ ⟨Nat.le_of_ble_eq_true rfl, Nat.le_of_ble_eq_true rfl⟩ (fun v9 L9 f139 H locs hp hI => ?_)
              refine W.cs (cells' := 0) (slots' := 0) rfl rfl ?_
              obtain ⟨hv9, rfl, c3, hm, hB3, ho3, hV3, hF9⟩ := hp
              cases hv9
              refine hw_stk (st' := []) rfl ?_
              rw [hyj2, ← hP, ← hA] at hV3
              have hF := hF.trans hF9
              have hdE : (dg + E) * P = dg * P + E * P := Nat.add_mul _ _ _
              have hdl : dg + E < 10000 := Nat.lt_of_mul_lt_mul_right (a := P) (by omega)
              refine lv_iload hx hb d_Mo_part_224 (lv_at hl 1 rfl) ?_
              refine lv_iload hx hb d_Mo_part_226 (lv_at hl 0 rfl) ?_
              refine lv_iadd hx hb d_Mo_part_228 ?_
              refine hw_ti (nI_add _ _) ?_
              refine lv_istore (lv' := [(7, .int (nI (dg + E))), (13, .int (nI E)), (6, .int (nI t)), (5, .int (nI U)), (4, .int (nI (ns j))), (3, .int (nI q)), (2, .int (nI j)), (1, .int (nI i)), (0, .ref (mm))]) hx hb d_Mo_part_229 hl (by decide) rfl (fun ls hl => ?_)
              refine lv_iload hx hb d_Mo_part_231 (lv_at hl 1 rfl) ?_
              refine hw_if_le (tgt := 240) hx hb d_Mo_part_233 (by decide) (by omega) (fun c140 => ?_) (fun c140 => ?_)
              · have hE1 : E = 0 := by omega
                have hAP := hE0 hE1
                have hEz : E * P = 0 := by rw [hE1, Nat.zero_mul]
                refine lv_iconst (v := nI 0) hx hb d_Mo_part_240 (by decide) ?_
                refine lv_istore (lv' := [(8, .int (nI 0)), (7, .int (nI (dg + E))), (13, .int (nI E)), (6, .int (nI t)), (5, .int (nI U)), (4, .int (nI (ns j))), (3, .int (nI q)), (2, .int (nI j)), (1, .int (nI i)), (0, .ref (mm))]) hx hb d_Mo_part_241 hl (by decide) rfl (fun ls hl => ?_)
                refine lv_goto (tgt := 64) hx hb d_Mo_part_243 (by decide) ?_
                refine lv_iload hx hb d_Mo_part_64 (lv_at hl 0 rfl) ?_
                refine hw_if_eq (tgt := 246) hx hb d_Mo_part_66 (by decide) (by omega) (fun c141 => ?_) (fun c141 => ?_)
                · refine lv_aload_n hx hb d_Mo_part_246 rfl (lv_at hl 9 rfl) ?_
                  refine ob_get S hI hm.1 (C := R_Mo) (T := F_Mo) (N := 6) (ref := "WallFractionsModel") rfl i_Mo 1 (by decide) rfl w_772 rfl d_Mo_part_247 ?_
                  refine lv_sipush (v := nI 128) hx hb d_Mo_part_250 (by decide) ?_
                  refine lv_iload_n hx hb d_Mo_part_253 rfl (lv_at hl 6 rfl) ?_
                  refine lv_imul hx hb d_Mo_part_254 ?_
                  refine hw_ti (pk_mul _ _) ?_
                  refine lv_iload hx hb d_Mo_part_255 (lv_at hl 3 rfl) ?_
                  refine lv_iadd hx hb d_Mo_part_257 ?_
                  refine hw_ti (nI_add _ _) ?_
                  refine lv_iload hx hb d_Mo_part_258 (lv_at hl 1 rfl) ?_
                  refine ia_st S hI hm.2.1 (by decide) (by omega) d_Mo_part_260 (fun f142 H locs hI hR9 hf142 => ?_)
                  have hm := hm.umc hf142 hR9
                  have hF := hF.umc hf142
                  refine lv_iinc (v := mI t) (lv' := [(6, .int (mI t)), (8, .int (nI 0)), (7, .int (nI (dg + E))), (13, .int (nI E)), (5, .int (nI U)), (4, .int (nI (ns j))), (3, .int (nI q)), (2, .int (nI j)), (1, .int (nI i)), (0, .ref (mm))]) hx hb d_Mo_part_261 hl (k := 3) rfl (mI_d t) (by decide) rfl (fun ls hl => ?_)
                  refine lv_goto (tgt := 53) hx hb d_Mo_part_264 (by decide) ?_
                  have hrow : nvb 10000 (nsh (va_up c3 (128 * q + t) (dg + E)) (128 * i)) (ns i) = nvb 10000 (nsh c3 (128 * i)) (ns i) := nvb_congr (fun k hk => by unfold nsh; rw [hw_up_ne (by omega)])
                  have hc31 : ∀ k, k < 128 → c3 (128 * q + k) = c1 (128 * q + k) := fun k hk => (ho3 _ (by omega)).trans (ho2 _ (by omega))
                  have hrq : nvb 10000 (nsh (va_up c3 (128 * q + t) (dg + E)) (128 * q)) (U + 1) = nvb 10000 (nsh c1 (128 * q)) (U + 1) + (dg + E) * 10000 ^ t := by rw [nsh_upc, nvb_put (b := 10000) (f := nsh c3 (128 * q)) (n := U + 1) (t := t) (v := dg + E) (by omega) (show c3 (128 * q + t) = 0 by rw [hc31 t (by omega)]; exact hz t (by omega))]; exact congrArg (fun z => z + (dg + E) * 10000 ^ t) (nvb_congr (b := 10000) (f := nsh c3 (128 * q)) (g := nsh c1 (128 * q)) (fun k hk => hc31 k (by omega)))
                  have hval : (nvb 10000 (nsh c1 (128 * q)) (U + 1) + (dg + E) * 10000 ^ t) * y j = nvb 10000 (nsh c1 (128 * q)) (U + 1) * y j + (dg + E) * P := by rw [hP]; grind
                  exact ih _ _ _ _ _ (by omega) (upB hB3 hdl) (fun k k1 k2 => by rw [hw_up_ne (by omega)]; exact (ho3 k k1).trans ((ho2 k k1).trans (ho k k1 k2))) (by rw [hrq, hrow, hval]; omega) (by rw [hrow, ← hP]; omega) (fun k hk => by rw [hw_up_ne (by omega), hc31 k (by omega)]; exact hz k (by omega)) hm hF hI (lv_sub hl [0, 4, 5, 6, 7, 8, 9] rfl)
                · exact absurd rfl c141
              · have hEP1 : P ≤ E * P := Nat.le_mul_of_pos_left P (by omega)
                have hs9 : (g + 1 + 1) * P = (g + 1) * P + P := Nat.succ_mul (g + 1) P
                refine lv_iconst (v := nI 1) hx hb d_Mo_part_236 (by decide) ?_
                refine lv_goto (tgt := 241) hx hb d_Mo_part_237 (by decide) ?_
                refine lv_istore (lv' := [(8, .int (nI 1)), (7, .int (nI (dg + E))), (13, .int (nI E)), (6, .int (nI t)), (5, .int (nI U)), (4, .int (nI (ns j))), (3, .int (nI q)), (2, .int (nI j)), (1, .int (nI i)), (0, .ref (mm))]) hx hb d_Mo_part_241 hl (by decide) rfl (fun ls hl => ?_)
                refine lv_goto (tgt := 64) hx hb d_Mo_part_243 (by decide) ?_
                exact ih2 (dg + E) c3 _ _ _ _ (by omega) hB3 (fun k hk => (ho3 k hk).trans (ho2 k hk)) (by omega) hm hF hI (lv_sub hl [0, 1, 3, 4, 5, 6, 7, 8, 9] rfl)
            have join : ∀ (E : Nat) (f1 : Nat → va_E) (H : Heap) (locs : List Loc) (ls : Array Slot), E * P ≤ A → f2 = f1 → hw_I D t0 (hw_A L s.heap.size) s L f1 H locs → lv_has ls 14 [(13, .int (nI E)), (7, .int (nI dg)), (6, .int (nI t)), (5, .int (nI U)), (4, .int (nI (ns j))), (3, .int (nI q)), (2, .int (nI j)), (1, .int (nI i)), (0, .ref (mm))] → W p l e (headSpec (Cond.code y_Mo_part b_Mo_part 14 none :: TT) ({ frames := 2, cells := 0, slots := 0, locals := 50 } : Room)).room s m ([.ref (mm), .int (nI i), .int (nI j), .int (nI q)]).toArray below meth c H locs 0 0 (MQ below (hw_Q D L s.heap.size (fun oc L' f' => oc = .returned none ∧ L = L' ∧ Mn D L f' mm mc ml mg mw mr th (va_up (va_up y i (y i % y j)) q (y i / y j)) sn wt rr ∧ Fo mm mc ml mg mw mr f f')) ([.ref (mm), .int (nI i), .int (nI j), .int (nI q)]).toArray s 0 0 (hw_A L s.heap.size)) (F0 m 190 ls []) := by
              intro E f3 H locs ls hE hf hI hl
              subst hf
              have hE9 := elt E hE
              refine lv_iload hx hb d_Mo_part_190 (lv_at hl 0 rfl) ?_
              refine hw_if_ne (tgt := 210) hx hb d_Mo_part_192 (by decide) (by omega) (fun c143 => ?_) (fun c143 => ?_)
              · refine lv_iload hx hb d_Mo_part_210 (lv_at hl 0 rfl) ?_
                refine lv_istore (lv' := [(13, .int (nI E)), (7, .int (nI dg)), (6, .int (nI t)), (5, .int (nI U)), (4, .int (nI (ns j))), (3, .int (nI q)), (2, .int (nI j)), (1, .int (nI i)), (0, .ref (mm))]) hx hb d_Mo_part_212 hl (by decide) rfl (fun ls hl => ?_)
                exact tail E _ _ _ _ hE (fun h => absurd h c143) rfl hI hl
              · refine lv_aload_n hx hb d_Mo_part_195 rfl (lv_at hl 8 rfl) ?_
                refine lv_iload_n hx hb d_Mo_part_196 rfl (lv_at hl 7 rfl) ?_
                refine lv_iload_n hx hb d_Mo_part_197 rfl (lv_at hl 6 rfl) ?_
                refine lv_iload hx hb d_Mo_part_198 (lv_at hl 2 rfl) ?_
                refine hw_cV (As := [.int (nI i), .int (nI j), .int (nI t)]) (rest := []) S hI m_Mo_holds w_826 (c_Mo_holds l D t0 L _ _ mm mc ml mg mw mr th c2 ns sn wt rr i j t hm hi hj hB2 h1 (by omega)) hm.1 rfl hl.1 rfl rfl (Nat.le_of_ble_eq_true rfl) d_Mo_part_200 ⟨Nat.le_of_ble_eq_true rfl, Nat.le_of_ble_eq_true rfl⟩ ⟨Nat.le_of_ble_eq_true rfl, Nat.le_of_ble_eq_true rfl⟩ (fun v9 L9 f144 H locs hp hI => ?_)
                refine W.cs (cells' := 0) (slots' := 0) rfl rfl ?_
                obtain ⟨hv9, rfl, rfl⟩ := hp
                cases hv9
                refine hw_stk (st' := [.int (if nvb 10000 (nsh c2 (128 * j)) (ns j) * 10000 ^ t ≤ nvb 10000 (nsh c2 (128 * i)) (ns i) then nI 1 else nI 0)]) rfl ?_
                by_cases hh : P ≤ A
                · refine hw_ti (show _ = nI 1 from by rw [hyj2, ← hP, ← hA, if_pos hh]) ?_
                  refine hw_if_eq (tgt := 210) hx hb d_Mo_part_203 (by decide) (by omega) (fun c145 => ?_) (fun c145 => ?_)
                  · exact absurd c145 (by omega)
                  · refine lv_iconst (v := nI 1) hx hb d_Mo_part_206 (by decide) ?_
                    refine lv_goto (tgt := 212) hx hb d_Mo_part_207 (by decide) ?_
                    refine lv_istore (lv' := [(13, .int (nI 1)), (7, .int (nI dg)), (6, .int (nI t)), (5, .int (nI U)), (4, .int (nI (ns j))), (3, .int (nI q)), (2, .int (nI j)), (1, .int (nI i)), (0, .ref (mm))]) hx hb d_Mo_part_212 hl (by decide) rfl (fun ls hl => ?_)
                    exact tail 1 _ _ _ _ (by omega) (fun h => absurd h (by decide)) rfl hI hl
                · refine hw_ti (show _ = nI 0 from by rw [hyj2, ← hP, ← hA, if_neg hh]) ?_
                  refine hw_if_eq (tgt := 210) hx hb d_Mo_part_203 (by decide) (by omega) (fun c146 => ?_) (fun c146 => ?_)
                  · refine lv_iload hx hb d_Mo_part_210 (lv_at hl 0 rfl) ?_
                    refine lv_istore (lv' := [(13, .int (nI E)), (7, .int (nI dg)), (6, .int (nI t)), (5, .int (nI U)), (4, .int (nI (ns j))), (3, .int (nI q)), (2, .int (nI j)), (1, .int (nI i)), (0, .ref (mm))]) hx hb d_Mo_part_212 hl (by decide) rfl (fun ls hl => ?_)
                    exact tail E _ _ _ _ hE (fun _ => Nat.lt_of_not_le hh) rfl hI hl
                  · exact absurd rfl c146
            refine lv_iload hx hb d_Mo_part_64 (lv_at hl 0 rfl) ?_
            refine hw_if_eq (tgt := 246) hx hb d_Mo_part_66 (by decide) (by omega) (fun c147 => ?_) (fun c147 => ?_)
            · exact absurd c147 (by omega)
            · refine lv_aload_n hx hb d_Mo_part_69 rfl (lv_at hl 8 rfl) ?_
              refine lv_iload_n hx hb d_Mo_part_70 rfl (lv_at hl 7 rfl) ?_
              refine lv_iload hx hb d_Mo_part_71 (lv_at hl 2 rfl) ?_
              refine lv_iload hx hb d_Mo_part_73 (lv_at hl 4 rfl) ?_
              refine lv_iadd hx hb d_Mo_part_75 ?_
              refine hw_ti (nI_add _ _) ?_
              refine hw_cV (As := [.int (nI i), .int (nI (t + (ns j)))]) (rest := []) S hI m_Mo_cell w_822 (c_Mo_cell l D t0 L _ _ mm mc ml mg mw mr th c2 ns sn wt rr i (t + ns j) hm hi (by omega) h1) hm.1 rfl hl.1 rfl rfl (Nat.le_of_ble_eq_true rfl) d_Mo_part_76 ⟨Nat.le_of_ble_eq_true rfl, Nat.le_of_ble_eq_true rfl⟩ ⟨Nat.le_of_ble_eq_true rfl, Nat.le_of_ble_eq_true rfl⟩ (fun v9 L9 f148 H locs hp hI => ?_)
              refine W.cs (cells' := 0) (slots' := 0) rfl rfl ?_
              obtain ⟨hv9, rfl, rfl⟩ := hp
              cases hv9
              refine hw_stk (st' := [.int (nI (pcl c2 ns i (t + ns j)))]) rfl ?_
              refine hw_ti (show _ = nI a2 from by rw [pcl_num hB2, ← hA, ← ha2]) ?_
              refine lv_i2l (v := lN a2) hx hb d_Mo_part_79 (nI_l (by omega)) ?_
              refine hw_ldc2 (v := lN 10000) hx hb hown (hT _ w_770) d_Mo_part_80 ?_
              refine lv_lmul hx hb d_Mo_part_83 ?_
              refine hw_tl (lN_mul _ _) ?_
              refine lv_aload_n hx hb d_Mo_part_84 rfl (lv_at hl 8 rfl) ?_
              refine lv_iload_n hx hb d_Mo_part_85 rfl (lv_at hl 7 rfl) ?_
              refine lv_iload hx hb d_Mo_part_86 (lv_at hl 2 rfl) ?_
              refine lv_iload hx hb d_Mo_part_88 (lv_at hl 4 rfl) ?_
              refine lv_iadd hx hb d_Mo_part_90 ?_
              refine hw_ti (nI_add _ _) ?_
              refine lv_iconst (v := nI 1) hx hb d_Mo_part_91 (by decide) ?_
              refine lv_isub hx hb d_Mo_part_92 ?_
              refine hw_ti (pk_sub (by omega)) ?_
              refine hw_cV (As := [.int (nI i), .int (nI ((t + (ns j)) - 1))]) (rest := [.long (lN (a2 * 10000))]) S hI m_Mo_cell w_822 (c_Mo_cell l D t0 L _ _ mm mc ml mg mw mr th c2 ns sn wt rr i (t + ns j - 1) hm hi (by omega) h1) hm.1 rfl hl.1 rfl rfl (Nat.le_of_ble_eq_true rfl) d_Mo_part_93 ⟨Nat.le_of_ble_eq_true rfl, Nat.le_of_ble_eq_true rfl⟩ ⟨Nat.le_of_ble_eq_true rfl, Nat.le_of_ble_eq_true rfl⟩ (fun v9 L9 f149 H locs hp hI => ?_)
              refine W.cs (cells' := 0) (slots' := 0) rfl rfl ?_
              obtain ⟨hv9, rfl, rfl⟩ := hp
              cases hv9
              refine hw_stk (st' := [.int (nI (pcl c2 ns i (t + ns j - 1))), .long (lN (a2 * 10000))]) rfl ?_
              refine hw_ti (show _ = nI a1 from by rw [pcl_num hB2, ← hA, ← ha1]) ?_
              refine lv_i2l (v := lN a1) hx hb d_Mo_part_96 (nI_l (by omega)) ?_
              refine lv_ladd hx hb d_Mo_part_97 ?_
              refine hw_tl (lN_add _ _) ?_
              refine hw_ldc2 (v := lN 10000) hx hb hown (hT _ w_770) d_Mo_part_98 ?_
              refine lv_lmul hx hb d_Mo_part_101 ?_
              refine hw_tl (lN_mul _ _) ?_
              refine lv_aload_n hx hb d_Mo_part_102 rfl (lv_at hl 8 rfl) ?_
              refine lv_iload_n hx hb d_Mo_part_103 rfl (lv_at hl 7 rfl) ?_
              refine lv_iload hx hb d_Mo_part_104 (lv_at hl 2 rfl) ?_
              refine lv_iload hx hb d_Mo_part_106 (lv_at hl 4 rfl) ?_
              refine lv_iadd hx hb d_Mo_part_108 ?_
              refine hw_ti (nI_add _ _) ?_
              refine lv_iconst (v := nI 2) hx hb d_Mo_part_109 (by decide) ?_
              refine lv_isub hx hb d_Mo_part_110 ?_
              refine hw_cV (As := [.int (nI i), .int ((nI (t + (ns j))) - (nI 2))]) (rest := [.long (lN (((a2 * 10000) + a1) * 10000))]) S hI m_Mo_cell w_822 (c_Mo_cell2 l D t0 L _ _ mm mc ml mg mw mr th c2 ns sn wt rr i (t + ns j) hm hi (by omega) h1) hm.1 rfl hl.1 rfl rfl (Nat.le_of_ble_eq_true rfl) d_Mo_part_111 ⟨Nat.le_of_ble_eq_true rfl, Nat.le_of_ble_eq_true rfl⟩ ⟨Nat.le_of_ble_eq_true rfl, Nat.le_of_ble_eq_true rfl⟩ (fun v9 L9 f150 H locs hp hI => ?_)
              refine W.cs (cells' := 0) (slots' := 0) rfl rfl ?_
              obtain ⟨hv9, rfl, rfl⟩ := hp
              cases hv9
              refine hw_stk (st' := [.int (nI (if t + ns j < 2 then 0 else pcl c2 ns i (t + ns j - 2))), .long (lN (((a2 * 10000) + a1) * 10000))]) rfl ?_
              refine hw_ti (show _ = nI a0 from by rw [pcl_num hB2, ← hA, ← ha0]) ?_
              refine lv_i2l (v := lN a0) hx hb d_Mo_part_114 (nI_l (by omega)) ?_
              refine lv_ladd hx hb d_Mo_part_115 ?_
              refine hw_tl (lN_add _ _) ?_
              refine lv_lstore (lv' := [(9, .long (lN ((((a2 * 10000) + a1) * 10000) + a0))), (8, .int (nI 1)), (7, .int (nI dg)), (6, .int (nI t)), (5, .int (nI U)), (4, .int (nI (ns j))), (3, .int (nI q)), (2, .int (nI j)), (1, .int (nI i)), (0, .ref (mm))]) hx hb d_Mo_part_116 hl (by decide) rfl (fun ls hl => ?_)
              refine lv_aload_n hx hb d_Mo_part_118 rfl (lv_at hl 9 rfl) ?_
              refine lv_iload_n hx hb d_Mo_part_119 rfl (lv_at hl 7 rfl) ?_
              refine lv_iload hx hb d_Mo_part_120 (lv_at hl 5 rfl) ?_
              refine lv_iconst (v := nI 1) hx hb d_Mo_part_122 (by decide) ?_
              refine lv_isub hx hb d_Mo_part_123 ?_
              refine hw_ti (pk_sub (by omega)) ?_
              refine hw_cV (As := [.int (nI j), .int (nI ((ns j) - 1))]) (rest := []) S hI m_Mo_cell w_822 (c_Mo_cell l D t0 L _ _ mm mc ml mg mw mr th c2 ns sn wt rr j (ns j - 1) hm hj (by omega) h2) hm.1 rfl hl.1 rfl rfl (Nat.le_of_ble_eq_true rfl) d_Mo_part_124 ⟨Nat.le_of_ble_eq_true rfl, Nat.le_of_ble_eq_true rfl⟩ ⟨Nat.le_of_ble_eq_true rfl, Nat.le_of_ble_eq_true rfl⟩ (fun v9 L9 f151 H locs hp hI => ?_)
              refine W.cs (cells' := 0) (slots' := 0) rfl rfl ?_
              obtain ⟨hv9, rfl, rfl⟩ := hp
              cases hv9
              refine hw_stk (st' := [.int (nI (pcl c2 ns j (ns j - 1)))]) rfl ?_
              refine hw_ti (show _ = nI b1 from by rw [pcl_num hB2, hyj2, ← hb1]) ?_
              refine lv_i2l (v := lN b1) hx hb d_Mo_part_127 (nI_l (by omega)) ?_
              refine hw_ldc2 (v := lN 10000) hx hb hown (hT _ w_770) d_Mo_part_128 ?_
              refine lv_lmul hx hb d_Mo_part_131 ?_
              refine hw_tl (lN_mul _ _) ?_
              refine lv_aload_n hx hb d_Mo_part_132 rfl (lv_at hl 9 rfl) ?_
              refine lv_iload_n hx hb d_Mo_part_133 rfl (lv_at hl 7 rfl) ?_
              refine lv_iload hx hb d_Mo_part_134 (lv_at hl 5 rfl) ?_
              refine lv_iconst (v := nI 2) hx hb d_Mo_part_136 (by decide) ?_
              refine lv_isub hx hb d_Mo_part_137 ?_
              refine hw_cV (As := [.int (nI j), .int ((nI (ns j)) - (nI 2))]) (rest := [.long (lN (b1 * 10000))]) S hI m_Mo_cell w_822 (c_Mo_cell2 l D t0 L _ _ mm mc ml mg mw mr th c2 ns sn wt rr j (ns j) hm hj (by omega) h2) hm.1 rfl hl.1 rfl rfl (Nat.le_of_ble_eq_true rfl) d_Mo_part_138 ⟨Nat.le_of_ble_eq_true rfl, Nat.le_of_ble_eq_true rfl⟩ ⟨Nat.le_of_ble_eq_true rfl, Nat.le_of_ble_eq_true rfl⟩ (fun v9 L9 f152 H locs hp hI => ?_)
              refine W.cs (cells' := 0) (slots' := 0) rfl rfl ?_
              obtain ⟨hv9, rfl, rfl⟩ := hp
              cases hv9
              refine hw_stk (st' := [.int (nI (if ns j < 2 then 0 else pcl c2 ns j (ns j - 2))), .long (lN (b1 * 10000))]) rfl ?_
              refine hw_ti (show _ = nI b0 from by rw [pcl_num hB2, hyj2, ← hb0]) ?_
              refine lv_i2l (v := lN b0) hx hb d_Mo_part_141 (nI_l (by omega)) ?_
              refine lv_ladd hx hb d_Mo_part_142 ?_
              refine hw_tl (lN_add _ _) ?_
              refine lv_lconst (v := lN 1) hx hb d_Mo_part_143 rfl ?_
              refine lv_ladd hx hb d_Mo_part_144 ?_
              refine hw_tl (lN_add _ _) ?_
              refine lv_lstore (lv' := [(11, .long (lN (((b1 * 10000) + b0) + 1))), (9, .long (lN ((((a2 * 10000) + a1) * 10000) + a0))), (8, .int (nI 1)), (7, .int (nI dg)), (6, .int (nI t)), (5, .int (nI U)), (4, .int (nI (ns j))), (3, .int (nI q)), (2, .int (nI j)), (1, .int (nI i)), (0, .ref (mm))]) hx hb d_Mo_part_145 hl (by decide) rfl (fun ls hl => ?_)
              refine lv_lload hx hb d_Mo_part_147 (lv_at hl 1 rfl) ?_
              refine lv_lload hx hb d_Mo_part_149 (lv_at hl 0 rfl) ?_
              refine lv_ldiv hx hb d_Mo_part_151 (by intro h9; have h8 := (pk_lEQ (b := 0) (by omega) (by decide)).mp h9; omega) ?_
              refine hw_tl (pk_lDiv (by omega) (by omega) (by omega)) ?_
              refine lv_l2i (v := nI (((((a2 * 10000) + a1) * 10000) + a0) / (((b1 * 10000) + b0) + 1))) hx hb d_Mo_part_152 (lN_i _) ?_
              refine lv_istore (lv' := [(13, .int (nI (((((a2 * 10000) + a1) * 10000) + a0) / (((b1 * 10000) + b0) + 1)))), (11, .long (lN (((b1 * 10000) + b0) + 1))), (9, .long (lN ((((a2 * 10000) + a1) * 10000) + a0))), (8, .int (nI 1)), (7, .int (nI dg)), (6, .int (nI t)), (5, .int (nI U)), (4, .int (nI (ns j))), (3, .int (nI q)), (2, .int (nI j)), (1, .int (nI i)), (0, .ref (mm))]) hx hb d_Mo_part_153 hl (by decide) rfl (fun ls hl => ?_)
              refine lv_iload hx hb d_Mo_part_155 (lv_at hl 7 rfl) ?_
              refine lv_iconst (v := nI 1) hx hb d_Mo_part_157 (by decide) ?_
              refine hw_icmp_ne (tgt := 186) hx hb d_Mo_part_158 (by decide) (by omega) (by omega) (fun c153 => ?_) (fun c153 => ?_)
              · refine lv_iload hx hb d_Mo_part_186 (lv_at hl 0 rfl) ?_
                refine lv_istore (lv' := [(13, .int (nI (((((a2 * 10000) + a1) * 10000) + a0) / (((b1 * 10000) + b0) + 1)))), (11, .long (lN (((b1 * 10000) + b0) + 1))), (9, .long (lN ((((a2 * 10000) + a1) * 10000) + a0))), (8, .int (nI 1)), (7, .int (nI dg)), (6, .int (nI t)), (5, .int (nI U)), (4, .int (nI (ns j))), (3, .int (nI q)), (2, .int (nI j)), (1, .int (nI i)), (0, .ref (mm))]) hx hb d_Mo_part_188 hl (by decide) rfl (fun ls hl => ?_)
                exact join _ _ _ _ _ hest rfl hI (lv_sub hl [0, 4, 5, 6, 7, 8, 9, 10, 11] rfl)
              · refine lv_iload hx hb d_Mo_part_161 (lv_at hl 5 rfl) ?_
                refine hw_if_ne (tgt := 186) hx hb d_Mo_part_163 (by decide) (by omega) (fun c154 => ?_) (fun c154 => ?_)
                · refine lv_iload hx hb d_Mo_part_186 (lv_at hl 0 rfl) ?_
                  refine lv_istore (lv' := [(13, .int (nI (((((a2 * 10000) + a1) * 10000) + a0) / (((b1 * 10000) + b0) + 1)))), (11, .long (lN (((b1 * 10000) + b0) + 1))), (9, .long (lN ((((a2 * 10000) + a1) * 10000) + a0))), (8, .int (nI 1)), (7, .int (nI dg)), (6, .int (nI t)), (5, .int (nI U)), (4, .int (nI (ns j))), (3, .int (nI q)), (2, .int (nI j)), (1, .int (nI i)), (0, .ref (mm))]) hx hb d_Mo_part_188 hl (by decide) rfl (fun ls hl => ?_)
                  exact join _ _ _ _ _ hest rfl hI (lv_sub hl [0, 4, 5, 6, 7, 8, 9, 10, 11] rfl)
                · have hn1 : ns j = 1 := by omega
                  have ht0 : t = 0 := by omega
                  refine lv_lload hx hb d_Mo_part_166 (lv_at hl 2 rfl) ?_
                  refine hw_ldc2 (v := lN 10000) hx hb hown (hT _ w_770) d_Mo_part_168 ?_
                  refine lv_ldiv hx hb d_Mo_part_171 (by intro h9; have h8 := (pk_lEQ (b := 0) (by omega) (by decide)).mp h9; omega) ?_
                  refine hw_tl (pk_lDiv (by omega) (by omega) (by omega)) ?_
                  refine lv_aload_n hx hb d_Mo_part_172 rfl (lv_at hl 11 rfl) ?_
                  refine lv_iload_n hx hb d_Mo_part_173 rfl (lv_at hl 9 rfl) ?_
                  refine lv_iconst (v := nI 0) hx hb d_Mo_part_174 (by decide) ?_
                  refine hw_cV (As := [.int (nI j), .int (nI 0)]) (rest := [.long (lN (((((a2 * 10000) + a1) * 10000) + a0) / 10000))]) S hI m_Mo_cell w_822 (c_Mo_cell l D t0 L _ _ mm mc ml mg mw mr th c2 ns sn wt rr j 0 hm hj (by omega) h2) hm.1 rfl hl.1 rfl rfl (Nat.le_of_ble_eq_true rfl) d_Mo_part_175 ⟨Nat.le_of_ble_eq_true rfl, Nat.le_of_ble_eq_true rfl⟩ ⟨Nat.le_of_ble_eq_true rfl, Nat.le_of_ble_eq_true rfl⟩ (fun v9 L9 f155 H locs hp hI => ?_)
                  refine W.cs (cells' := 0) (slots' := 0) rfl rfl ?_
                  obtain ⟨hv9, rfl, rfl⟩ := hp
                  cases hv9
                  refine hw_stk (st' := [.int (nI (pcl c2 ns j 0)), .long (lN (((((a2 * 10000) + a1) * 10000) + a0) / 10000))]) rfl ?_
                  have hyl9 : y j < 10000 := by rw [hn1, Nat.pow_one] at hyjl; exact hyjl
                  refine hw_ti (show _ = nI (y j) from by rw [pcl_num hB2, hyj2, Nat.pow_zero, Nat.div_one, Nat.mod_eq_of_lt hyl9]) ?_
                  have hest0 : ((a2 * 10000 + a1) * 10000 + a0) / 10000 / (y j + 1) * P ≤ A := by rw [ha2, ha1, ha0, hP, hn1, ht0, if_pos (by decide), Nat.pow_zero, Nat.mul_one]; exact est0 (by rw [hn1, ht0] at hPM; omega)
                  refine lv_i2l (v := lN (y j)) hx hb d_Mo_part_178 (nI_l (by omega)) ?_
                  refine lv_lconst (v := lN 1) hx hb d_Mo_part_179 rfl ?_
                  refine lv_ladd hx hb d_Mo_part_180 ?_
                  refine hw_tl (lN_add _ _) ?_
                  refine lv_ldiv hx hb d_Mo_part_181 (by intro h9; have h8 := (pk_lEQ (b := 0) (by omega) (by decide)).mp h9; omega) ?_
                  refine hw_tl (pk_lDiv (by omega) (by omega) (by omega)) ?_
                  refine lv_l2i (v := nI ((((((a2 * 10000) + a1) * 10000) + a0) / 10000) / ((y j) + 1))) hx hb d_Mo_part_182 (lN_i _) ?_
                  refine lv_goto (tgt := 188) hx hb d_Mo_part_183 (by decide) ?_
                  refine lv_istore (lv' := [(13, .int (nI ((((((a2 * 10000) + a1) * 10000) + a0) / 10000) / ((y j) + 1)))), (11, .long (lN (((b1 * 10000) + b0) + 1))), (9, .long (lN ((((a2 * 10000) + a1) * 10000) + a0))), (8, .int (nI 1)), (7, .int (nI dg)), (6, .int (nI t)), (5, .int (nI U)), (4, .int (nI (ns j))), (3, .int (nI q)), (2, .int (nI j)), (1, .int (nI i)), (0, .ref (mm))]) hx hb d_Mo_part_188 hl (by decide) rfl (fun ls hl => ?_)
                  exact join _ _ _ _ _ hest0 rfl hI (lv_sub hl [0, 4, 5, 6, 7, 8, 9, 10, 11] rfl)
        refine lv_iconst (v := nI 0) hx hb d_Mo_part_58 (by decide) ?_
        refine lv_istore (lv' := [(7, .int (nI 0)), (6, .int (nI t)), (5, .int (nI U)), (4, .int (nI (ns j))), (3, .int (nI q)), (2, .int (nI j)), (1, .int (nI i)), (0, .ref (mm))]) hx hb d_Mo_part_59 hl (by decide) rfl (fun ls hl => ?_)
        refine lv_iconst (v := nI 1) hx hb d_Mo_part_61 (by decide) ?_
        refine lv_istore (lv' := [(8, .int (nI 1)), (7, .int (nI 0)), (6, .int (nI t)), (5, .int (nI U)), (4, .int (nI (ns j))), (3, .int (nI q)), (2, .int (nI j)), (1, .int (nI i)), (0, .ref (mm))]) hx hb d_Mo_part_62 hl (by decide) rfl (fun ls hl => ?_)
        exact inner 10000 0 c1 _ _ _ _ (by omega) hB (fun _ _ => rfl) (by rw [Nat.zero_mul, Nat.add_zero]) hm hF hI hl
    have loop : ∀ (g t : Nat) (c1 : Nat → Nat) (f1 : Nat → va_E) (H : Heap) (locs : List Loc) (ls : Array Slot), t + g = U + 1 → (∀ k, c1 k < 10000) → (∀ k, k < 128 * q ∨ 128 * q + 128 ≤ k → c1 k = cs k) → (∀ k, k < t → c1 (128 * q + k) = 0) → Mb D L f1 mm mc ml mg mw mr th c1 ns sn wt rr → Fo mm mc ml mg mw mr f f1 → hw_I D t0 (hw_A L s.heap.size) s L f1 H locs → lv_has ls 14 [(6, .int (nI t)), (5, .int (nI U)), (4, .int (nI (ns j))), (3, .int (nI q)), (2, .int (nI j)), (1, .int (nI i)), (0, .ref (mm))] → W p l e (headSpec (Cond.code y_Mo_part b_Mo_part 14 none :: TT) ({ frames := 2, cells := 0, slots := 0, locals := 50 } : Room)).room s m ([.ref (mm), .int (nI i), .int (nI j), .int (nI q)]).toArray below meth c H locs 0 0 (MQ below (hw_Q D L s.heap.size (fun oc L' f' => oc = .returned none ∧ L = L' ∧ Mn D L f' mm mc ml mg mw mr th (va_up (va_up y i (y i % y j)) q (y i / y j)) sn wt rr ∧ Fo mm mc ml mg mw mr f f')) ([.ref (mm), .int (nI i), .int (nI j), .int (nI q)]).toArray s 0 0 (hw_A L s.heap.size)) (F0 m 22 ls []) := by
      intro g
      induction g with
      | zero =>
        intro t c1 f1 H locs ls htg hB ho hz hm hF hI hl
        refine lv_iload hx hb d_Mo_part_22 (lv_at hl 0 rfl) ?_
        refine lv_iload hx hb d_Mo_part_24 (lv_at hl 1 rfl) ?_
        refine hw_icmp_gt (tgt := 49) hx hb d_Mo_part_26 (by decide) (by omega) (by omega) (fun c156 => ?_) (fun c156 => ?_)
        · refine lv_iload hx hb d_Mo_part_49 (lv_at hl 1 rfl) ?_
          refine hw_ti (show _ = mI (U + 1) from (mI_s U).symm) ?_
          refine lv_istore (lv' := [(6, .int (mI (U + 1))), (5, .int (nI U)), (4, .int (nI (ns j))), (3, .int (nI q)), (2, .int (nI j)), (1, .int (nI i)), (0, .ref (mm))]) hx hb d_Mo_part_51 hl (by decide) rfl (fun ls hl => ?_)
          have hq0 : nvb 10000 (nsh c1 (128 * q)) (U + 1) = 0 := by rw [nvb_zeros (b := 10000) (f := nsh c1 (128 * q)) (n := 0) (Nat.zero_le _) (fun k _ hk => hz k (by omega)), nvb_zero]
          have hrow : nvb 10000 (nsh c1 (128 * i)) (ns i) = y i := by rw [← hyi]; exact nvb_congr (fun k hk => ho _ (by omega))
          exact outer (U + 1) c1 _ _ _ _ (Nat.le_refl _) hB (fun k _ k2 => ho k k2) (by rw [hq0, Nat.zero_mul, Nat.zero_add]; exact hrow) (by rw [hrow]; exact first_lt hU hNj (hc.lt hi) ((hc.2 j hj).2.ge hNj)) (fun k hk => hz k (by omega)) hm hF hI hl
        · exact absurd c156 (by omega)
      | succ g ih =>
        intro t c1 f1 H locs ls htg hB ho hz hm hF hI hl
        refine lv_iload hx hb d_Mo_part_22 (lv_at hl 0 rfl) ?_
        refine lv_iload hx hb d_Mo_part_24 (lv_at hl 1 rfl) ?_
        refine hw_icmp_gt (tgt := 49) hx hb d_Mo_part_26 (by decide) (by omega) (by omega) (fun c157 => ?_) (fun c157 => ?_)
        · exact absurd c157 (by omega)
        · refine lv_aload_n hx hb d_Mo_part_29 rfl (lv_at hl 6 rfl) ?_
          refine ob_get S hI hm.1 (C := R_Mo) (T := F_Mo) (N := 6) (ref := "WallFractionsModel") rfl i_Mo 1 (by decide) rfl w_772 rfl d_Mo_part_30 ?_
          refine lv_sipush (v := nI 128) hx hb d_Mo_part_33 (by decide) ?_
          refine lv_iload_n hx hb d_Mo_part_36 rfl (lv_at hl 3 rfl) ?_
          refine lv_imul hx hb d_Mo_part_37 ?_
          refine hw_ti (pk_mul _ _) ?_
          refine lv_iload hx hb d_Mo_part_38 (lv_at hl 0 rfl) ?_
          refine lv_iadd hx hb d_Mo_part_40 ?_
          refine hw_ti (nI_add _ _) ?_
          refine lv_iconst (v := nI 0) hx hb d_Mo_part_41 (by decide) ?_
          refine ia_st S hI hm.2.1 (by decide) (by omega) d_Mo_part_42 (fun f158 H locs hI hR9 hf158 => ?_)
          have hm := hm.umc hf158 hR9
          have hF := hF.umc hf158
          refine lv_iinc (v := nI (t + 1)) (lv' := [(6, .int (nI (t + 1))), (5, .int (nI U)), (4, .int (nI (ns j))), (3, .int (nI q)), (2, .int (nI j)), (1, .int (nI i)), (0, .ref (mm))]) hx hb d_Mo_part_43 hl (k := 0) rfl (nI_1 _) (by decide) rfl (fun ls hl => ?_)
          refine lv_goto (tgt := 22) hx hb d_Mo_part_46 (by decide) ?_
          exact ih (t + 1) _ _ _ _ _ (by omega) (upB hB mpos) (fun k hk => by rw [hw_up_ne (by omega)]; exact ho k hk) (fun k hk => by by_cases e9 : k = t; (subst e9; rw [hw_up_eq]); (rw [hw_up_ne (by omega)]; exact hz k (by omega))) hm hF hI hl
    refine lv_aload_n hx hb d_Mo_part_0 rfl (lv_at hl 0 rfl) ?_
    refine ob_get S hI hm.1 (C := R_Mo) (T := F_Mo) (N := 6) (ref := "WallFractionsModel") rfl i_Mo 2 (by decide) rfl w_773 rfl d_Mo_part_1 ?_
    refine lv_iload_n hx hb d_Mo_part_4 rfl (lv_at hl 2 rfl) ?_
    refine ia_ld S hI hm.2.2.1 (by decide) (by omega) d_Mo_part_5 ?_
    refine lv_istore (lv' := [(4, .int (nI (ns j))), (0, .ref (mm)), (1, .int (nI i)), (2, .int (nI j)), (3, .int (nI q))]) hx hb d_Mo_part_6 hl (by decide) rfl (fun ls hl => ?_)
    refine lv_aload_n hx hb d_Mo_part_8 rfl (lv_at hl 1 rfl) ?_
    refine ob_get S hI hm.1 (C := R_Mo) (T := F_Mo) (N := 6) (ref := "WallFractionsModel") rfl i_Mo 2 (by decide) rfl w_773 rfl d_Mo_part_9 ?_
    refine lv_iload_n hx hb d_Mo_part_12 rfl (lv_at hl 2 rfl) ?_
    refine ia_ld S hI hm.2.2.1 (by decide) (by omega) d_Mo_part_13 ?_
    refine lv_iload hx hb d_Mo_part_14 (lv_at hl 0 rfl) ?_
    refine lv_isub hx hb d_Mo_part_16 ?_
    refine hw_ti (pk_sub (by omega)) ?_
    refine hw_ti (show _ = nI U from by rw [hU, Nat.add_sub_cancel_left]) ?_
    refine lv_istore (lv' := [(5, .int (nI U)), (4, .int (nI (ns j))), (0, .ref (mm)), (1, .int (nI i)), (2, .int (nI j)), (3, .int (nI q))]) hx hb d_Mo_part_17 hl (by decide) rfl (fun ls hl => ?_)
    refine lv_iconst (v := nI 0) hx hb d_Mo_part_19 (by decide) ?_
    refine lv_istore (lv' := [(6, .int (nI 0)), (5, .int (nI U)), (4, .int (nI (ns j))), (0, .ref (mm)), (1, .int (nI i)), (2, .int (nI j)), (3, .int (nI q))]) hx hb d_Mo_part_20 hl (by decide) rfl (fun ls hl => ?_)
    exact loop (U + 1) 0 cs _ _ _ _ (by omega) hc.1 (fun _ _ => rfl) (fun k hk => absurd hk (by omega)) hm hF hI (lv_sub hl [0, 1, 2, 6, 5, 4, 3] rfl)

def sgI (u : Rg) : Int32 := if u.1 = 0 then nI 0 else if u.2.2 then -1 else nI 1
def fitR (t : Rg) : Bool := decide (t.1 < nB ^ 20 ∧ t.2.1 < nB ^ 20)
def RM (σ : Sg) (y : Nat → Nat) (sn : Nat → Int32) : Prop := ∀ k, k < 16 → y k = (σ k).1 ∧ y (16 + k) = (σ k).2.1 ∧ sn k = sgI (σ k)
theorem RM.of {σ : Sg} {y y' : Nat → Nat} {sn : Nat → Int32} (h : RM σ y sn) (hy : ∀ k, k < 32 → y' k = y k) : RM σ y' sn := fun k hk => ⟨(hy k (by omega)).trans (h k hk).1, (hy _ (by omega)).trans (h k hk).2.1, (h k hk).2.2⟩
theorem RM.up {σ : Sg} {y : Nat → Nat} {sn : Nat → Int32} (h : RM σ y sn) {i x : Nat} (hi : 32 ≤ i) : RM σ (va_up y i x) sn := h.of (fun k hk => hw_up_ne (by omega))
theorem RM.put {σ : Sg} {y : Nat → Nat} {sn : Nat → Int32} (h : RM σ y sn) {r : Nat} {t : Rg} (hr : r < 16) : RM (va_up σ r t) (va_up (va_up y r t.1) (16 + r) t.2.1) (va_up sn r (sgI t)) := by
  intro k hk
  by_cases e : k = r
  · subst e
    rw [hw_up_eq, hw_up_eq, hw_up_ne (show k ≠ 16 + k by omega), hw_up_eq, hw_up_eq]
    exact ⟨rfl, rfl, rfl⟩
  · rw [hw_up_ne e, hw_up_ne e, hw_up_ne (show k ≠ 16 + r by omega), hw_up_ne e, hw_up_ne (show 16 + k ≠ 16 + r by omega), hw_up_ne (show 16 + k ≠ r by omega)]
    exact h k hk
theorem putR_eq {c : Nat} {σ : Sg} {r : Int32} {t : Rg} : putR c σ r t = if fitR t = true then (0, va_up σ (ix r) t) else (c, σ) := by
  unfold putR fitR
  by_cases h : t.1 < nB ^ 20 ∧ t.2.1 < nB ^ 20
  · rw [if_pos h, if_pos (decide_eq_true h)]
  · rw [if_neg h, if_neg (by rw [decide_eq_false h]; decide)]
def Mg (D : va_G) (L : List Nat) (f : Nat → va_E) (mm mc ml mg mw mr : Nat) (th : Int32) (σ : Sg) (wt : Nat → Nat) : Prop := ∃ y sn rr, Mn D L f mm mc ml mg mw mr th y sn wt rr ∧ RM σ y sn
theorem m45 : (10000 : Nat) ^ 45 = nB ^ 20 := by decide +kernel
theorem nOk_one4 {n x : Nat} {h : Nat → Nat} (hk : nOk 10000 n h x) : (n = 1 ∧ h 0 = 1) ↔ x = 1 := by
  constructor
  · rintro ⟨rfl, h0⟩
    have := hk.2.2
    rw [nvb_succ, nvb_zero, h0] at this
    omega
  · intro e
    subst e
    have h1 : n ≤ 1 := (hk.size_le m1).mpr (by decide)
    have h2 : n ≠ 0 := fun h => absurd ((hk.zero mpos).mp h) (by decide)
    obtain rfl : n = 1 := by omega
    have := hk.2.2
    rw [nvb_succ, nvb_zero] at this
    omega
set_option maxHeartbeats 4000000 in
set_option maxRecDepth 100000 in
theorem c_Mo_divisor (l : Launch) (D : va_G) (t0 : Nat) (L : List Nat) (f : Nat → va_E) (sz : Nat) (mm mc ml mg mw mr : Nat) (th : Int32) (y : Nat → Nat) (sn : Nat → Int32) (wt rr : Nat → Nat) (i j : Nat) (hn : Mn D L f mm mc ml mg mw mr th y sn wt rr) (hi : i < 35) (hj : j < 35) : Met l y_Mo_divisor (Cond.code y_Mo_divisor b_Mo_divisor 6 (some .int) :: TT) ({ frames := 3, cells := 0, slots := 0, locals := 83 } : Room) (hw_Pc t0 [.ref (mm), .int (nI i), .int (nI j)] D L f sz) (hw_Q D L sz (fun oc L' f' => ∃ d' y', oc = .returned (some (.int (nI d'))) ∧ L = L' ∧ (d' = 35 ∨ d' = 36) ∧ y' d' = Nat.gcd (y i) (y j) ∧ (∀ k, k < 35 → y' k = y k) ∧ Mn D L f' mm mc ml mg mw mr th y' sn wt rr ∧ Fo mm mc ml mg mw mr f f')) 0 0 (hw_A L sz) := by
  refine Met.ofW (cc := b_Mo_divisor) (maxL := 6) (ret := (some .int)) (by decide) rfl ?_
  intro p e s m args below meth c s₁ B hml hv
  obtain ⟨rfl, rfl, hI⟩ := hw_start hv
  clear hv
  have hx := B.exec
  have hb := B.bytes
  have hr := B.returns
  have hlocks := B.notSynchronized
  have hown : s.vm.findClass "WallFractionsModel" = some m.cls := findClass_of_methodNamed B.named
  have hT : ∀ w ∈ TT, w.before ([.ref (mm), .int (nI i), .int (nI j)]).toArray s = true := fun w h => atoms_spec (ws := (Cond.code y_Mo_divisor b_Mo_divisor 6 (some .int) :: TT)) B.pre w (List.mem_cons_of_mem _ h)
  have S : CallFix p m c b_Mo_divisor 6 s ([.ref (mm), .int (nI i), .int (nI j)]).toArray TT "WallFractionsModel" := ⟨hx, hb, hml, hown, hT⟩
  have hl := lv_entry ([.ref (mm), .int (nI i), .int (nI j)]) (n := 6) (Nat.le_of_ble_eq_true rfl)
  rw [lg_entry_eq]
  generalize (lg_sl ([.ref (mm), .int (nI i), .int (nI j)]) ++ List.replicate (6 - (lg_sl ([.ref (mm), .int (nI i), .int (nI j)])).length) Slot.unset).toArray = ls at hl ⊢
  have hl : lv_has ls 6 [(0, .ref (mm)), (1, .int (nI i)), (2, .int (nI j))] := hl
  skip
  have hF : Fo mm mc ml mg mw mr f f := Fo.refl
  obtain ⟨cs, ns, hm, hc⟩ := id hn
  have loop : ∀ (g u v : Nat) (y1 : Nat → Nat) (f1 : Nat → va_E) (H : Heap) (locs : List Loc) (ls : Array Slot), y1 v ≤ g → (u = 35 ∧ v = 36 ∨ u = 36 ∧ v = 35) → Nat.gcd (y1 u) (y1 v) = Nat.gcd (y i) (y j) → (∀ k, k < 35 → y1 k = y k) → Mn D L f1 mm mc ml mg mw mr th y1 sn wt rr → Fo mm mc ml mg mw mr f f1 → hw_I D t0 (hw_A L s.heap.size) s L f1 H locs → lv_has ls 6 [(4, .int (nI v)), (3, .int (nI u)), (0, .ref (mm))] → W p l e (headSpec (Cond.code y_Mo_divisor b_Mo_divisor 6 (some .int) :: TT) ({ frames := 3, cells := 0, slots := 0, locals := 83 } : Room)).room s m ([.ref (mm), .int (nI i), .int (nI j)]).toArray below meth c H locs 0 0 (MQ below (hw_Q D L s.heap.size (fun oc L' f' => ∃ d' y', oc = .returned (some (.int (nI d'))) ∧ L = L' ∧ (d' = 35 ∨ d' = 36) ∧ y' d' = Nat.gcd (y i) (y j) ∧ (∀ k, k < 35 → y' k = y k) ∧ Mn D L f' mm mc ml mg mw mr th y' sn wt rr ∧ Fo mm mc ml mg mw mr f f')) ([.ref (mm), .int (nI i), .int (nI j)]).toArray s 0 0 (hw_A L s.heap.size)) (F0 m 20 ls []) := by
    intro g
    induction g with
    | zero =>
      intro u v y1 f1 H locs ls hg huv hG hk hn hF hI hl
      obtain ⟨cs, ns, hm, hc⟩ := id hn
      refine lv_aload_n hx hb d_Mo_divisor_20 rfl (lv_at hl 2 rfl) ?_
      refine lv_iload hx hb d_Mo_divisor_21 (lv_at hl 0 rfl) ?_
      refine hw_cV (As := [.int (nI v)]) (rest := []) S hI m_Mo_isZero w_814 (c_Mo_isZero l D t0 L _ _ mm mc ml mg mw mr th y1 sn wt rr v hn (by omega)) hm.1 rfl hl.1 rfl rfl (Nat.le_of_ble_eq_true rfl) d_Mo_divisor_23 ⟨Nat.le_of_ble_eq_true rfl, Nat.le_of_ble_eq_true rfl⟩ ⟨Nat.le_of_ble_eq_true rfl, Nat.le_of_ble_eq_true rfl⟩ (fun v9 L9 f101 H locs hp hI => ?_)
      refine W.cs (cells' := 0) (slots' := 0) rfl rfl ?_
      obtain ⟨hv9, rfl, rfl⟩ := hp
      cases hv9
      refine hw_stk (st' := [.int (if y1 v = 0 then nI 1 else nI 0)]) rfl ?_
      by_cases h0 : y1 v = 0
      · refine hw_ti (show _ = nI 1 from by rw [if_pos h0]) ?_
        refine hw_if_ne (tgt := 51) hx hb d_Mo_divisor_26 (by decide) (by omega) (fun c102 => ?_) (fun c102 => ?_)
        · refine lv_iload_n hx hb d_Mo_divisor_51 rfl (lv_at hl 1 rfl) ?_
          exact hw_iret hx hb hr hlocks hI d_Mo_divisor_52 ⟨u, y1, rfl, rfl, huv.imp (fun h => h.1) (fun h => h.1), by rw [← hG, h0, Nat.gcd_zero_right], hk, hn, hF⟩
        · exact absurd c102 (by decide)
      · refine hw_ti (show _ = nI 0 from by rw [if_neg h0]) ?_
        refine hw_if_ne (tgt := 51) hx hb d_Mo_divisor_26 (by decide) (by omega) (fun c103 => ?_) (fun c103 => ?_)
        · exact absurd rfl c103
        · exact absurd hg (by omega)
    | succ g ih =>
      intro u v y1 f1 H locs ls hg huv hG hk hn hF hI hl
      obtain ⟨cs, ns, hm, hc⟩ := id hn
      refine lv_aload_n hx hb d_Mo_divisor_20 rfl (lv_at hl 2 rfl) ?_
      refine lv_iload hx hb d_Mo_divisor_21 (lv_at hl 0 rfl) ?_
      refine hw_cV (As := [.int (nI v)]) (rest := []) S hI m_Mo_isZero w_814 (c_Mo_isZero l D t0 L _ _ mm mc ml mg mw mr th y1 sn wt rr v hn (by omega)) hm.1 rfl hl.1 rfl rfl (Nat.le_of_ble_eq_true rfl) d_Mo_divisor_23 ⟨Nat.le_of_ble_eq_true rfl, Nat.le_of_ble_eq_true rfl⟩ ⟨Nat.le_of_ble_eq_true rfl, Nat.le_of_ble_eq_true rfl⟩ (fun v9 L9 f104 H locs hp hI => ?_)
      refine W.cs (cells' := 0) (slots' := 0) rfl rfl ?_
      obtain ⟨hv9, rfl, rfl⟩ := hp
      cases hv9
      refine hw_stk (st' := [.int (if y1 v = 0 then nI 1 else nI 0)]) rfl ?_
      by_cases h0 : y1 v = 0
      · refine hw_ti (show _ = nI 1 from by rw [if_pos h0]) ?_
        refine hw_if_ne (tgt := 51) hx hb d_Mo_divisor_26 (by decide) (by omega) (fun c105 => ?_) (fun c105 => ?_)
        · refine lv_iload_n hx hb d_Mo_divisor_51 rfl (lv_at hl 1 rfl) ?_
          exact hw_iret hx hb hr hlocks hI d_Mo_divisor_52 ⟨u, y1, rfl, rfl, huv.imp (fun h => h.1) (fun h => h.1), by rw [← hG, h0, Nat.gcd_zero_right], hk, hn, hF⟩
        · exact absurd c105 (by decide)
      · refine hw_ti (show _ = nI 0 from by rw [if_neg h0]) ?_
        refine hw_if_ne (tgt := 51) hx hb d_Mo_divisor_26 (by decide) (by omega) (fun c106 => ?_) (fun c106 => ?_)
        · exact absurd rfl c106
        · refine lv_aload_n hx hb d_Mo_divisor_29 rfl (lv_at hl 2 rfl) ?_
          refine lv_iload_n hx hb d_Mo_divisor_30 rfl (lv_at hl 1 rfl) ?_
          refine lv_iload hx hb d_Mo_divisor_31 (lv_at hl 0 rfl) ?_
          refine lv_bipush (v := nI 37) hx hb d_Mo_divisor_33 (by decide) ?_
          refine hw_cV (As := [.int (nI u), .int (nI v), .int (nI 37)]) (rest := []) S hI m_Mo_part w_818 (c_Mo_part l D t0 L _ _ mm mc ml mg mw mr th y1 sn wt rr u v 37 hn (by omega) (by omega) (by decide) (by omega) (by omega) (by omega) (by omega)) hm.1 rfl hl.1 rfl rfl (Nat.le_of_ble_eq_true rfl) d_Mo_divisor_35 ⟨Nat.le_of_ble_eq_true rfl, Nat.le_of_ble_eq_true rfl⟩ ⟨Nat.le_of_ble_eq_true rfl, Nat.le_of_ble_eq_true rfl⟩ (fun v9 L9 f107 H locs hp hI => ?_)
          refine W.cs (cells' := 0) (slots' := 0) rfl rfl ?_
          obtain ⟨hv9, rfl, hn, hF9⟩ := hp
          cases hv9
          refine hw_stk (st' := []) rfl ?_
          have hlt9 := Nat.mod_lt (y1 u) (Nat.pos_of_ne_zero h0)
          refine lv_iload_n hx hb d_Mo_divisor_38 rfl (lv_at hl 1 rfl) ?_
          refine lv_istore (lv' := [(5, .int (nI u)), (4, .int (nI v)), (3, .int (nI u)), (0, .ref (mm))]) hx hb d_Mo_divisor_39 hl (by decide) rfl (fun ls hl => ?_)
          refine lv_iload hx hb d_Mo_divisor_41 (lv_at hl 1 rfl) ?_
          refine lv_istore_n (lv' := [(3, .int (nI v)), (5, .int (nI u)), (4, .int (nI v)), (0, .ref (mm))]) hx hb d_Mo_divisor_43 rfl hl (by decide) rfl (fun ls hl => ?_)
          refine lv_iload hx hb d_Mo_divisor_44 (lv_at hl 1 rfl) ?_
          refine lv_istore (lv' := [(4, .int (nI u)), (3, .int (nI v)), (5, .int (nI u)), (0, .ref (mm))]) hx hb d_Mo_divisor_46 hl (by decide) rfl (fun ls hl => ?_)
          refine lv_goto (tgt := 20) hx hb d_Mo_divisor_48 (by decide) ?_
          exact ih v u _ _ _ _ _ (by rw [hw_up_ne (by omega), hw_up_eq]; omega) (by omega) (by rw [hw_up_ne (by omega), hw_up_ne (by omega), hw_up_ne (by omega), hw_up_eq, ← hG]; exact (Nat.gcd_comm _ _).trans ((Nat.gcd_rec (y1 v) (y1 u)).symm.trans (Nat.gcd_comm _ _))) (fun k hk9 => by rw [hw_up_ne (by omega), hw_up_ne (by omega)]; exact hk k hk9) hn (hF.trans hF9) hI (lv_sub hl [0, 1, 3] rfl)
  refine lv_bipush (v := nI 35) hx hb d_Mo_divisor_0 (by decide) ?_
  refine lv_istore_n (lv' := [(3, .int (nI 35)), (0, .ref (mm)), (1, .int (nI i)), (2, .int (nI j))]) hx hb d_Mo_divisor_2 rfl hl (by decide) rfl (fun ls hl => ?_)
  refine lv_bipush (v := nI 36) hx hb d_Mo_divisor_3 (by decide) ?_
  refine lv_istore (lv' := [(4, .int (nI 36)), (3, .int (nI 35)), (0, .ref (mm)), (1, .int (nI i)), (2, .int (nI j))]) hx hb d_Mo_divisor_5 hl (by decide) rfl (fun ls hl => ?_)
  refine lv_aload_n hx hb d_Mo_divisor_7 rfl (lv_at hl 2 rfl) ?_
  refine lv_iload_n hx hb d_Mo_divisor_8 rfl (lv_at hl 1 rfl) ?_
  refine lv_iload_n hx hb d_Mo_divisor_9 rfl (lv_at hl 3 rfl) ?_
  refine hw_cV (As := [.int (nI 35), .int (nI i)]) (rest := []) S hI m_Mo_copy w_810 (c_Mo_copy l D t0 L _ _ mm mc ml mg mw mr th y sn wt rr 35 i hn (by decide) (by omega)) hm.1 rfl hl.1 rfl rfl (Nat.le_of_ble_eq_true rfl) d_Mo_divisor_10 ⟨Nat.le_of_ble_eq_true rfl, Nat.le_of_ble_eq_true rfl⟩ ⟨Nat.le_of_ble_eq_true rfl, Nat.le_of_ble_eq_true rfl⟩ (fun v9 L9 f108 H locs hp hI => ?_)
  refine W.cs (cells' := 0) (slots' := 0) rfl rfl ?_
  obtain ⟨hv9, rfl, hn, hF9⟩ := hp
  cases hv9
  refine hw_stk (st' := []) rfl ?_
  have hF := hF.trans hF9
  obtain ⟨cs, ns, hm, hc⟩ := id hn
  refine lv_aload_n hx hb d_Mo_divisor_13 rfl (lv_at hl 2 rfl) ?_
  refine lv_iload hx hb d_Mo_divisor_14 (lv_at hl 0 rfl) ?_
  refine lv_iload_n hx hb d_Mo_divisor_16 rfl (lv_at hl 4 rfl) ?_
  refine hw_cV (As := [.int (nI 36), .int (nI j)]) (rest := []) S hI m_Mo_copy w_810 (c_Mo_copy l D t0 L _ _ mm mc ml mg mw mr th _ sn wt rr 36 j hn (by decide) (by omega)) hm.1 rfl hl.1 rfl rfl (Nat.le_of_ble_eq_true rfl) d_Mo_divisor_17 ⟨Nat.le_of_ble_eq_true rfl, Nat.le_of_ble_eq_true rfl⟩ ⟨Nat.le_of_ble_eq_true rfl, Nat.le_of_ble_eq_true rfl⟩ (fun v9 L9 f109 H locs hp hI => ?_)
  refine W.cs (cells' := 0) (slots' := 0) rfl rfl ?_
  obtain ⟨hv9, rfl, hn, hF9⟩ := hp
  cases hv9
  refine hw_stk (st' := []) rfl ?_
  have hF := hF.trans hF9
  exact loop _ 35 36 _ _ _ _ _ (Nat.le_refl _) (Or.inl ⟨rfl, rfl⟩) (by rw [hw_up_eq, hw_up_ne (by decide), hw_up_eq, hw_up_ne (by omega)]) (fun k hk => by rw [hw_up_ne (by omega), hw_up_ne (by omega)]) hn hF hI (lv_sub hl [0, 1, 2] rfl)
set_option maxHeartbeats 4000000 in
set_option maxRecDepth 100000 in
theorem c_Mo_digitsIn (l : Launch) (D : va_G) (t0 : Nat) (L : List Nat) (f : Nat → va_E) (sz : Nat) (mm mc ml mg mw mr : Nat) (th : Int32) (y : Nat → Nat) (sn : Nat → Int32) (wt rr : Nat → Nat) (i : Nat) (hn : Mn D L f mm mc ml mg mw mr th y sn wt rr) (hi : i < 50) : Met l y_Mo_digitsIn (Cond.code y_Mo_digitsIn b_Mo_digitsIn 4 (some .int) :: TT) ({ frames := 1, cells := 0, slots := 0, locals := 22 } : Room) (hw_Pc t0 [.ref (mm), .int (nI i)] D L f sz) (hw_Q D L sz (fun oc L' f' => oc = .returned (some (.int (nI (dl (y i))))) ∧ L = L' ∧ f = f')) 0 0 (hw_A L sz) := by
  refine Met.ofW (cc := b_Mo_digitsIn) (maxL := 4) (ret := (some .int)) (by decide) rfl ?_
  intro p e s m args below meth c s₁ B hml hv
  obtain ⟨rfl, rfl, hI⟩ := hw_start hv
  clear hv
  have hx := B.exec
  have hb := B.bytes
  have hr := B.returns
  have hlocks := B.notSynchronized
  have hown : s.vm.findClass "WallFractionsModel" = some m.cls := findClass_of_methodNamed B.named
  have hT : ∀ w ∈ TT, w.before ([.ref (mm), .int (nI i)]).toArray s = true := fun w h => atoms_spec (ws := (Cond.code y_Mo_digitsIn b_Mo_digitsIn 4 (some .int) :: TT)) B.pre w (List.mem_cons_of_mem _ h)
  have S : CallFix p m c b_Mo_digitsIn 4 s ([.ref (mm), .int (nI i)]).toArray TT "WallFractionsModel" := ⟨hx, hb, hml, hown, hT⟩
  have hl := lv_entry ([.ref (mm), .int (nI i)]) (n := 4) (Nat.le_of_ble_eq_true rfl)
  rw [lg_entry_eq]
  generalize (lg_sl ([.ref (mm), .int (nI i)]) ++ List.replicate (4 - (lg_sl ([.ref (mm), .int (nI i)])).length) Slot.unset).toArray = ls at hl ⊢
  have hl : lv_has ls 4 [(0, .ref (mm)), (1, .int (nI i))] := hl
  skip
  obtain ⟨cs, ns, hm, hc⟩ := hn
  have h1 := (hc.2 i hi).1
  have hz := (hc.2 i hi).2.zero mpos
  refine lv_aload_n hx hb d_Mo_digitsIn_0 rfl (lv_at hl 0 rfl) ?_
  refine ob_get S hI hm.1 (C := R_Mo) (T := F_Mo) (N := 6) (ref := "WallFractionsModel") rfl i_Mo 2 (by decide) rfl w_773 rfl d_Mo_digitsIn_1 ?_
  refine lv_iload_n hx hb d_Mo_digitsIn_4 rfl (lv_at hl 1 rfl) ?_
  refine ia_ld S hI hm.2.2.1 (by decide) (by omega) d_Mo_digitsIn_5 ?_
  refine lv_istore_n (lv' := [(2, .int (nI (ns i))), (0, .ref (mm)), (1, .int (nI i))]) hx hb d_Mo_digitsIn_6 rfl hl (by decide) rfl (fun ls hl => ?_)
  refine lv_iload_n hx hb d_Mo_digitsIn_7 rfl (lv_at hl 0 rfl) ?_
  refine hw_if_ne (tgt := 13) hx hb d_Mo_digitsIn_8 (by decide) (by omega) (fun c110 => ?_) (fun c110 => ?_)
  · have htop : 0 < cs (128 * i + (ns i - 1)) := (hc.2 i hi).2.2.1 (by omega)
    have hct := hc.1 (128 * i + (ns i - 1))
    refine lv_aload_n hx hb d_Mo_digitsIn_13 rfl (lv_at hl 1 rfl) ?_
    refine lv_iload_n hx hb d_Mo_digitsIn_14 rfl (lv_at hl 2 rfl) ?_
    refine lv_iload_n hx hb d_Mo_digitsIn_15 rfl (lv_at hl 0 rfl) ?_
    refine lv_iconst (v := nI 1) hx hb d_Mo_digitsIn_16 (by decide) ?_
    refine lv_isub hx hb d_Mo_digitsIn_17 ?_
    refine hw_ti (pk_sub (by omega)) ?_
    refine hw_cV (As := [.int (nI i), .int (nI ((ns i) - 1))]) (rest := []) S hI m_Mo_cell w_822 (c_Mo_cell l D t0 L _ _ mm mc ml mg mw mr th cs ns sn wt rr i (ns i - 1) hm hi (by omega) h1) hm.1 rfl hl.1 rfl rfl (Nat.le_of_ble_eq_true rfl) d_Mo_digitsIn_18 ⟨Nat.le_of_ble_eq_true rfl, Nat.le_of_ble_eq_true rfl⟩ ⟨Nat.le_of_ble_eq_true rfl, Nat.le_of_ble_eq_true rfl⟩ (fun v9 L9 f111 H locs hp hI => ?_)
    refine W.cs (cells' := 0) (slots' := 0) rfl rfl ?_
    obtain ⟨hv9, rfl, rfl⟩ := hp
    cases hv9
    refine hw_stk (st' := [.int (nI (pcl cs ns i (ns i - 1)))]) rfl ?_
    refine hw_ti (show _ = nI (cs (128 * i + (ns i - 1))) from by unfold pcl; rw [if_pos (by omega)]) ?_
    refine lv_istore_n (lv' := [(3, .int (nI (cs (128 * i + (ns i - 1))))), (2, .int (nI (ns i))), (0, .ref (mm)), (1, .int (nI i))]) hx hb d_Mo_digitsIn_21 rfl hl (by decide) rfl (fun ls hl => ?_)
    refine lv_iconst (v := nI 4) hx hb d_Mo_digitsIn_22 (by decide) ?_
    refine lv_iload_n hx hb d_Mo_digitsIn_23 rfl (lv_at hl 1 rfl) ?_
    refine lv_imul hx hb d_Mo_digitsIn_24 ?_
    refine hw_ti (pk_mul _ _) ?_
    refine lv_iload_n hx hb d_Mo_digitsIn_25 rfl (lv_at hl 0 rfl) ?_
    refine lv_bipush (v := nI 10) hx hb d_Mo_digitsIn_26 (by decide) ?_
    refine hw_icmp_ge (tgt := 35) hx hb d_Mo_digitsIn_28 (by decide) (by omega) (by omega) (fun c112 => ?_) (fun c112 => ?_)
    · refine lv_iload_n hx hb d_Mo_digitsIn_35 rfl (lv_at hl 0 rfl) ?_
      refine lv_bipush (v := nI 100) hx hb d_Mo_digitsIn_36 (by decide) ?_
      refine hw_icmp_ge (tgt := 45) hx hb d_Mo_digitsIn_38 (by decide) (by omega) (by omega) (fun c113 => ?_) (fun c113 => ?_)
      · refine lv_iload_n hx hb d_Mo_digitsIn_45 rfl (lv_at hl 0 rfl) ?_
        refine lv_sipush (v := nI 1000) hx hb d_Mo_digitsIn_46 (by decide) ?_
        refine hw_icmp_ge (tgt := 56) hx hb d_Mo_digitsIn_49 (by decide) (by omega) (by omega) (fun c114 => ?_) (fun c114 => ?_)
        · have hd : dl (y i) = (ns i - 1) * 4 + 4 := dl_eq (dlen_top4 (T := 4) (hc.2 i hi).2 (by omega) (by decide) (show 1000 ≤ cs (128 * i + (ns i - 1)) by omega) (show cs (128 * i + (ns i - 1)) < 10000 by omega))
          refine lv_iconst (v := nI 0) hx hb d_Mo_digitsIn_56 (by decide) ?_
          refine lv_isub hx hb d_Mo_digitsIn_57 ?_
          refine hw_ti (pk_sub (by omega)) ?_
          refine hw_ti (show _ = nI (dl (y i)) from by rw [hd]; exact congrArg nI (by omega)) ?_
          exact hw_iret hx hb hr hlocks hI d_Mo_digitsIn_58 ⟨rfl, rfl, rfl⟩
        · have hd : dl (y i) = (ns i - 1) * 4 + 3 := dl_eq (dlen_top4 (T := 3) (hc.2 i hi).2 (by omega) (by decide) (show 100 ≤ cs (128 * i + (ns i - 1)) by omega) (show cs (128 * i + (ns i - 1)) < 1000 by omega))
          refine lv_iconst (v := nI 1) hx hb d_Mo_digitsIn_52 (by decide) ?_
          refine lv_goto (tgt := 57) hx hb d_Mo_digitsIn_53 (by decide) ?_
          refine lv_isub hx hb d_Mo_digitsIn_57 ?_
          refine hw_ti (pk_sub (by omega)) ?_
          refine hw_ti (show _ = nI (dl (y i)) from by rw [hd]; exact congrArg nI (by omega)) ?_
          exact hw_iret hx hb hr hlocks hI d_Mo_digitsIn_58 ⟨rfl, rfl, rfl⟩
      · have hd : dl (y i) = (ns i - 1) * 4 + 2 := dl_eq (dlen_top4 (T := 2) (hc.2 i hi).2 (by omega) (by decide) (show 10 ≤ cs (128 * i + (ns i - 1)) by omega) (show cs (128 * i + (ns i - 1)) < 100 by omega))
        refine lv_iconst (v := nI 2) hx hb d_Mo_digitsIn_41 (by decide) ?_
        refine lv_goto (tgt := 57) hx hb d_Mo_digitsIn_42 (by decide) ?_
        refine lv_isub hx hb d_Mo_digitsIn_57 ?_
        refine hw_ti (pk_sub (by omega)) ?_
        refine hw_ti (show _ = nI (dl (y i)) from by rw [hd]; exact congrArg nI (by omega)) ?_
        exact hw_iret hx hb hr hlocks hI d_Mo_digitsIn_58 ⟨rfl, rfl, rfl⟩
    · have hd : dl (y i) = (ns i - 1) * 4 + 1 := dl_eq (dlen_top4 (T := 1) (hc.2 i hi).2 (by omega) (by decide) (show 1 ≤ cs (128 * i + (ns i - 1)) by omega) (show cs (128 * i + (ns i - 1)) < 10 by omega))
      refine lv_iconst (v := nI 3) hx hb d_Mo_digitsIn_31 (by decide) ?_
      refine lv_goto (tgt := 57) hx hb d_Mo_digitsIn_32 (by decide) ?_
      refine lv_isub hx hb d_Mo_digitsIn_57 ?_
      refine hw_ti (pk_sub (by omega)) ?_
      refine hw_ti (show _ = nI (dl (y i)) from by rw [hd]; exact congrArg nI (by omega)) ?_
      exact hw_iret hx hb hr hlocks hI d_Mo_digitsIn_58 ⟨rfl, rfl, rfl⟩
  · have hd : dl (y i) = 1 := dl_eq ⟨Nat.le_refl _, by rw [hz.mp c110]; decide, fun h => absurd h (by decide)⟩
    refine lv_iconst (v := nI 1) hx hb d_Mo_digitsIn_11 (by decide) ?_
    exact hw_iret hx hb hr hlocks hI d_Mo_digitsIn_12 ⟨by rw [hd], rfl, rfl⟩
set_option maxHeartbeats 4000000 in
set_option maxRecDepth 100000 in
theorem c_Mo_finish (l : Launch) (D : va_G) (t0 : Nat) (L : List Nat) (f : Nat → va_E) (sz : Nat) (mm mc ml mg mw mr : Nat) (th : Int32) (y : Nat → Nat) (sn : Nat → Int32) (wt rr : Nat → Nat) (σ : Sg) (r : Nat) (sg : Int32) (s0 : Bool) (hn : Mn D L f mm mc ml mg mw mr th y sn wt rr) (hR : RM σ y sn) (hr : r < 16) (h34 : 0 < y 34) (hsg : y 32 ≠ 0 → sg = if s0 then -1 else nI 1) : Met l y_Mo_finish (Cond.code y_Mo_finish b_Mo_finish 4 (some .boolean) :: TT) ({ frames := 4, cells := 0, slots := 0, locals := 108 } : Room) (hw_Pc t0 [.ref (mm), .int (nI r), .int (sg)] D L f sz) (hw_Q D L sz (fun oc L' f' => oc = .returned (some (.int (if fitR (lows (y 32) (y 34) s0) = true then nI 1 else nI 0))) ∧ L = L' ∧ (∃ y' sn', Mn D L f' mm mc ml mg mw mr th y' sn' wt rr ∧ RM (if fitR (lows (y 32) (y 34) s0) = true then va_up σ r (lows (y 32) (y 34) s0) else σ) y' sn') ∧ Fo mm mc ml mg mw mr f f')) 0 0 (hw_A L sz) := by
  refine Met.ofW (cc := b_Mo_finish) (maxL := 4) (ret := (some .boolean)) (by decide) rfl ?_
  intro p e s m args below meth c s₁ B hml hv
  obtain ⟨rfl, rfl, hI⟩ := hw_start hv
  clear hv
  have hx := B.exec
  have hb := B.bytes
  have hrt := B.returns
  have hlocks := B.notSynchronized
  have hown : s.vm.findClass "WallFractionsModel" = some m.cls := findClass_of_methodNamed B.named
  have hT : ∀ w ∈ TT, w.before ([.ref (mm), .int (nI r), .int (sg)]).toArray s = true := fun w h => atoms_spec (ws := (Cond.code y_Mo_finish b_Mo_finish 4 (some .boolean) :: TT)) B.pre w (List.mem_cons_of_mem _ h)
  have S : CallFix p m c b_Mo_finish 4 s ([.ref (mm), .int (nI r), .int (sg)]).toArray TT "WallFractionsModel" := ⟨hx, hb, hml, hown, hT⟩
  have hl := lv_entry ([.ref (mm), .int (nI r), .int (sg)]) (n := 4) (Nat.le_of_ble_eq_true rfl)
  rw [lg_entry_eq]
  generalize (lg_sl ([.ref (mm), .int (nI r), .int (sg)]) ++ List.replicate (4 - (lg_sl ([.ref (mm), .int (nI r), .int (sg)])).length) Slot.unset).toArray = ls at hl ⊢
  have hl : lv_has ls 4 [(0, .ref (mm)), (1, .int (nI r)), (2, .int (sg))] := hl
  skip
  have hF : Fo mm mc ml mg mw mr f f := Fo.refl
  obtain ⟨cs, ns, hm, hc⟩ := id hn
  obtain ⟨n0, hn0⟩ : ∃ n0, n0 = y 32 := ⟨_, rfl⟩
  obtain ⟨d0, hd0⟩ : ∃ d0, d0 = y 34 := ⟨_, rfl⟩
  rw [← hn0] at hsg
  rw [← hd0] at h34
  rw [← hn0, ← hd0]
  refine lv_aload_n hx hb d_Mo_finish_0 rfl (lv_at hl 0 rfl) ?_
  refine lv_bipush (v := nI 32) hx hb d_Mo_finish_1 (by decide) ?_
  refine lv_bipush (v := nI 34) hx hb d_Mo_finish_3 (by decide) ?_
  refine hw_cV (As := [.int (nI 32), .int (nI 34)]) (rest := []) S hI m_Mo_divisor w_806 (c_Mo_divisor l D t0 L _ _ mm mc ml mg mw mr th y sn wt rr 32 34 hn (by decide) (by decide)) hm.1 rfl hl.1 rfl rfl (Nat.le_of_ble_eq_true rfl) d_Mo_finish_5 ⟨Nat.le_of_ble_eq_true rfl, Nat.le_of_ble_eq_true rfl⟩ ⟨Nat.le_of_ble_eq_true rfl, Nat.le_of_ble_eq_true rfl⟩ (fun v9 L9 f115 H locs hp hI => ?_)
  refine W.cs (cells' := 0) (slots' := 0) rfl rfl ?_
  obtain ⟨d9, y9, hv9, rfl, hd9, hg9, hk9, hn, hF9⟩ := hp
  cases hv9
  refine hw_stk (st' := [.int (nI d9)]) rfl ?_
  have hF := hF.trans hF9
  rw [← hn0, ← hd0] at hg9
  obtain ⟨g0, hg0⟩ : ∃ g0, g0 = Nat.gcd n0 d0 := ⟨_, rfl⟩
  rw [← hg0] at hg9
  have gp : 0 < g0 := by rw [hg0]; exact gpos (Or.inr h34)
  have hR : RM σ y9 sn := hR.of (fun k hk => hk9 k (by omega))
  have k32 : y9 32 = n0 := (hk9 32 (by decide)).trans hn0.symm
  have k34 : y9 34 = d0 := (hk9 34 (by decide)).trans hd0.symm
  obtain ⟨cs, ns, hm, hc⟩ := id hn
  refine lv_istore_n (lv' := [(3, .int (nI d9)), (0, .ref (mm)), (1, .int (nI r)), (2, .int (sg))]) hx hb d_Mo_finish_8 rfl hl (by decide) rfl (fun ls hl => ?_)
  refine lv_aload_n hx hb d_Mo_finish_9 rfl (lv_at hl 1 rfl) ?_
  refine lv_bipush (v := nI 33) hx hb d_Mo_finish_10 (by decide) ?_
  refine lv_iload_n hx hb d_Mo_finish_12 rfl (lv_at hl 0 rfl) ?_
  refine hw_cV (As := [.int (nI 33), .int (nI d9)]) (rest := []) S hI m_Mo_copy w_810 (c_Mo_copy l D t0 L _ _ mm mc ml mg mw mr th y9 sn wt rr 33 d9 hn (by decide) (by omega)) hm.1 rfl hl.1 rfl rfl (Nat.le_of_ble_eq_true rfl) d_Mo_finish_13 ⟨Nat.le_of_ble_eq_true rfl, Nat.le_of_ble_eq_true rfl⟩ ⟨Nat.le_of_ble_eq_true rfl, Nat.le_of_ble_eq_true rfl⟩ (fun v9 L9 f116 H locs hp hI => ?_)
  refine W.cs (cells' := 0) (slots' := 0) rfl rfl ?_
  obtain ⟨hv9, rfl, hn, hF9⟩ := hp
  cases hv9
  refine hw_stk (st' := []) rfl ?_
  have hF := hF.trans hF9
  obtain ⟨y117, ey⟩ : ∃ z9, z9 = va_up y9 33 (y9 d9) := ⟨_, rfl⟩
  rw [← ey] at hn
  have q33 : y117 33 = g0 := by rw [ey]; rw [hw_up_eq]; exact hg9
  have q32 : y117 32 = n0 := by rw [ey, hw_up_ne (by decide)]; exact k32
  have q34 : y117 34 = d0 := by rw [ey, hw_up_ne (by decide)]; exact k34
  have k33 := q33
  have k32 := q32
  have k34 := q34
  have hR : RM σ y117 sn := by rw [ey]; exact hR.up (by decide)
  obtain ⟨cs, ns, hm, hc⟩ := id hn
  refine lv_aload_n hx hb d_Mo_finish_16 rfl (lv_at hl 1 rfl) ?_
  refine lv_bipush (v := nI 32) hx hb d_Mo_finish_17 (by decide) ?_
  refine lv_bipush (v := nI 33) hx hb d_Mo_finish_19 (by decide) ?_
  refine lv_bipush (v := nI 37) hx hb d_Mo_finish_21 (by decide) ?_
  refine hw_cV (As := [.int (nI 32), .int (nI 33), .int (nI 37)]) (rest := []) S hI m_Mo_part w_818 (c_Mo_part l D t0 L _ _ mm mc ml mg mw mr th y117 sn wt rr 32 33 37 hn (by decide) (by decide) (by decide) (by decide) (by decide) (by decide) (by rw [k33]; exact gp)) hm.1 rfl hl.1 rfl rfl (Nat.le_of_ble_eq_true rfl) d_Mo_finish_23 ⟨Nat.le_of_ble_eq_true rfl, Nat.le_of_ble_eq_true rfl⟩ ⟨Nat.le_of_ble_eq_true rfl, Nat.le_of_ble_eq_true rfl⟩ (fun v9 L9 f118 H locs hp hI => ?_)
  refine W.cs (cells' := 0) (slots' := 0) rfl rfl ?_
  obtain ⟨hv9, rfl, hn, hF9⟩ := hp
  cases hv9
  refine hw_stk (st' := []) rfl ?_
  have hF := hF.trans hF9
  obtain ⟨y119, ey⟩ : ∃ z9, z9 = va_up (va_up y117 32 (y117 32 % y117 33)) 37 (y117 32 / y117 33) := ⟨_, rfl⟩
  rw [← ey] at hn
  have q32 : y119 32 = n0 % g0 := by rw [ey]; rw [hw_up_ne (by decide), hw_up_eq, k32, k33]
  have q37 : y119 37 = n0 / g0 := by rw [ey]; rw [hw_up_eq, k32, k33]
  have q33 : y119 33 = g0 := by rw [ey, hw_up_ne (by decide), hw_up_ne (by decide)]; exact k33
  have q34 : y119 34 = d0 := by rw [ey, hw_up_ne (by decide), hw_up_ne (by decide)]; exact k34
  have k32 := q32
  have k37 := q37
  have k33 := q33
  have k34 := q34
  have hR : RM σ y119 sn := by rw [ey]; exact (hR.up (by decide)).up (by decide)
  obtain ⟨cs, ns, hm, hc⟩ := id hn
  refine lv_aload_n hx hb d_Mo_finish_26 rfl (lv_at hl 1 rfl) ?_
  refine lv_bipush (v := nI 32) hx hb d_Mo_finish_27 (by decide) ?_
  refine lv_bipush (v := nI 37) hx hb d_Mo_finish_29 (by decide) ?_
  refine hw_cV (As := [.int (nI 32), .int (nI 37)]) (rest := []) S hI m_Mo_copy w_810 (c_Mo_copy l D t0 L _ _ mm mc ml mg mw mr th y119 sn wt rr 32 37 hn (by decide) (by decide)) hm.1 rfl hl.1 rfl rfl (Nat.le_of_ble_eq_true rfl) d_Mo_finish_31 ⟨Nat.le_of_ble_eq_true rfl, Nat.le_of_ble_eq_true rfl⟩ ⟨Nat.le_of_ble_eq_true rfl, Nat.le_of_ble_eq_true rfl⟩ (fun v9 L9 f120 H locs hp hI => ?_)
  refine W.cs (cells' := 0) (slots' := 0) rfl rfl ?_
  obtain ⟨hv9, rfl, hn, hF9⟩ := hp
  cases hv9
  refine hw_stk (st' := []) rfl ?_
  have hF := hF.trans hF9
  obtain ⟨y121, ey⟩ : ∃ z9, z9 = va_up y119 32 (y119 37) := ⟨_, rfl⟩
  rw [← ey] at hn
  have q32 : y121 32 = n0 / g0 := by rw [ey]; rw [hw_up_eq]; exact k37
  have q37 : y121 37 = n0 / g0 := by rw [ey, hw_up_ne (by decide)]; exact k37
  have q33 : y121 33 = g0 := by rw [ey, hw_up_ne (by decide)]; exact k33
  have q34 : y121 34 = d0 := by rw [ey, hw_up_ne (by decide)]; exact k34
  have k32 := q32
  have k37 := q37
  have k33 := q33
  have k34 := q34
  have hR : RM σ y121 sn := by rw [ey]; exact hR.up (by decide)
  obtain ⟨cs, ns, hm, hc⟩ := id hn
  refine lv_aload_n hx hb d_Mo_finish_34 rfl (lv_at hl 1 rfl) ?_
  refine lv_bipush (v := nI 34) hx hb d_Mo_finish_35 (by decide) ?_
  refine lv_bipush (v := nI 33) hx hb d_Mo_finish_37 (by decide) ?_
  refine lv_bipush (v := nI 37) hx hb d_Mo_finish_39 (by decide) ?_
  refine hw_cV (As := [.int (nI 34), .int (nI 33), .int (nI 37)]) (rest := []) S hI m_Mo_part w_818 (c_Mo_part l D t0 L _ _ mm mc ml mg mw mr th y121 sn wt rr 34 33 37 hn (by decide) (by decide) (by decide) (by decide) (by decide) (by decide) (by rw [k33]; exact gp)) hm.1 rfl hl.1 rfl rfl (Nat.le_of_ble_eq_true rfl) d_Mo_finish_41 ⟨Nat.le_of_ble_eq_true rfl, Nat.le_of_ble_eq_true rfl⟩ ⟨Nat.le_of_ble_eq_true rfl, Nat.le_of_ble_eq_true rfl⟩ (fun v9 L9 f122 H locs hp hI => ?_)
  refine W.cs (cells' := 0) (slots' := 0) rfl rfl ?_
  obtain ⟨hv9, rfl, hn, hF9⟩ := hp
  cases hv9
  refine hw_stk (st' := []) rfl ?_
  have hF := hF.trans hF9
  obtain ⟨y123, ey⟩ : ∃ z9, z9 = va_up (va_up y121 34 (y121 34 % y121 33)) 37 (y121 34 / y121 33) := ⟨_, rfl⟩
  rw [← ey] at hn
  have q34 : y123 34 = d0 % g0 := by rw [ey]; rw [hw_up_ne (by decide), hw_up_eq, k34, k33]
  have q37 : y123 37 = d0 / g0 := by rw [ey]; rw [hw_up_eq, k34, k33]
  have q32 : y123 32 = n0 / g0 := by rw [ey, hw_up_ne (by decide), hw_up_ne (by decide)]; exact k32
  have q33 : y123 33 = g0 := by rw [ey, hw_up_ne (by decide), hw_up_ne (by decide)]; exact k33
  have k34 := q34
  have k37 := q37
  have k32 := q32
  have k33 := q33
  have hR : RM σ y123 sn := by rw [ey]; exact (hR.up (by decide)).up (by decide)
  obtain ⟨cs, ns, hm, hc⟩ := id hn
  refine lv_aload_n hx hb d_Mo_finish_44 rfl (lv_at hl 1 rfl) ?_
  refine lv_bipush (v := nI 34) hx hb d_Mo_finish_45 (by decide) ?_
  refine lv_bipush (v := nI 37) hx hb d_Mo_finish_47 (by decide) ?_
  refine hw_cV (As := [.int (nI 34), .int (nI 37)]) (rest := []) S hI m_Mo_copy w_810 (c_Mo_copy l D t0 L _ _ mm mc ml mg mw mr th y123 sn wt rr 34 37 hn (by decide) (by decide)) hm.1 rfl hl.1 rfl rfl (Nat.le_of_ble_eq_true rfl) d_Mo_finish_49 ⟨Nat.le_of_ble_eq_true rfl, Nat.le_of_ble_eq_true rfl⟩ ⟨Nat.le_of_ble_eq_true rfl, Nat.le_of_ble_eq_true rfl⟩ (fun v9 L9 f124 H locs hp hI => ?_)
  refine W.cs (cells' := 0) (slots' := 0) rfl rfl ?_
  obtain ⟨hv9, rfl, hn, hF9⟩ := hp
  cases hv9
  refine hw_stk (st' := []) rfl ?_
  have hF := hF.trans hF9
  obtain ⟨y125, ey⟩ : ∃ z9, z9 = va_up y123 34 (y123 37) := ⟨_, rfl⟩
  rw [← ey] at hn
  have q34 : y125 34 = d0 / g0 := by rw [ey]; rw [hw_up_eq]; exact k37
  have q37 : y125 37 = d0 / g0 := by rw [ey, hw_up_ne (by decide)]; exact k37
  have q32 : y125 32 = n0 / g0 := by rw [ey, hw_up_ne (by decide)]; exact k32
  have q33 : y125 33 = g0 := by rw [ey, hw_up_ne (by decide)]; exact k33
  have k34 := q34
  have k37 := q37
  have k32 := q32
  have k33 := q33
  have hR : RM σ y125 sn := by rw [ey]; exact hR.up (by decide)
  obtain ⟨cs, ns, hm, hc⟩ := id hn
  have s1 : ns 32 ≤ 45 ↔ n0 / g0 < nB ^ 20 := by rw [← m45, ← k32]; exact (hc.2 32 (by decide)).2.size_le m1
  have s2 : ns 34 ≤ 45 ↔ d0 / g0 < nB ^ 20 := by rw [← m45, ← k34]; exact (hc.2 34 (by decide)).2.size_le m1
  have s3 := (hc.2 32 (by decide)).1
  have s4 := (hc.2 34 (by decide)).1
  have tt : lows n0 d0 s0 = (n0 / g0, d0 / g0, sgz n0 s0) := by rw [hg0]; rfl
  refine lv_aload_n hx hb d_Mo_finish_52 rfl (lv_at hl 1 rfl) ?_
  refine ob_get S hI hm.1 (C := R_Mo) (T := F_Mo) (N := 6) (ref := "WallFractionsModel") rfl i_Mo 2 (by decide) rfl w_773 rfl d_Mo_finish_53 ?_
  refine lv_bipush (v := nI 32) hx hb d_Mo_finish_56 (by decide) ?_
  refine ia_ld S hI hm.2.2.1 (by decide) (by omega) d_Mo_finish_58 ?_
  refine lv_bipush (v := nI 45) hx hb d_Mo_finish_59 (by decide) ?_
  refine hw_icmp_gt (tgt := 76) hx hb d_Mo_finish_61 (by decide) (by omega) (by omega) (fun c126 => ?_) (fun c126 => ?_)
  · have hfit : ¬ fitR (lows n0 d0 s0) = true := by rw [tt]; exact fun h => absurd (of_decide_eq_true h) (fun h => absurd (s1.mpr h.1) (by omega))
    refine lv_iconst (v := nI 0) hx hb d_Mo_finish_76 (by decide) ?_
    exact hw_zret hx hb hrt hlocks hI rfl d_Mo_finish_77 ⟨by rw [if_neg hfit], rfl, ⟨_, _, hn, by rw [if_neg hfit]; exact hR⟩, hF⟩
  · refine lv_aload_n hx hb d_Mo_finish_64 rfl (lv_at hl 1 rfl) ?_
    refine ob_get S hI hm.1 (C := R_Mo) (T := F_Mo) (N := 6) (ref := "WallFractionsModel") rfl i_Mo 2 (by decide) rfl w_773 rfl d_Mo_finish_65 ?_
    refine lv_bipush (v := nI 34) hx hb d_Mo_finish_68 (by decide) ?_
    refine ia_ld S hI hm.2.2.1 (by decide) (by omega) d_Mo_finish_70 ?_
    refine lv_bipush (v := nI 45) hx hb d_Mo_finish_71 (by decide) ?_
    refine hw_icmp_le (tgt := 78) hx hb d_Mo_finish_73 (by decide) (by omega) (by omega) (fun c127 => ?_) (fun c127 => ?_)
    · have hfit : fitR (lows n0 d0 s0) = true := by rw [tt]; exact decide_eq_true ⟨s1.mp (by omega), s2.mp (by omega)⟩
      refine lv_aload_n hx hb d_Mo_finish_78 rfl (lv_at hl 1 rfl) ?_
      refine lv_iload_n hx hb d_Mo_finish_79 rfl (lv_at hl 2 rfl) ?_
      refine lv_bipush (v := nI 32) hx hb d_Mo_finish_80 (by decide) ?_
      refine hw_cV (As := [.int (nI r), .int (nI 32)]) (rest := []) S hI m_Mo_copy w_810 (c_Mo_copy l D t0 L _ _ mm mc ml mg mw mr th y125 sn wt rr r 32 hn (by omega) (by decide)) hm.1 rfl hl.1 rfl rfl (Nat.le_of_ble_eq_true rfl) d_Mo_finish_82 ⟨Nat.le_of_ble_eq_true rfl, Nat.le_of_ble_eq_true rfl⟩ ⟨Nat.le_of_ble_eq_true rfl, Nat.le_of_ble_eq_true rfl⟩ (fun v9 L9 f128 H locs hp hI => ?_)
      refine W.cs (cells' := 0) (slots' := 0) rfl rfl ?_
      obtain ⟨hv9, rfl, hn, hF9⟩ := hp
      cases hv9
      refine hw_stk (st' := []) rfl ?_
      have hF := hF.trans hF9
      rw [k32] at hn
      obtain ⟨cs, ns, hm, hc⟩ := id hn
      have k34 : va_up y125 r (n0 / g0) 34 = d0 / g0 := by rw [hw_up_ne (by omega)]; exact k34
      refine lv_aload_n hx hb d_Mo_finish_85 rfl (lv_at hl 1 rfl) ?_
      refine lv_bipush (v := nI 16) hx hb d_Mo_finish_86 (by decide) ?_
      refine lv_iload_n hx hb d_Mo_finish_88 rfl (lv_at hl 2 rfl) ?_
      refine lv_iadd hx hb d_Mo_finish_89 ?_
      refine hw_ti (nI_add _ _) ?_
      refine lv_bipush (v := nI 34) hx hb d_Mo_finish_90 (by decide) ?_
      refine hw_cV (As := [.int (nI (16 + r)), .int (nI 34)]) (rest := []) S hI m_Mo_copy w_810 (c_Mo_copy l D t0 L _ _ mm mc ml mg mw mr th (va_up y125 r (n0 / g0)) sn wt rr (16 + r) 34 hn (by omega) (by decide)) hm.1 rfl hl.1 rfl rfl (Nat.le_of_ble_eq_true rfl) d_Mo_finish_92 ⟨Nat.le_of_ble_eq_true rfl, Nat.le_of_ble_eq_true rfl⟩ ⟨Nat.le_of_ble_eq_true rfl, Nat.le_of_ble_eq_true rfl⟩ (fun v9 L9 f129 H locs hp hI => ?_)
      refine W.cs (cells' := 0) (slots' := 0) rfl rfl ?_
      obtain ⟨hv9, rfl, hn, hF9⟩ := hp
      cases hv9
      refine hw_stk (st' := []) rfl ?_
      have hF := hF.trans hF9
      rw [k34] at hn
      obtain ⟨cs, ns, hm, hc⟩ := id hn
      have hR := RM.put (t := lows n0 d0 s0) hR hr
      rw [tt] at hR
      have k32 : (va_up (va_up y125 r (n0 / g0)) (16 + r) (d0 / g0)) 32 = n0 / g0 := by rw [hw_up_ne (by omega), hw_up_ne (by omega)]; exact k32
      refine lv_aload_n hx hb d_Mo_finish_95 rfl (lv_at hl 1 rfl) ?_
      refine ob_get S hI hm.1 (C := R_Mo) (T := F_Mo) (N := 6) (ref := "WallFractionsModel") rfl i_Mo 3 (by decide) rfl w_774 rfl d_Mo_finish_96 ?_
      refine lv_iload_n hx hb d_Mo_finish_99 rfl (lv_at hl 2 rfl) ?_
      refine lv_aload_n hx hb d_Mo_finish_100 rfl (lv_at hl 1 rfl) ?_
      refine lv_bipush (v := nI 32) hx hb d_Mo_finish_101 (by decide) ?_
      refine hw_cV (As := [.int (nI 32)]) (rest := [.int (nI r), .ref (mg)]) S hI m_Mo_isZero w_814 (c_Mo_isZero l D t0 L _ _ mm mc ml mg mw mr th (va_up (va_up y125 r (n0 / g0)) (16 + r) (d0 / g0)) sn wt rr 32 hn (by decide)) hm.1 rfl hl.1 rfl rfl (Nat.le_of_ble_eq_true rfl) d_Mo_finish_103 ⟨Nat.le_of_ble_eq_true rfl, Nat.le_of_ble_eq_true rfl⟩ ⟨Nat.le_of_ble_eq_true rfl, Nat.le_of_ble_eq_true rfl⟩ (fun v9 L9 f130 H locs hp hI => ?_)
      refine W.cs (cells' := 0) (slots' := 0) rfl rfl ?_
      obtain ⟨hv9, rfl, rfl⟩ := hp
      cases hv9
      refine hw_stk (st' := [.int (if (va_up (va_up y125 r (n0 / g0)) (16 + r) (d0 / g0)) 32 = 0 then nI 1 else nI 0), .int (nI r), .ref (mg)]) rfl ?_
      have z0 : n0 / g0 = 0 ↔ n0 = 0 := by rw [hg0]; exact gdiv0 (by rw [← hg0]; exact gp)
      by_cases h0 : n0 / g0 = 0
      · refine hw_ti (show _ = nI 1 from by rw [k32, if_pos h0]) ?_
        refine hw_if_eq (tgt := 113) hx hb d_Mo_finish_106 (by decide) (by omega) (fun c131 => ?_) (fun c131 => ?_)
        · exact absurd c131 (by decide)
        · refine lv_iconst (v := nI 0) hx hb d_Mo_finish_109 (by decide) ?_
          refine lv_goto (tgt := 114) hx hb d_Mo_finish_110 (by decide) ?_
          have hs9 : sgI (n0 / g0, d0 / g0, sgz n0 s0) = nI 0 := by unfold sgI; rw [if_pos h0]
          refine ia_stR S hI hm.2.2.2.1 (by decide) (by omega) d_Mo_finish_114 (fun f132 H locs hI hR9 hf132 => ?_)
          have hm := hm.umg hf132 hR9
          have hF := hF.umg hf132
          refine lv_iconst (v := nI 1) hx hb d_Mo_finish_115 (by decide) ?_
          exact hw_zret hx hb hrt hlocks hI rfl d_Mo_finish_116 ⟨by rw [if_pos hfit], rfl, ⟨_, _, ⟨_, _, hm, hc⟩, by rw [if_pos hfit, tt, ← hs9]; exact hR⟩, hF⟩
      · refine hw_ti (show _ = nI 0 from by rw [k32, if_neg h0]) ?_
        refine hw_if_eq (tgt := 113) hx hb d_Mo_finish_106 (by decide) (by omega) (fun c133 => ?_) (fun c133 => ?_)
        · refine lv_iload_n hx hb d_Mo_finish_113 rfl (lv_at hl 3 rfl) ?_
          have hs9 : sgI (n0 / g0, d0 / g0, sgz n0 s0) = sg := by unfold sgI; rw [if_neg h0, hsg (fun h => h0 (z0.mpr h))]; show (if sgz n0 s0 = true then _ else _) = _; rw [show sgz n0 s0 = s0 from if_neg (fun h => h0 (z0.mpr h))]
          refine ia_stR S hI hm.2.2.2.1 (by decide) (by omega) d_Mo_finish_114 (fun f134 H locs hI hR9 hf134 => ?_)
          have hm := hm.umg hf134 hR9
          have hF := hF.umg hf134
          refine lv_iconst (v := nI 1) hx hb d_Mo_finish_115 (by decide) ?_
          exact hw_zret hx hb hrt hlocks hI rfl d_Mo_finish_116 ⟨by rw [if_pos hfit], rfl, ⟨_, _, ⟨_, _, hm, hc⟩, by rw [if_pos hfit, tt, ← hs9]; exact hR⟩, hF⟩
        · exact absurd rfl c133
    · have hfit : ¬ fitR (lows n0 d0 s0) = true := by rw [tt]; exact fun h => absurd (of_decide_eq_true h) (fun h => absurd (s2.mpr h.2) (by omega))
      refine lv_iconst (v := nI 0) hx hb d_Mo_finish_76 (by decide) ?_
      exact hw_zret hx hb hrt hlocks hI rfl d_Mo_finish_77 ⟨by rw [if_neg hfit], rfl, ⟨_, _, hn, by rw [if_neg hfit]; exact hR⟩, hF⟩
theorem inR_iff {n : Int32} {lo hi : Nat} (h1 : lo < 2 ^ 31) (h2 : hi < 2 ^ 31) : inR n lo hi = true ↔ (lo : Int) ≤ n.toInt ∧ n.toInt ≤ (hi : Int) := by
  unfold inR
  rw [decide_eq_true_iff, Int32.le_iff_toInt_le, Int32.le_iff_toInt_le, nI_toInt h1, nI_toInt h2]
theorem vr_iff {n : Int32} : vr n = true ↔ (0 : Int) ≤ n.toInt ∧ n.toInt ≤ 15 := inR_iff (by decide) (by decide)
set_option maxHeartbeats 4000000 in
set_option maxRecDepth 100000 in
theorem c_Mo_isRegister (l : Launch) (D : va_G) (t0 : Nat) (L : List Nat) (f : Nat → va_E) (sz : Nat) (r0 : Int32)  : Met l y_Mo_isRegister (Cond.code y_Mo_isRegister b_Mo_isRegister 1 (some .boolean) :: TT) ({ frames := 0, cells := 0, slots := 0, locals := 0 } : Room) (hw_Pc t0 [.int (r0)] D L f sz) (hw_Q D L sz (fun oc L' f' => oc = .returned (some (.int (if vr r0 = true then nI 1 else nI 0))) ∧ L = L' ∧ f = f')) 0 0 (hw_A L sz) := by
  refine Met.ofW (cc := b_Mo_isRegister) (maxL := 1) (ret := (some .boolean)) (by decide) rfl ?_
  intro p e s m args below meth c s₁ B hml hv
  obtain ⟨rfl, rfl, hI⟩ := hw_start hv
  clear hv
  have hx := B.exec
  have hb := B.bytes
  have hr := B.returns
  have hlocks := B.notSynchronized
  have hown : s.vm.findClass "WallFractionsModel" = some m.cls := findClass_of_methodNamed B.named
  have hT : ∀ w ∈ TT, w.before ([.int (r0)]).toArray s = true := fun w h => atoms_spec (ws := (Cond.code y_Mo_isRegister b_Mo_isRegister 1 (some .boolean) :: TT)) B.pre w (List.mem_cons_of_mem _ h)
  have S : CallFix p m c b_Mo_isRegister 1 s ([.int (r0)]).toArray TT "WallFractionsModel" := ⟨hx, hb, hml, hown, hT⟩
  have hl := lv_entry ([.int (r0)]) (n := 1) (Nat.le_of_ble_eq_true rfl)
  rw [lg_entry_eq]
  generalize (lg_sl ([.int (r0)]) ++ List.replicate (1 - (lg_sl ([.int (r0)])).length) Slot.unset).toArray = ls at hl ⊢
  have hl : lv_has ls 1 [(0, .int (r0))] := hl
  skip
  refine lv_iload_n hx hb d_Mo_isRegister_0 rfl (lv_at hl 0 rfl) ?_
  refine lv_if_lt (tgt := 14) hx hb d_Mo_isRegister_1 (by decide) (fun c135 => ?_) (fun c135 => ?_)
  · refine lv_iconst (v := nI 0) hx hb d_Mo_isRegister_14 (by decide) ?_
    exact hw_zret hx hb hr hlocks hI rfl d_Mo_isRegister_15 ⟨by rw [if_neg (fun h => by have h9 := vr_iff.mp h; have h8 : r0.toInt < 0 := Int32.lt_iff_toInt_lt.mp c135; omega)], rfl, rfl⟩
  · have b0 : 0 ≤ r0.toInt := Int32.le_iff_toInt_le.mp (Int32.not_lt.mp c135)
    refine lv_iload_n hx hb d_Mo_isRegister_4 rfl (lv_at hl 0 rfl) ?_
    refine lv_bipush (v := nI 16) hx hb d_Mo_isRegister_5 (by decide) ?_
    refine lv_icmp_ge (tgt := 14) hx hb d_Mo_isRegister_7 (by decide) (fun c136 => ?_) (fun c136 => ?_)
    · refine lv_iconst (v := nI 0) hx hb d_Mo_isRegister_14 (by decide) ?_
      exact hw_zret hx hb hr hlocks hI rfl d_Mo_isRegister_15 ⟨by rw [if_neg (fun h => by have h9 := vr_iff.mp h; have h8 : (16 : Int) ≤ r0.toInt := Int32.le_iff_toInt_le.mp c136; omega)], rfl, rfl⟩
    · refine lv_iconst (v := nI 1) hx hb d_Mo_isRegister_10 (by decide) ?_
      refine lv_goto (tgt := 15) hx hb d_Mo_isRegister_11 (by decide) ?_
      exact hw_zret hx hb hr hlocks hI rfl d_Mo_isRegister_15 ⟨by rw [if_pos (vr_iff.mpr ⟨b0, by have h8 : r0.toInt < (16 : Int) := Int32.lt_iff_toInt_lt.mp (Int32.not_le.mp c136); omega⟩)], rfl, rfl⟩
set_option maxHeartbeats 4000000 in
set_option maxRecDepth 100000 in
theorem c_Mo_in (l : Launch) (D : va_G) (t0 : Nat) (L : List Nat) (f : Nat → va_E) (sz : Nat) (n0 : Int32) (lo hi : Nat) (h1 : lo < 2 ^ 31) (h2 : hi < 2 ^ 31) : Met l y_Mo_in (Cond.code y_Mo_in b_Mo_in 6 (some .boolean) :: TT) ({ frames := 0, cells := 0, slots := 0, locals := 0 } : Room) (hw_Pc t0 [.long (n0.toInt64), .long (lN lo), .long (lN hi)] D L f sz) (hw_Q D L sz (fun oc L' f' => oc = .returned (some (.int (if inR n0 lo hi = true then nI 1 else nI 0))) ∧ L = L' ∧ f = f')) 0 0 (hw_A L sz) := by
  refine Met.ofW (cc := b_Mo_in) (maxL := 6) (ret := (some .boolean)) (by decide) rfl ?_
  intro p e s m args below meth c s₁ B hml hv
  obtain ⟨rfl, rfl, hI⟩ := hw_start hv
  clear hv
  have hx := B.exec
  have hb := B.bytes
  have hr := B.returns
  have hlocks := B.notSynchronized
  have hown : s.vm.findClass "WallFractionsModel" = some m.cls := findClass_of_methodNamed B.named
  have hT : ∀ w ∈ TT, w.before ([.long (n0.toInt64), .long (lN lo), .long (lN hi)]).toArray s = true := fun w h => atoms_spec (ws := (Cond.code y_Mo_in b_Mo_in 6 (some .boolean) :: TT)) B.pre w (List.mem_cons_of_mem _ h)
  have S : CallFix p m c b_Mo_in 6 s ([.long (n0.toInt64), .long (lN lo), .long (lN hi)]).toArray TT "WallFractionsModel" := ⟨hx, hb, hml, hown, hT⟩
  have hl := lv_entry ([.long (n0.toInt64), .long (lN lo), .long (lN hi)]) (n := 6) (Nat.le_of_ble_eq_true rfl)
  rw [lg_entry_eq]
  generalize (lg_sl ([.long (n0.toInt64), .long (lN lo), .long (lN hi)]) ++ List.replicate (6 - (lg_sl ([.long (n0.toInt64), .long (lN lo), .long (lN hi)])).length) Slot.unset).toArray = ls at hl ⊢
  have hl : lv_has ls 6 [(0, .long (n0.toInt64)), (2, .long (lN lo)), (4, .long (lN hi))] := hl
  skip
  refine lv_lload_n hx hb d_Mo_in_0 rfl (lv_at hl 0 rfl) ?_
  refine lv_lload_n hx hb d_Mo_in_1 rfl (lv_at hl 1 rfl) ?_
  refine hw_l_lt (tgt := 17) hx hb d_Mo_in_2 d_Mo_in_3 (by decide) (fun c137 => ?_) (fun c137 => ?_)
  · have q9 := c137
    rw [Int64.lt_iff_toInt_lt, Int32.toInt_toInt64, pk_lT (by omega)] at q9
    refine lv_iconst (v := nI 0) hx hb d_Mo_in_17 (by decide) ?_
    exact hw_zret hx hb hr hlocks hI rfl d_Mo_in_18 ⟨by rw [if_neg (fun h => by have h9 := (inR_iff h1 h2).mp h; omega)], rfl, rfl⟩
  · have q9 := c137
    rw [Int64.le_iff_toInt_le, Int32.toInt_toInt64, pk_lT (by omega)] at q9
    have q8 := q9
    refine lv_lload_n hx hb d_Mo_in_6 rfl (lv_at hl 0 rfl) ?_
    refine lv_lload hx hb d_Mo_in_7 (lv_at hl 2 rfl) ?_
    refine hw_l_gt (tgt := 17) hx hb d_Mo_in_9 d_Mo_in_10 (by decide) (fun c138 => ?_) (fun c138 => ?_)
    · have q9 := c138
      rw [Int64.lt_iff_toInt_lt, Int32.toInt_toInt64, pk_lT (by omega)] at q9
      refine lv_iconst (v := nI 0) hx hb d_Mo_in_17 (by decide) ?_
      exact hw_zret hx hb hr hlocks hI rfl d_Mo_in_18 ⟨by rw [if_neg (fun h => by have h9 := (inR_iff h1 h2).mp h; omega)], rfl, rfl⟩
    · have q9 := c138
      rw [Int64.le_iff_toInt_le, Int32.toInt_toInt64, pk_lT (by omega)] at q9
      refine lv_iconst (v := nI 1) hx hb d_Mo_in_13 (by decide) ?_
      refine lv_goto (tgt := 18) hx hb d_Mo_in_14 (by decide) ?_
      exact hw_zret hx hb hr hlocks hI rfl d_Mo_in_18 ⟨by rw [if_pos ((inR_iff h1 h2).mpr ⟨q8, q9⟩)], rfl, rfl⟩
set_option maxHeartbeats 4000000 in
set_option maxRecDepth 100000 in
theorem c_Mo_areThere (l : Launch) (D : va_G) (t0 : Nat) (L : List Nat) (f : Nat → va_E) (sz : Nat) (r0 a0 b0 : Int32)  : Met l y_Mo_areThere (Cond.code y_Mo_areThere b_Mo_areThere 3 (some .boolean) :: TT) ({ frames := 1, cells := 0, slots := 0, locals := 20 } : Room) (hw_Pc t0 [.int (r0), .int (a0), .int (b0)] D L f sz) (hw_Q D L sz (fun oc L' f' => oc = .returned (some (.int (if (vr r0 && vr a0 && vr b0) = true then nI 1 else nI 0))) ∧ L = L' ∧ f = f')) 0 0 (hw_A L sz) := by
  refine Met.ofW (cc := b_Mo_areThere) (maxL := 3) (ret := (some .boolean)) (by decide) rfl ?_
  intro p e s m args below meth c s₁ B hml hv
  obtain ⟨rfl, rfl, hI⟩ := hw_start hv
  clear hv
  have hx := B.exec
  have hb := B.bytes
  have hr := B.returns
  have hlocks := B.notSynchronized
  have hown : s.vm.findClass "WallFractionsModel" = some m.cls := findClass_of_methodNamed B.named
  have hT : ∀ w ∈ TT, w.before ([.int (r0), .int (a0), .int (b0)]).toArray s = true := fun w h => atoms_spec (ws := (Cond.code y_Mo_areThere b_Mo_areThere 3 (some .boolean) :: TT)) B.pre w (List.mem_cons_of_mem _ h)
  have S : CallFix p m c b_Mo_areThere 3 s ([.int (r0), .int (a0), .int (b0)]).toArray TT "WallFractionsModel" := ⟨hx, hb, hml, hown, hT⟩
  have hl := lv_entry ([.int (r0), .int (a0), .int (b0)]) (n := 3) (Nat.le_of_ble_eq_true rfl)
  rw [lg_entry_eq]
  generalize (lg_sl ([.int (r0), .int (a0), .int (b0)]) ++ List.replicate (3 - (lg_sl ([.int (r0), .int (a0), .int (b0)])).length) Slot.unset).toArray = ls at hl ⊢
  have hl : lv_has ls 3 [(0, .int (r0)), (1, .int (a0)), (2, .int (b0))] := hl
  skip
  by_cases hr0 : vr r0 = true
  · refine lv_iload_n hx hb d_Mo_areThere_0 rfl (lv_at hl 0 rfl) ?_
    refine hw_cS (As := [.int (r0)]) (rest := []) S hI m_Mo_isRegister w_799 (c_Mo_isRegister l D t0 L _ _ r0) hl.1 rfl rfl (Nat.le_of_ble_eq_true rfl) d_Mo_areThere_1 ⟨Nat.le_of_ble_eq_true rfl, Nat.le_of_ble_eq_true rfl⟩ ⟨Nat.le_of_ble_eq_true rfl, Nat.le_of_ble_eq_true rfl⟩ (fun v9 L9 f140 H locs hp hI => ?_)
    refine W.cs (cells' := 0) (slots' := 0) rfl rfl ?_
    obtain ⟨hv9, rfl, rfl⟩ := hp
    cases hv9
    refine hw_stk (st' := [.int (if vr r0 = true then nI 1 else nI 0)]) rfl ?_
    refine hw_ti (show _ = nI 1 from by rw [if_pos hr0]) ?_
    refine hw_if_eq (tgt := 25) hx hb d_Mo_areThere_4 (by decide) (by decide) (fun c9 => absurd c9 (by decide)) (fun _ => ?_)
    by_cases ha0 : vr a0 = true
    · refine lv_iload_n hx hb d_Mo_areThere_7 rfl (lv_at hl 1 rfl) ?_
      refine hw_cS (As := [.int (a0)]) (rest := []) S hI m_Mo_isRegister w_799 (c_Mo_isRegister l D t0 L _ _ a0) hl.1 rfl rfl (Nat.le_of_ble_eq_true rfl) d_Mo_areThere_8 ⟨Nat.le_of_ble_eq_true rfl, Nat.le_of_ble_eq_true rfl⟩ ⟨Nat.le_of_ble_eq_true rfl, Nat.le_of_ble_eq_true rfl⟩ (fun v9 L9 f142 H locs hp hI => ?_)
      refine W.cs (cells' := 0) (slots' := 0) rfl rfl ?_
      obtain ⟨hv9, rfl, rfl⟩ := hp
      cases hv9
      refine hw_stk (st' := [.int (if vr a0 = true then nI 1 else nI 0)]) rfl ?_
      refine hw_ti (show _ = nI 1 from by rw [if_pos ha0]) ?_
      refine hw_if_eq (tgt := 25) hx hb d_Mo_areThere_11 (by decide) (by decide) (fun c9 => absurd c9 (by decide)) (fun _ => ?_)
      by_cases hb0 : vr b0 = true
      · refine lv_iload_n hx hb d_Mo_areThere_14 rfl (lv_at hl 2 rfl) ?_
        refine hw_cS (As := [.int (b0)]) (rest := []) S hI m_Mo_isRegister w_799 (c_Mo_isRegister l D t0 L _ _ b0) hl.1 rfl rfl (Nat.le_of_ble_eq_true rfl) d_Mo_areThere_15 ⟨Nat.le_of_ble_eq_true rfl, Nat.le_of_ble_eq_true rfl⟩ ⟨Nat.le_of_ble_eq_true rfl, Nat.le_of_ble_eq_true rfl⟩ (fun v9 L9 f144 H locs hp hI => ?_)
        refine W.cs (cells' := 0) (slots' := 0) rfl rfl ?_
        obtain ⟨hv9, rfl, rfl⟩ := hp
        cases hv9
        refine hw_stk (st' := [.int (if vr b0 = true then nI 1 else nI 0)]) rfl ?_
        refine hw_ti (show _ = nI 1 from by rw [if_pos hb0]) ?_
        refine hw_if_eq (tgt := 25) hx hb d_Mo_areThere_18 (by decide) (by decide) (fun c9 => absurd c9 (by decide)) (fun _ => ?_)
        refine lv_iconst (v := nI 1) hx hb d_Mo_areThere_21 (by decide) ?_
        refine lv_goto (tgt := 26) hx hb d_Mo_areThere_22 (by decide) ?_
        exact hw_zret hx hb hr hlocks hI rfl d_Mo_areThere_26 ⟨by rw [if_pos (by simp [hr0, ha0, hb0])], rfl, rfl⟩
      · refine lv_iload_n hx hb d_Mo_areThere_14 rfl (lv_at hl 2 rfl) ?_
        refine hw_cS (As := [.int (b0)]) (rest := []) S hI m_Mo_isRegister w_799 (c_Mo_isRegister l D t0 L _ _ b0) hl.1 rfl rfl (Nat.le_of_ble_eq_true rfl) d_Mo_areThere_15 ⟨Nat.le_of_ble_eq_true rfl, Nat.le_of_ble_eq_true rfl⟩ ⟨Nat.le_of_ble_eq_true rfl, Nat.le_of_ble_eq_true rfl⟩ (fun v9 L9 f143 H locs hp hI => ?_)
        refine W.cs (cells' := 0) (slots' := 0) rfl rfl ?_
        obtain ⟨hv9, rfl, rfl⟩ := hp
        cases hv9
        refine hw_stk (st' := [.int (if vr b0 = true then nI 1 else nI 0)]) rfl ?_
        refine hw_ti (show _ = nI 0 from by rw [if_neg hb0]) ?_
        refine hw_if_eq (tgt := 25) hx hb d_Mo_areThere_18 (by decide) (by decide) (fun _ => ?_) (fun c9 => absurd c9 (by decide))
        refine lv_iconst (v := nI 0) hx hb d_Mo_areThere_25 (by decide) ?_
        exact hw_zret hx hb hr hlocks hI rfl d_Mo_areThere_26 ⟨by rw [if_neg (by simp [hb0])], rfl, rfl⟩
    · refine lv_iload_n hx hb d_Mo_areThere_7 rfl (lv_at hl 1 rfl) ?_
      refine hw_cS (As := [.int (a0)]) (rest := []) S hI m_Mo_isRegister w_799 (c_Mo_isRegister l D t0 L _ _ a0) hl.1 rfl rfl (Nat.le_of_ble_eq_true rfl) d_Mo_areThere_8 ⟨Nat.le_of_ble_eq_true rfl, Nat.le_of_ble_eq_true rfl⟩ ⟨Nat.le_of_ble_eq_true rfl, Nat.le_of_ble_eq_true rfl⟩ (fun v9 L9 f141 H locs hp hI => ?_)
      refine W.cs (cells' := 0) (slots' := 0) rfl rfl ?_
      obtain ⟨hv9, rfl, rfl⟩ := hp
      cases hv9
      refine hw_stk (st' := [.int (if vr a0 = true then nI 1 else nI 0)]) rfl ?_
      refine hw_ti (show _ = nI 0 from by rw [if_neg ha0]) ?_
      refine hw_if_eq (tgt := 25) hx hb d_Mo_areThere_11 (by decide) (by decide) (fun _ => ?_) (fun c9 => absurd c9 (by decide))
      refine lv_iconst (v := nI 0) hx hb d_Mo_areThere_25 (by decide) ?_
      exact hw_zret hx hb hr hlocks hI rfl d_Mo_areThere_26 ⟨by rw [if_neg (by simp [ha0])], rfl, rfl⟩
  · refine lv_iload_n hx hb d_Mo_areThere_0 rfl (lv_at hl 0 rfl) ?_
    refine hw_cS (As := [.int (r0)]) (rest := []) S hI m_Mo_isRegister w_799 (c_Mo_isRegister l D t0 L _ _ r0) hl.1 rfl rfl (Nat.le_of_ble_eq_true rfl) d_Mo_areThere_1 ⟨Nat.le_of_ble_eq_true rfl, Nat.le_of_ble_eq_true rfl⟩ ⟨Nat.le_of_ble_eq_true rfl, Nat.le_of_ble_eq_true rfl⟩ (fun v9 L9 f139 H locs hp hI => ?_)
    refine W.cs (cells' := 0) (slots' := 0) rfl rfl ?_
    obtain ⟨hv9, rfl, rfl⟩ := hp
    cases hv9
    refine hw_stk (st' := [.int (if vr r0 = true then nI 1 else nI 0)]) rfl ?_
    refine hw_ti (show _ = nI 0 from by rw [if_neg hr0]) ?_
    refine hw_if_eq (tgt := 25) hx hb d_Mo_areThere_4 (by decide) (by decide) (fun _ => ?_) (fun c9 => absurd c9 (by decide))
    refine lv_iconst (v := nI 0) hx hb d_Mo_areThere_25 (by decide) ?_
    exact hw_zret hx hb hr hlocks hI rfl d_Mo_areThere_26 ⟨by rw [if_neg (by simp [hr0])], rfl, rfl⟩
set_option maxHeartbeats 4000000 in
set_option maxRecDepth 100000 in
theorem c_Mo_isWhole (l : Launch) (D : va_G) (t0 : Nat) (L : List Nat) (f : Nat → va_E) (sz : Nat) (mm mc ml mg mw mr : Nat) (th : Int32) (y : Nat → Nat) (sn : Nat → Int32) (wt rr : Nat → Nat) (k : Nat) (hn : Mn D L f mm mc ml mg mw mr th y sn wt rr) (hk : k < 16) : Met l y_Mo_isWhole (Cond.code y_Mo_isWhole b_Mo_isWhole 2 (some .boolean) :: TT) ({ frames := 1, cells := 0, slots := 0, locals := 22 } : Room) (hw_Pc t0 [.ref (mm), .int (nI k)] D L f sz) (hw_Q D L sz (fun oc L' f' => oc = .returned (some (.int (if y (16 + k) = 1 then nI 1 else nI 0))) ∧ L = L' ∧ f = f')) 0 0 (hw_A L sz) := by
  refine Met.ofW (cc := b_Mo_isWhole) (maxL := 2) (ret := (some .boolean)) (by decide) rfl ?_
  intro p e s m args below meth c s₁ B hml hv
  obtain ⟨rfl, rfl, hI⟩ := hw_start hv
  clear hv
  have hx := B.exec
  have hb := B.bytes
  have hr := B.returns
  have hlocks := B.notSynchronized
  have hown : s.vm.findClass "WallFractionsModel" = some m.cls := findClass_of_methodNamed B.named
  have hT : ∀ w ∈ TT, w.before ([.ref (mm), .int (nI k)]).toArray s = true := fun w h => atoms_spec (ws := (Cond.code y_Mo_isWhole b_Mo_isWhole 2 (some .boolean) :: TT)) B.pre w (List.mem_cons_of_mem _ h)
  have S : CallFix p m c b_Mo_isWhole 2 s ([.ref (mm), .int (nI k)]).toArray TT "WallFractionsModel" := ⟨hx, hb, hml, hown, hT⟩
  have hl := lv_entry ([.ref (mm), .int (nI k)]) (n := 2) (Nat.le_of_ble_eq_true rfl)
  rw [lg_entry_eq]
  generalize (lg_sl ([.ref (mm), .int (nI k)]) ++ List.replicate (2 - (lg_sl ([.ref (mm), .int (nI k)])).length) Slot.unset).toArray = ls at hl ⊢
  have hl : lv_has ls 2 [(0, .ref (mm)), (1, .int (nI k))] := hl
  skip
  obtain ⟨cs, ns, hm, hc⟩ := hn
  have h1 := (hc.2 (16 + k) (by omega)).1
  have ho := nOk_one4 (hc.2 (16 + k) (by omega)).2
  refine lv_aload_n hx hb d_Mo_isWhole_0 rfl (lv_at hl 0 rfl) ?_
  refine ob_get S hI hm.1 (C := R_Mo) (T := F_Mo) (N := 6) (ref := "WallFractionsModel") rfl i_Mo 2 (by decide) rfl w_773 rfl d_Mo_isWhole_1 ?_
  refine lv_bipush (v := nI 16) hx hb d_Mo_isWhole_4 (by decide) ?_
  refine lv_iload_n hx hb d_Mo_isWhole_6 rfl (lv_at hl 1 rfl) ?_
  refine lv_iadd hx hb d_Mo_isWhole_7 ?_
  refine hw_ti (nI_add _ _) ?_
  refine ia_ld S hI hm.2.2.1 (by decide) (by omega) d_Mo_isWhole_8 ?_
  refine lv_iconst (v := nI 1) hx hb d_Mo_isWhole_9 (by decide) ?_
  refine hw_icmp_ne (tgt := 30) hx hb d_Mo_isWhole_10 (by decide) (by omega) (by omega) (fun c145 => ?_) (fun c145 => ?_)
  · refine lv_iconst (v := nI 0) hx hb d_Mo_isWhole_30 (by decide) ?_
    exact hw_zret hx hb hr hlocks hI rfl d_Mo_isWhole_31 ⟨by rw [if_neg (fun h => c145 (ho.mpr h).1)], rfl, rfl⟩
  · refine lv_aload_n hx hb d_Mo_isWhole_13 rfl (lv_at hl 0 rfl) ?_
    refine lv_bipush (v := nI 16) hx hb d_Mo_isWhole_14 (by decide) ?_
    refine lv_iload_n hx hb d_Mo_isWhole_16 rfl (lv_at hl 1 rfl) ?_
    refine lv_iadd hx hb d_Mo_isWhole_17 ?_
    refine hw_ti (nI_add _ _) ?_
    refine lv_iconst (v := nI 0) hx hb d_Mo_isWhole_18 (by decide) ?_
    refine hw_cV (As := [.int (nI (16 + k)), .int (nI 0)]) (rest := []) S hI m_Mo_cell w_822 (c_Mo_cell l D t0 L _ _ mm mc ml mg mw mr th cs ns sn wt rr (16 + k) 0 hm (by omega) (by omega) h1) hm.1 rfl hl.1 rfl rfl (Nat.le_of_ble_eq_true rfl) d_Mo_isWhole_19 ⟨Nat.le_of_ble_eq_true rfl, Nat.le_of_ble_eq_true rfl⟩ ⟨Nat.le_of_ble_eq_true rfl, Nat.le_of_ble_eq_true rfl⟩ (fun v9 L9 f146 H locs hp hI => ?_)
    refine W.cs (cells' := 0) (slots' := 0) rfl rfl ?_
    obtain ⟨hv9, rfl, rfl⟩ := hp
    cases hv9
    refine hw_stk (st' := [.int (nI (pcl cs ns (16 + k) 0))]) rfl ?_
    have hct := hc.1 (128 * (16 + k) + 0)
    refine hw_ti (show _ = nI (cs (128 * (16 + k) + 0)) from by unfold pcl; rw [if_pos (by omega)]) ?_
    refine lv_iconst (v := nI 1) hx hb d_Mo_isWhole_22 (by decide) ?_
    refine hw_icmp_ne (tgt := 30) hx hb d_Mo_isWhole_23 (by decide) (by omega) (by omega) (fun c147 => ?_) (fun c147 => ?_)
    · refine lv_iconst (v := nI 0) hx hb d_Mo_isWhole_30 (by decide) ?_
      exact hw_zret hx hb hr hlocks hI rfl d_Mo_isWhole_31 ⟨by rw [if_neg (fun h => c147 (ho.mpr h).2)], rfl, rfl⟩
    · refine lv_iconst (v := nI 1) hx hb d_Mo_isWhole_26 (by decide) ?_
      refine lv_goto (tgt := 31) hx hb d_Mo_isWhole_27 (by decide) ?_
      exact hw_zret hx hb hr hlocks hI rfl d_Mo_isWhole_31 ⟨by rw [if_pos (ho.mp ⟨c145, c147⟩)], rfl, rfl⟩

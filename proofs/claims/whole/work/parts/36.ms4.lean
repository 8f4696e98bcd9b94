def Tri (a b c : Nat) : Prop := 39 ≤ a ∧ a ≤ 41 ∧ 39 ≤ b ∧ b ≤ 41 ∧ 39 ≤ c ∧ c ≤ 41 ∧ a ≠ b ∧ a ≠ c ∧ b ≠ c
theorem pw_half {t a b C : Nat} (h : 2 * a ≤ b) (hC : 2 ^ t * b ≤ C) : 2 ^ (t + 1) * a ≤ C := by
  rw [Nat.pow_succ, Nat.mul_assoc]
  exact Nat.le_trans (Nat.mul_le_mul_left _ h) hC
theorem pw_end {t a C : Nat} (h : 0 < a) (hC : 2 ^ t * a ≤ C) (hb : C < 2 ^ 2460) : t < 2460 := by
  have : 2 ^ t * 1 ≤ 2 ^ t * a := Nat.mul_le_mul_left _ h
  exact pow_lt_of (i := t) (C := C) (by omega) hb
theorem nB82 : nB ^ 41 * nB ^ 41 < 2 ^ 2460 := by decide +kernel
theorem mod_half {P Q : Nat} (hQ : 0 < Q) (h : Q ≤ P) : 2 * (Q * (P % Q)) ≤ P * Q := by
  have hd := Nat.div_add_mod P Q
  have h1 := Nat.mod_lt P hQ
  have e2 := half_step (P := P) (Q := Q) (t := P / Q) (by rw [Nat.mul_comm]; omega) (by rw [Nat.add_mul, Nat.one_mul, Nat.mul_comm]; omega) h
  have e3 : P - P / Q * Q = P % Q := by rw [Nat.mul_comm]; omega
  rw [e3] at e2
  exact e2
theorem nB2_63 : nB ^ 2 < 2 ^ 63 := by decide
set_option maxHeartbeats 4000000 in
set_option maxRecDepth 100000 in
theorem c_Ms_of (l : Launch) (D : va_G) (t0 : Nat) (L : List Nat) (f : Nat → va_E) (sz : Nat) (o r : Nat → Nat) (am ad al ab : Nat) (G Ls Rs : Nat) (ea eb ec ed : Int) (x u w : Nat → Nat) (j k : Nat) (hY : Lay o r 46) (hM : hw_c L f am (.inr (2, [.ref ad, .ref (o 38), .ref (o G), .ref (o Ls), .ref (o Rs), .long (zL ea), .long (zL eb), .long (zL ec), .long (zL ed)]))) (hN : AllN D L f o r 46 x) (hA : hw_c L f ad (.inr (0, [.ref al, .ref ab]))) (hU : arrN D L f al 42 u) (hWb : arrN D L f ab 42 w) (hab : al ≠ ab) (hTr : Tri G Ls Rs) (hj : j < 46) (hk : k < 46) (hj2 : j < 38 ∨ 41 < j) (hk2 : k < 38 ∨ 41 < k) (h0 : 0 < x j ∨ 0 < x k) : Met l y_Ms_of (Cond.code y_Ms_of b_Ms_of 5 (some (.object "WallFractions$Whole")) :: TT) ({ frames := 9, cells := 0, slots := 0, locals := 192 } : Room) (hw_Pc t0 [.ref (am), .ref (o j), .ref (o k)] D L f sz) (hw_Q D L sz (fun oc L' f' => L = L' ∧ ∃ (G Ls Rs : Nat) (ea eb ec ed : Int) (x' u' w' : Nat → Nat), oc = .returned (some (.ref (o G))) ∧ Tri G Ls Rs ∧ hw_c L f' am (.inr (2, [.ref ad, .ref (o 38), .ref (o G), .ref (o Ls), .ref (o Rs), .long (zL ea), .long (zL eb), .long (zL ec), .long (zL ed)])) ∧ AllN D L f' o r 46 x' ∧ x' G = Nat.gcd (x j) (x k) ∧ (∀ i, i < 38 ∨ 41 < i → x' i = x i) ∧ arrN D L f' al 42 u' ∧ arrN D L f' ab 42 w' ∧ (∀ q, q ≠ am → q ≠ al → q ≠ ab → (∀ i, 38 ≤ i → i ≤ 41 → q ≠ o i ∧ q ≠ r i) → f' q = f q))) 0 0 (hw_A L sz) := by
  refine Met.ofW (cc := b_Ms_of) (maxL := 5) (ret := (some (.object "WallFractions$Whole"))) (by decide) rfl ?_
  intro p e s m args below meth c s₁ B hml hv
  obtain ⟨rfl, rfl, hI⟩ := hw_start hv
  clear hv
  have hx := B.exec
  have hb := B.bytes
  have hr := B.returns
  have hlocks := B.notSynchronized
  have hown : s.vm.findClass "WallFractions$Measure" = some m.cls := findClass_of_methodNamed B.named
  have hT : ∀ w ∈ TT, w.before ([.ref (am), .ref (o j), .ref (o k)]).toArray s = true := fun w h => atoms_spec (ws := (Cond.code y_Ms_of b_Ms_of 5 (some (.object "WallFractions$Whole")) :: TT)) B.pre w (List.mem_cons_of_mem _ h)
  have S : CallFix p m c b_Ms_of 5 s ([.ref (am), .ref (o j), .ref (o k)]).toArray TT "WallFractions$Measure" := ⟨hx, hb, hml, hown, hT⟩
  have hl := lv_entry ([.ref (am), .ref (o j), .ref (o k)]) (n := 5) (Nat.le_of_ble_eq_true rfl)
  rw [lg_entry_eq]
  generalize (lg_sl ([.ref (am), .ref (o j), .ref (o k)]) ++ List.replicate (5 - (lg_sl ([.ref (am), .ref (o j), .ref (o k)])).length) Slot.unset).toArray = ls at hl ⊢
  have hl : lv_has ls 5 [(0, .ref (am)), (1, .ref (o j)), (2, .ref (o k))] := hl
  skip
  have hnB : nB = 1000000000 := rfl
  obtain ⟨v0, hV0, hO0⟩ := id hN
  have hMr : ∀ z, z < 46 → am ≠ r z := fun z hz e9 => hw_ne (hV0 z hz).2 hM e9.symm
  have hMo : ∀ z, z < 46 → am ≠ o z := fun z hz => hM.ne (hV0 z hz).1 (fun e9 => by cases e9)
  have hDr : ∀ z, z < 46 → ad ≠ r z := fun z hz e9 => hw_ne (hV0 z hz).2 hA e9.symm
  have hDo : ∀ z, z < 46 → ad ≠ o z := fun z hz => hA.ne (hV0 z hz).1 (fun e9 => by cases e9)
  have hal : ∀ z, z < 46 → al ≠ r z := fun z hz => hU.ne (hV0 z hz).2 (fun e9 => by simp at e9)
  have hbl : ∀ z, z < 46 → ab ≠ r z := fun z hz => hWb.ne (hV0 z hz).2 (fun e9 => by simp at e9)
  have halo : ∀ z, z < 46 → al ≠ o z := fun z hz e9 => hV0.ne hU hz e9.symm
  have hblo : ∀ z, z < 46 → ab ≠ o z := fun z hz e9 => hV0.ne hWb hz e9.symm
  have hMD : am ≠ ad := hM.ne hA (fun e9 => by cases e9)
  have hMl : am ≠ al := fun e9 => hw_ne hU hM e9.symm
  have hMb : am ≠ ab := fun e9 => hw_ne hWb hM e9.symm
  have hDl : ad ≠ al := fun e9 => hw_ne hU hA e9.symm
  have hDb : ad ≠ ab := fun e9 => hw_ne hWb hA e9.symm
  obtain ⟨Gd, hGd⟩ : ∃ Gd, Gd = Nat.gcd (x j) (x k) := ⟨_, rfl⟩
  have hCb : x j * x k < 2 ^ 2460 := Nat.lt_of_le_of_lt (Nat.mul_le_mul (Nat.le_of_lt (Nat.lt_of_lt_of_le (hO0 j hj).2.lt (Nat.pow_le_pow_right nB_pos (hO0 j hj).1))) (Nat.le_of_lt (Nat.lt_of_lt_of_le (hO0 k hk).2.lt (Nat.pow_le_pow_right nB_pos (hO0 k hk).1)))) nB82
  have tail : ∀ (G Ls Rs : Nat) (ea eb ec ed : Int) (y u w : Nat → Nat) (f1 : Nat → va_E) (H : Heap) (locs : List Loc) (ls : Array Slot), (y Ls = 0 ∨ (y G < nB ^ 2 ∧ y Ls ≤ y G)) → Tri G Ls Rs → AllN D L f1 o r 46 y → 0 < y G → Nat.gcd (y G) (y Ls) = Gd → (∀ i, i < 38 ∨ 41 < i → y i = x i) → hw_c L f1 am (.inr (2, [.ref ad, .ref (o 38), .ref (o G), .ref (o Ls), .ref (o Rs), .long (zL ea), .long (zL eb), .long (zL ec), .long (zL ed)])) → hw_c L f1 ad (.inr (0, [.ref al, .ref ab])) → arrN D L f1 al 42 u → arrN D L f1 ab 42 w → (∀ q, q ≠ am → q ≠ al → q ≠ ab → (∀ i, 38 ≤ i → i ≤ 41 → q ≠ o i ∧ q ≠ r i) → f1 q = f q) → hw_I D t0 (hw_A L s.heap.size) s L f1 H locs → lv_has ls 5 [(0, .ref (am))] → W p l e (headSpec (Cond.code y_Ms_of b_Ms_of 5 (some (.object "WallFractions$Whole")) :: TT) ({ frames := 9, cells := 0, slots := 0, locals := 192 } : Room)).room s m ([.ref (am), .ref (o j), .ref (o k)]).toArray below meth c H locs 0 0 (MQ below (hw_Q D L s.heap.size (fun oc L' f' => L = L' ∧ ∃ (G Ls Rs : Nat) (ea eb ec ed : Int) (x' u' w' : Nat → Nat), oc = .returned (some (.ref (o G))) ∧ Tri G Ls Rs ∧ hw_c L f' am (.inr (2, [.ref ad, .ref (o 38), .ref (o G), .ref (o Ls), .ref (o Rs), .long (zL ea), .long (zL eb), .long (zL ec), .long (zL ed)])) ∧ AllN D L f' o r 46 x' ∧ x' G = Nat.gcd (x j) (x k) ∧ (∀ i, i < 38 ∨ 41 < i → x' i = x i) ∧ arrN D L f' al 42 u' ∧ arrN D L f' ab 42 w' ∧ (∀ q, q ≠ am → q ≠ al → q ≠ ab → (∀ i, 38 ≤ i → i ≤ 41 → q ≠ o i ∧ q ≠ r i) → f' q = f q))) ([.ref (am), .ref (o j), .ref (o k)]).toArray s 0 0 (hw_A L s.heap.size)) (F0 m 130 ls []) := by
    intro G Ls Rs ea eb ec ed y u w f1 H locs ls hex hTr hN hG0 hg hsame hM hA hU hWb hF hI hl
    obtain ⟨t1, t2, t3, t4, t5, t6, t7, t8, t9⟩ := id hTr
    have hG : G < 46 := by omega
    have hLs : Ls < 46 := by omega
    obtain ⟨v, hV, hO⟩ := id hN
    refine lv_aload_n hx hb d_Ms_of_130 rfl (lv_at hl 0 rfl) ?_
    refine ob_get S hI hM (C := R_Ms) (T := F_Ms) (N := 9) (ref := "WallFractions$Measure") rfl i_Ms 3 (by decide) rfl w_103 rfl d_Ms_of_131 ?_
    refine hw_cV (As := []) (rest := []) S hI m_Wh_isZero w_440 (c_Wh_isZero l D t0 L _ _ o r 46 y Ls hLs hY hN) (hV _ hLs).1 rfl hl.1 rfl rfl (Nat.le_of_ble_eq_true rfl) d_Ms_of_134 ⟨Nat.le_of_ble_eq_true rfl, Nat.le_of_ble_eq_true rfl⟩ ⟨Nat.le_of_ble_eq_true rfl, Nat.le_of_ble_eq_true rfl⟩ (fun v9 L9 f1 H locs hp hI => ?_)
    refine W.cs (cells' := 0) (slots' := 0) rfl rfl ?_
    obtain ⟨hv9, rfl, rfl⟩ := hp
    cases hv9
    refine hw_stk (st' := [.int (if y Ls = 0 then nI 1 else nI 0)]) rfl ?_
    by_cases hz : y Ls = 0
    · refine hw_ti (show _ = nI 1 from if_pos hz) ?_
      refine hw_if_ne (tgt := 164) hx hb d_Ms_of_137 (by decide) (by omega) (fun c2 => ?_) (fun c2 => ?_)
      · rw [hz, Nat.gcd_zero_right] at hg
        refine lv_aload_n hx hb d_Ms_of_164 rfl (lv_at hl 0 rfl) ?_
        refine ob_get S hI hM (C := R_Ms) (T := F_Ms) (N := 9) (ref := "WallFractions$Measure") rfl i_Ms 2 (by decide) rfl w_102 rfl d_Ms_of_165 ?_
        exact hw_aret hx hb hr hlocks hI d_Ms_of_168 ⟨rfl, G, Ls, Rs, ea, eb, ec, ed, y, u, w, rfl, hTr, hM, hN, by rw [hg, hGd], hsame, hU, hWb, hF⟩
      · exact absurd c2 (by decide)
    · refine hw_ti (show _ = nI 0 from if_neg hz) ?_
      refine hw_if_ne (tgt := 164) hx hb d_Ms_of_137 (by decide) (by omega) (fun c3 => ?_) (fun c3 => ?_)
      · exact absurd rfl c3
      · rcases hex with hex | ⟨hex, hle⟩
        · exact absurd hex hz
        have hB2 := nB2_63
        refine lv_aload_n hx hb d_Ms_of_140 rfl (lv_at hl 0 rfl) ?_
        refine ob_get S hI hM (C := R_Ms) (T := F_Ms) (N := 9) (ref := "WallFractions$Measure") rfl i_Ms 2 (by decide) rfl w_102 rfl d_Ms_of_141 ?_
        refine lv_aload_n hx hb d_Ms_of_144 rfl (lv_at hl 0 rfl) ?_
        refine ob_get S hI hM (C := R_Ms) (T := F_Ms) (N := 9) (ref := "WallFractions$Measure") rfl i_Ms 2 (by decide) rfl w_102 rfl d_Ms_of_145 ?_
        refine hw_cV (As := []) (rest := [.ref (o G)]) S hI m_Wh_lowest w_513 (c_Wh_lowest l D t0 L _ _ o r 46 y G hG hY hN hex) (hV _ hG).1 rfl hl.1 rfl rfl (Nat.le_of_ble_eq_true rfl) d_Ms_of_148 ⟨Nat.le_of_ble_eq_true rfl, Nat.le_of_ble_eq_true rfl⟩ ⟨Nat.le_of_ble_eq_true rfl, Nat.le_of_ble_eq_true rfl⟩ (fun v9 L9 f4 H locs hp hI => ?_)
        refine W.cs (cells' := 0) (slots' := 0) rfl rfl ?_
        obtain ⟨hv9, rfl, rfl⟩ := hp
        cases hv9
        refine hw_stk (st' := [.long (lN (y G)), .ref (o G)]) rfl ?_
        refine lv_aload_n hx hb d_Ms_of_151 rfl (lv_at hl 0 rfl) ?_
        refine ob_get S hI hM (C := R_Ms) (T := F_Ms) (N := 9) (ref := "WallFractions$Measure") rfl i_Ms 3 (by decide) rfl w_103 rfl d_Ms_of_152 ?_
        refine hw_cV (As := []) (rest := [.long (lN (y G)), .ref (o G)]) S hI m_Wh_lowest w_513 (c_Wh_lowest l D t0 L _ _ o r 46 y Ls hLs hY hN (by omega)) (hV _ hLs).1 rfl hl.1 rfl rfl (Nat.le_of_ble_eq_true rfl) d_Ms_of_155 ⟨Nat.le_of_ble_eq_true rfl, Nat.le_of_ble_eq_true rfl⟩ ⟨Nat.le_of_ble_eq_true rfl, Nat.le_of_ble_eq_true rfl⟩ (fun v9 L9 f5 H locs hp hI => ?_)
        refine W.cs (cells' := 0) (slots' := 0) rfl rfl ?_
        obtain ⟨hv9, rfl, rfl⟩ := hp
        cases hv9
        refine hw_stk (st' := [.long (lN (y Ls)), .long (lN (y G)), .ref (o G)]) rfl ?_
        refine hw_cS (As := [.long (lN (y G)), .long (lN (y Ls))]) (rest := [.ref (o G)]) S hI m_Ms_ofShort w_517 (c_Ms_ofShort l D t0 L _ _ (y G) (y Ls) (by omega) (by omega)) hl.1 rfl rfl (Nat.le_of_ble_eq_true rfl) d_Ms_of_158 ⟨Nat.le_of_ble_eq_true rfl, Nat.le_of_ble_eq_true rfl⟩ ⟨Nat.le_of_ble_eq_true rfl, Nat.le_of_ble_eq_true rfl⟩ (fun v9 L9 f6 H locs hp hI => ?_)
        refine W.cs (cells' := 0) (slots' := 0) rfl rfl ?_
        obtain ⟨hv9, rfl, rfl⟩ := hp
        cases hv9
        refine hw_stk (st' := [.long (lN (Nat.gcd (y G) (y Ls))), .ref (o G)]) rfl ?_
        have hgl := Nat.gcd_le_left (y Ls) hG0
        refine hw_cV (As := [.long (lN (Nat.gcd (y G) (y Ls)))]) (rest := []) S hI m_Wh_become w_518 (c_Wh_become l D t0 L _ _ o r 46 y G (Nat.gcd (y G) (y Ls)) hG hY hN (by omega)) (hV _ hG).1 rfl hl.1 rfl rfl (Nat.le_of_ble_eq_true rfl) d_Ms_of_161 ⟨Nat.le_of_ble_eq_true rfl, Nat.le_of_ble_eq_true rfl⟩ ⟨Nat.le_of_ble_eq_true rfl, Nat.le_of_ble_eq_true rfl⟩ (fun v9 L9 f7 H locs hp hI => ?_)
        refine W.cs (cells' := 0) (slots' := 0) rfl rfl ?_
        obtain ⟨hv9, rfl, hN, hf9⟩ := hp
        cases hv9
        refine hw_stk (st' := []) rfl ?_
        have hM := hM.fr (hf9 _ (hMo G hG) (hMr G hG))
        have hU : arrN D L f7 al 42 u := hU.fr (hf9 _ (halo G hG) (hal G hG))
        have hWb : arrN D L f7 ab 42 w := hWb.fr (hf9 _ (hblo G hG) (hbl G hG))
        refine lv_aload_n hx hb d_Ms_of_164 rfl (lv_at hl 0 rfl) ?_
        refine ob_get S hI hM (C := R_Ms) (T := F_Ms) (N := 9) (ref := "WallFractions$Measure") rfl i_Ms 2 (by decide) rfl w_102 rfl d_Ms_of_165 ?_
        exact hw_aret hx hb hr hlocks hI d_Ms_of_168 ⟨rfl, G, Ls, Rs, ea, eb, ec, ed, _, u, w, rfl, hTr, hM, hN, by rw [hw_up_eq, hg, hGd], (fun i hi => by rw [hw_up_ne (by omega)]; exact hsame i hi), hU, hWb, (fun q q1 q2 q3 q4 => (hf9 q (q4 G (by omega) (by omega)).1 (q4 G (by omega) (by omega)).2).trans (hF q q1 q2 q3 q4))⟩
  have loop : ∀ (g t : Nat) (G Ls Rs : Nat) (ea eb ec ed : Int) (y u w : Nat → Nat) (f1 : Nat → va_E) (H : Heap) (locs : List Loc) (ls : Array Slot), t + g = 100000 → 2 ^ t * (y G * y Ls) ≤ x j * x k → y Ls ≤ y G → Tri G Ls Rs → AllN D L f1 o r 46 y → 0 < y G → Nat.gcd (y G) (y Ls) = Gd → (∀ i, i < 38 ∨ 41 < i → y i = x i) → hw_c L f1 am (.inr (2, [.ref ad, .ref (o 38), .ref (o G), .ref (o Ls), .ref (o Rs), .long (zL ea), .long (zL eb), .long (zL ec), .long (zL ed)])) → hw_c L f1 ad (.inr (0, [.ref al, .ref ab])) → arrN D L f1 al 42 u → arrN D L f1 ab 42 w → (∀ q, q ≠ am → q ≠ al → q ≠ ab → (∀ i, 38 ≤ i → i ≤ 41 → q ≠ o i ∧ q ≠ r i) → f1 q = f q) → hw_I D t0 (hw_A L s.heap.size) s L f1 H locs → lv_has ls 5 [(4, .int (nI t)), (0, .ref (am))] → W p l e (headSpec (Cond.code y_Ms_of b_Ms_of 5 (some (.object "WallFractions$Whole")) :: TT) ({ frames := 9, cells := 0, slots := 0, locals := 192 } : Room)).room s m ([.ref (am), .ref (o j), .ref (o k)]).toArray below meth c H locs 0 0 (MQ below (hw_Q D L s.heap.size (fun oc L' f' => L = L' ∧ ∃ (G Ls Rs : Nat) (ea eb ec ed : Int) (x' u' w' : Nat → Nat), oc = .returned (some (.ref (o G))) ∧ Tri G Ls Rs ∧ hw_c L f' am (.inr (2, [.ref ad, .ref (o 38), .ref (o G), .ref (o Ls), .ref (o Rs), .long (zL ea), .long (zL eb), .long (zL ec), .long (zL ed)])) ∧ AllN D L f' o r 46 x' ∧ x' G = Nat.gcd (x j) (x k) ∧ (∀ i, i < 38 ∨ 41 < i → x' i = x i) ∧ arrN D L f' al 42 u' ∧ arrN D L f' ab 42 w' ∧ (∀ q, q ≠ am → q ≠ al → q ≠ ab → (∀ i, 38 ≤ i → i ≤ 41 → q ≠ o i ∧ q ≠ r i) → f' q = f q))) ([.ref (am), .ref (o j), .ref (o k)]).toArray s 0 0 (hw_A L s.heap.size)) (F0 m 49 ls []) := by
    intro g
    induction g with
    | zero =>
      intro t G Ls Rs ea eb ec ed y u w f1 H locs ls htg hC hle hTr hN hG0 hg hsame hM hA hU hWb hF hI hl
      obtain ⟨t1, t2, t3, t4, t5, t6, t7, t8, t9⟩ := id hTr
      have hG : G < 46 := by omega
      have hLs : Ls < 46 := by omega
      have hRs : Rs < 46 := by omega
      obtain ⟨v, hV, hO⟩ := id hN
      have h41 := (hO G hG).1
      refine lv_iload hx hb d_Ms_of_49 (lv_at hl 0 rfl) ?_
      refine hw_ldc (v := nI 100000) hx hb hown (hT _ w_309) d_Ms_of_51 ?_
      refine hw_icmp_ge (tgt := 130) hx hb d_Ms_of_53 (by decide) (by omega) (by omega) (fun c8 => ?_) (fun c8 => ?_)
      · exact tail G Ls Rs ea eb ec ed y u w _ _ _ _ (by rcases Nat.eq_zero_or_pos (y Ls) with e9 | e9; exact Or.inl e9; have h9 := pw_end (Nat.mul_pos hG0 e9) hC hCb; omega) hTr hN hG0 hg hsame hM hA hU hWb hF hI (lv_sub hl [1] rfl)
      · exact absurd c8 (by omega)
    | succ g ih =>
      intro t G Ls Rs ea eb ec ed y u w f1 H locs ls htg hC hle hTr hN hG0 hg hsame hM hA hU hWb hF hI hl
      obtain ⟨t1, t2, t3, t4, t5, t6, t7, t8, t9⟩ := id hTr
      have hG : G < 46 := by omega
      have hLs : Ls < 46 := by omega
      have hRs : Rs < 46 := by omega
      obtain ⟨v, hV, hO⟩ := id hN
      have h41 := (hO G hG).1
      refine lv_iload hx hb d_Ms_of_49 (lv_at hl 0 rfl) ?_
      refine hw_ldc (v := nI 100000) hx hb hown (hT _ w_309) d_Ms_of_51 ?_
      refine hw_icmp_ge (tgt := 130) hx hb d_Ms_of_53 (by decide) (by omega) (by omega) (fun c9 => ?_) (fun c9 => ?_)
      · exact tail G Ls Rs ea eb ec ed y u w _ _ _ _ (by rcases Nat.eq_zero_or_pos (y Ls) with e9 | e9; exact Or.inl e9; have h9 := pw_end (Nat.mul_pos hG0 e9) hC hCb; omega) hTr hN hG0 hg hsame hM hA hU hWb hF hI (lv_sub hl [1] rfl)
      · refine lv_aload_n hx hb d_Ms_of_56 rfl (lv_at hl 1 rfl) ?_
        refine ob_get S hI hM (C := R_Ms) (T := F_Ms) (N := 9) (ref := "WallFractions$Measure") rfl i_Ms 2 (by decide) rfl w_102 rfl d_Ms_of_57 ?_
        refine wh_sizeN S hI hV hG (by decide) d_Ms_of_60 ?_
        refine lv_iconst (v := nI 2) hx hb d_Ms_of_63 (by decide) ?_
        refine hw_icmp_le (tgt := 130) hx hb d_Ms_of_64 (by decide) (by omega) (by omega) (fun c10 => ?_) (fun c10 => ?_)
        · exact tail G Ls Rs ea eb ec ed y u w _ _ _ _ (Or.inr ⟨((hO G hG).2.size_le nB1).mp c10, hle⟩) hTr hN hG0 hg hsame hM hA hU hWb hF hI (lv_sub hl [1] rfl)
        · have h3 : nB ^ 2 ≤ y G := by rcases Nat.lt_or_ge (y G) (nB ^ 2) with q | q; have q1 := ((hO G hG).2.size_le nB1).mpr q; omega; exact q
          refine lv_aload_n hx hb d_Ms_of_67 rfl (lv_at hl 1 rfl) ?_
          refine ob_get S hI hM (C := R_Ms) (T := F_Ms) (N := 9) (ref := "WallFractions$Measure") rfl i_Ms 3 (by decide) rfl w_103 rfl d_Ms_of_68 ?_
          refine hw_cV (As := []) (rest := []) S hI m_Wh_isZero w_440 (c_Wh_isZero l D t0 L _ _ o r 46 y Ls hLs hY hN) (hV _ hLs).1 rfl hl.1 rfl rfl (Nat.le_of_ble_eq_true rfl) d_Ms_of_71 ⟨Nat.le_of_ble_eq_true rfl, Nat.le_of_ble_eq_true rfl⟩ ⟨Nat.le_of_ble_eq_true rfl, Nat.le_of_ble_eq_true rfl⟩ (fun v9 L9 f11 H locs hp hI => ?_)
          refine W.cs (cells' := 0) (slots' := 0) rfl rfl ?_
          obtain ⟨hv9, rfl, rfl⟩ := hp
          cases hv9
          refine hw_stk (st' := [.int (if y Ls = 0 then nI 1 else nI 0)]) rfl ?_
          by_cases hz : y Ls = 0
          · refine hw_ti (show _ = nI 1 from if_pos hz) ?_
            refine hw_if_ne (tgt := 130) hx hb d_Ms_of_74 (by decide) (by omega) (fun c12 => ?_) (fun c12 => ?_)
            · exact tail G Ls Rs ea eb ec ed y u w _ _ _ _ (Or.inl hz) hTr hN hG0 hg hsame hM hA hU hWb hF hI (lv_sub hl [1] rfl)
            · exact absurd c12 (by decide)
          · refine hw_ti (show _ = nI 0 from if_neg hz) ?_
            refine hw_if_ne (tgt := 130) hx hb d_Ms_of_74 (by decide) (by omega) (fun c13 => ?_) (fun c13 => ?_)
            · exact absurd rfl c13
            · have hz0 : 0 < y Ls := by omega
              refine lv_aload_n hx hb d_Ms_of_77 rfl (lv_at hl 1 rfl) ?_
              refine hw_cV (As := []) (rest := []) S hI m_Ms_gather w_444 (c_Ms_gather l D t0 L _ _ o r 46 am ad 38 G Ls Rs ea eb ec ed y hY hM hN hG hLs hle h3) hM rfl hl.1 rfl rfl (Nat.le_of_ble_eq_true rfl) d_Ms_of_78 ⟨Nat.le_of_ble_eq_true rfl, Nat.le_of_ble_eq_true rfl⟩ ⟨Nat.le_of_ble_eq_true rfl, Nat.le_of_ble_eq_true rfl⟩ (fun v9 L9 f14 H locs hp hI => ?_)
              refine W.cs (cells' := 0) (slots' := 0) rfl rfl ?_
              obtain ⟨hv9, rfl, ⟨fa, fb, fc, fd, hM, hLb, hLm⟩, hf9⟩ := hp
              cases hv9
              refine hw_stk (st' := []) rfl ?_
              have hN := hN.frame (fun z hz => ⟨hf9 _ (fun e9 => hMo z hz e9.symm), hf9 _ (fun e9 => hMr z hz e9.symm)⟩)
              have hA := hA.fr (hf9 _ hMD.symm)
              have hU : arrN D L f14 al 42 u := hU.fr (hf9 _ hMl.symm)
              have hWb : arrN D L f14 ab 42 w := hWb.fr (hf9 _ hMb.symm)
              have hF := fun q q1 q2 q3 q4 => (hf9 q q1).trans (hF q q1 q2 q3 q4)
              have hbb : -(nB : Int) ≤ fb ∧ fb ≤ nB := ⟨hLb.2.2.1, hLb.2.2.2.1⟩
              refine lv_aload_n hx hb d_Ms_of_81 rfl (lv_at hl 1 rfl) ?_
              refine ob_get S hI hM (C := R_Ms) (T := F_Ms) (N := 9) (ref := "WallFractions$Measure") rfl i_Ms 6 (by decide) rfl w_106 rfl d_Ms_of_82 ?_
              refine lv_lconst (v := lN 0) hx hb d_Ms_of_85 rfl ?_
              refine hw_l_ne (tgt := 120) hx hb d_Ms_of_86 d_Ms_of_87 (by decide) (fun c15 => ?_) (fun c15 => ?_)
              · have hfb : fb ≠ 0 := fun h => c15 (by rw [h]; rfl)
                rcases hLm with h9 | ⟨P, Q, hP, hQ, hQP, hg2, hPQ, hPX⟩
                · exact absurd h9 hfb
                refine lv_aload_n hx hb d_Ms_of_120 rfl (lv_at hl 1 rfl) ?_
                refine hw_cV (As := []) (rest := []) S hI m_Ms_catchUp w_507 (c_Ms_catchUp l D t0 L _ _ o r 46 am ad 38 G Ls Rs fa fb fc fd y P Q hY hM hN hG hLs t7 hle hLb hP hQ hQP hPX) hM rfl hl.1 rfl rfl (Nat.le_of_ble_eq_true rfl) d_Ms_of_121 ⟨Nat.le_of_ble_eq_true rfl, Nat.le_of_ble_eq_true rfl⟩ ⟨Nat.le_of_ble_eq_true rfl, Nat.le_of_ble_eq_true rfl⟩ (fun v9 L9 f16 H locs hp hI => ?_)
                refine W.cs (cells' := 0) (slots' := 0) rfl rfl ?_
                obtain ⟨hv9, rfl, hN, hf8⟩ := hp
                cases hv9
                refine hw_stk (st' := []) rfl ?_
                have ap := fun (q : Nat) (h1 : ∀ z, z < 46 → q ≠ o z) (h2 : ∀ z, z < 46 → q ≠ r z) => hf8 q (h1 G hG) (h2 G hG) (h1 Ls hLs) (h2 Ls hLs)
                have hM := hM.fr (ap _ hMo hMr)
                have hA := hA.fr (ap _ hDo hDr)
                have hU : arrN D L f16 al 42 u := hU.fr (ap _ halo hal)
                have hWb : arrN D L f16 ab 42 w := hWb.fr (ap _ hblo hbl)
                refine lv_iinc (v := nI (t + 1)) (lv' := [(4, .int (nI (t + 1))), (0, .ref (am))]) hx hb d_Ms_of_124 hl (k := 0) rfl (nI_1 _) (by decide) rfl (fun ls hl => ?_)
                refine lv_goto (tgt := 49) hx hb d_Ms_of_127 (by decide) ?_
                have y1 : va_up (va_up y G P) Ls Q G = P := by rw [hw_up_ne t7, hw_up_eq]
                have y2 : va_up (va_up y G P) Ls Q Ls = Q := hw_up_eq
                exact ih (t + 1) G Ls Rs fa fb fc fd (va_up (va_up y G P) Ls Q) u w _ _ _ _ (by omega) (by rw [y1, y2]; exact pw_half hPQ hC) (by rw [y1, y2]; omega) hTr hN (by rw [y1]; omega) (by rw [y1, y2, hg2, hg]) (fun i hi => by rw [hw_up_ne (by omega), hw_up_ne (by omega)]; exact hsame i hi) hM hA hU hWb (fun q q1 q2 q3 q4 => (hf8 q (q4 G (by omega) (by omega)).1 (q4 G (by omega) (by omega)).2 (q4 Ls (by omega) (by omega)).1 (q4 Ls (by omega) (by omega)).2).trans (hF q q1 q2 q3 q4)) hI hl
              · refine lv_aload_n hx hb d_Ms_of_90 rfl (lv_at hl 1 rfl) ?_
                refine ob_get S hI hM (C := R_Ms) (T := F_Ms) (N := 9) (ref := "WallFractions$Measure") rfl i_Ms 0 (by decide) rfl w_100 rfl d_Ms_of_91 ?_
                refine lv_aload_n hx hb d_Ms_of_94 rfl (lv_at hl 1 rfl) ?_
                refine ob_get S hI hM (C := R_Ms) (T := F_Ms) (N := 9) (ref := "WallFractions$Measure") rfl i_Ms 2 (by decide) rfl w_102 rfl d_Ms_of_95 ?_
                refine lv_aload_n hx hb d_Ms_of_98 rfl (lv_at hl 1 rfl) ?_
                refine ob_get S hI hM (C := R_Ms) (T := F_Ms) (N := 9) (ref := "WallFractions$Measure") rfl i_Ms 3 (by decide) rfl w_103 rfl d_Ms_of_99 ?_
                refine lv_aload_n hx hb d_Ms_of_102 rfl (lv_at hl 1 rfl) ?_
                refine ob_get S hI hM (C := R_Ms) (T := F_Ms) (N := 9) (ref := "WallFractions$Measure") rfl i_Ms 1 (by decide) rfl w_101 rfl d_Ms_of_103 ?_
                refine lv_aload_n hx hb d_Ms_of_106 rfl (lv_at hl 1 rfl) ?_
                refine ob_get S hI hM (C := R_Ms) (T := F_Ms) (N := 9) (ref := "WallFractions$Measure") rfl i_Ms 4 (by decide) rfl w_104 rfl d_Ms_of_107 ?_
                refine hw_cV (As := [.ref (o G), .ref (o Ls), .ref (o 38), .ref (o Rs)]) (rest := []) S hI m_Dv_split w_462 (c_Dv_split l D t0 L _ _ o r 46 y ad al ab u w G Ls 38 Rs hY hN hA hU hWb hab hal hbl hG hLs (by omega) hRs (by omega) hz0) hA rfl hl.1 rfl rfl (Nat.le_of_ble_eq_true rfl) d_Ms_of_110 ⟨Nat.le_of_ble_eq_true rfl, Nat.le_of_ble_eq_true rfl⟩ ⟨Nat.le_of_ble_eq_true rfl, Nat.le_of_ble_eq_true rfl⟩ (fun v9 L9 f17 H locs hp hI => ?_)
                refine W.cs (cells' := 0) (slots' := 0) rfl rfl ?_
                obtain ⟨hv9, rfl, hN, ⟨u2, w2, hU, hWb⟩, hf8⟩ := hp
                cases hv9
                refine hw_stk (st' := []) rfl ?_
                have hM := hM.fr (hf8 _ (hMo _ (by omega)) (hMr _ (by omega)) (hMo _ hRs) (hMr _ hRs) hMl hMb)
                have hA := hA.fr (hf8 _ (hDo _ (by omega)) (hDr _ (by omega)) (hDo _ hRs) (hDr _ hRs) hDl hDb)
                refine lv_aload_n hx hb d_Ms_of_113 rfl (lv_at hl 1 rfl) ?_
                refine hw_cV (As := []) (rest := []) S hI m_Ms_shift w_503 (c_Ms_shift l D t0 L _ _ o r 46 am ad 38 G Ls Rs fa fb fc fd hY hM) hM rfl hl.1 rfl rfl (Nat.le_of_ble_eq_true rfl) d_Ms_of_114 ⟨Nat.le_of_ble_eq_true rfl, Nat.le_of_ble_eq_true rfl⟩ ⟨Nat.le_of_ble_eq_true rfl, Nat.le_of_ble_eq_true rfl⟩ (fun v9 L9 f18 H locs hp hI => ?_)
                refine W.cs (cells' := 0) (slots' := 0) rfl rfl ?_
                obtain ⟨hv9, rfl, hM, hf7⟩ := hp
                cases hv9
                refine hw_stk (st' := []) rfl ?_
                have hN := hN.frame (fun z hz => ⟨hf7 _ (fun e9 => hMo z hz e9.symm), hf7 _ (fun e9 => hMr z hz e9.symm)⟩)
                have hA := hA.fr (hf7 _ hMD.symm)
                have hU : arrN D L f18 al 42 u2 := hU.fr (hf7 _ hMl.symm)
                have hWb : arrN D L f18 ab 42 w2 := hWb.fr (hf7 _ hMb.symm)
                have y1 : (va_up (va_up y 38 (y G / y Ls)) Rs (y G % y Ls)) Ls = y Ls := by rw [hw_up_ne t9, hw_up_ne (by omega)]
                have y2 : (va_up (va_up y 38 (y G / y Ls)) Rs (y G % y Ls)) Rs = y G % y Ls := hw_up_eq
                have hml9 := Nat.mod_lt (y G) hz0
                refine lv_goto (tgt := 124) hx hb d_Ms_of_117 (by decide) ?_
                refine lv_iinc (v := nI (t + 1)) (lv' := [(4, .int (nI (t + 1))), (0, .ref (am))]) hx hb d_Ms_of_124 hl (k := 0) rfl (nI_1 _) (by decide) rfl (fun ls hl => ?_)
                refine lv_goto (tgt := 49) hx hb d_Ms_of_127 (by decide) ?_
                exact ih (t + 1) Ls Rs G fa fb fc fd (va_up (va_up y 38 (y G / y Ls)) Rs (y G % y Ls)) u2 w2 _ _ _ _ (by omega) (by rw [y1, y2]; exact pw_half (mod_half hz0 hle) hC) (by rw [y1, y2]; omega) ⟨t3, t4, t5, t6, t1, t2, t9, t7.symm, t8.symm⟩ hN (by rw [y1]; exact hz0) (by rw [y1, y2, ← hg, Nat.gcd_comm (y G), Nat.gcd_rec (y Ls) (y G), Nat.gcd_comm]) (fun i hi => by rw [hw_up_ne (by omega), hw_up_ne (by omega)]; exact hsame i hi) hM hA hU hWb (fun q q1 q2 q3 q4 => (hf7 q q1).trans ((hf8 q (q4 38 (by omega) (by omega)).1 (q4 38 (by omega) (by omega)).2 (q4 Rs (by omega) (by omega)).1 (q4 Rs (by omega) (by omega)).2 q2 q3).trans (hF q q1 q2 q3 q4))) hI hl
  obtain ⟨t1, t2, t3, t4, t5, t6, t7, t8, t9⟩ := id hTr
  have hG : G < 46 := by omega
  have hLs : Ls < 46 := by omega
  have hV := hV0
  refine lv_aload_n hx hb d_Ms_of_0 rfl (lv_at hl 1 rfl) ?_
  refine lv_aload_n hx hb d_Ms_of_1 rfl (lv_at hl 2 rfl) ?_
  refine hw_cV (As := [.ref (o k)]) (rest := []) S hI m_Wh_order w_438 (c_Wh_order l D t0 L _ _ o r 46 x j k hj hY hN hk) (hV _ hj).1 rfl hl.1 rfl rfl (Nat.le_of_ble_eq_true rfl) d_Ms_of_2 ⟨Nat.le_of_ble_eq_true rfl, Nat.le_of_ble_eq_true rfl⟩ ⟨Nat.le_of_ble_eq_true rfl, Nat.le_of_ble_eq_true rfl⟩ (fun v9 L9 f19 H locs hp hI => ?_)
  refine W.cs (cells' := 0) (slots' := 0) rfl rfl ?_
  obtain ⟨hv9, rfl, rfl⟩ := hp
  cases hv9
  refine hw_stk (st' := [.int (cmpN (x j) (x k))]) rfl ?_
  refine lv_if_lt (tgt := 12) hx hb d_Ms_of_5 (by decide) (fun c20 => ?_) (fun c20 => ?_)
  · have hjk : x j ≤ x k := by rcases Nat.lt_or_ge (x j) (x k) with q | q; omega; rcases Nat.eq_or_lt_of_le q with q1 | q1; (rw [cmpN_eq q1.symm] at c20; exact absurd c20 (by decide)); (rw [cmpN_gt q1] at c20; exact absurd c20 (by decide))
    refine lv_iconst (v := nI 0) hx hb d_Ms_of_12 (by decide) ?_
    refine lv_istore_n (lv' := [(3, .int (nI 0)), (0, .ref (am)), (1, .ref (o j)), (2, .ref (o k))]) hx hb d_Ms_of_13 rfl hl (by decide) rfl (fun ls hl => ?_)
    refine lv_aload_n hx hb d_Ms_of_14 rfl (lv_at hl 1 rfl) ?_
    refine ob_get S hI hM (C := R_Ms) (T := F_Ms) (N := 9) (ref := "WallFractions$Measure") rfl i_Ms 2 (by decide) rfl w_102 rfl d_Ms_of_15 ?_
    refine lv_iload_n hx hb d_Ms_of_18 rfl (lv_at hl 0 rfl) ?_
    refine hw_if_eq (tgt := 26) hx hb d_Ms_of_19 (by decide) (by omega) (fun c21 => ?_) (fun c21 => ?_)
    · refine lv_aload_n hx hb d_Ms_of_26 rfl (lv_at hl 3 rfl) ?_
      refine hw_cV (As := [.ref (o k)]) (rest := []) S hI m_Wh_copyFrom w_439 (c_Wh_copyFrom l D t0 L _ _ o r 46 x G k hG hY hN hk) (hV _ hG).1 rfl hl.1 rfl rfl (Nat.le_of_ble_eq_true rfl) d_Ms_of_27 ⟨Nat.le_of_ble_eq_true rfl, Nat.le_of_ble_eq_true rfl⟩ ⟨Nat.le_of_ble_eq_true rfl, Nat.le_of_ble_eq_true rfl⟩ (fun v9 L9 f22 H locs hp hI => ?_)
      refine W.cs (cells' := 0) (slots' := 0) rfl rfl ?_
      obtain ⟨hv9, rfl, hN, hf9⟩ := hp
      cases hv9
      refine hw_stk (st' := []) rfl ?_
      obtain ⟨v1, hV, hO1⟩ := id hN
      have hM := hM.fr (hf9 _ (hMo G hG) (hMr G hG))
      have hA := hA.fr (hf9 _ (hDo G hG) (hDr G hG))
      have hU : arrN D L f22 al 42 u := hU.fr (hf9 _ (halo G hG) (hal G hG))
      have hWb : arrN D L f22 ab 42 w := hWb.fr (hf9 _ (hblo G hG) (hbl G hG))
      refine lv_aload_n hx hb d_Ms_of_30 rfl (lv_at hl 1 rfl) ?_
      refine ob_get S hI hM (C := R_Ms) (T := F_Ms) (N := 9) (ref := "WallFractions$Measure") rfl i_Ms 3 (by decide) rfl w_103 rfl d_Ms_of_31 ?_
      refine lv_iload_n hx hb d_Ms_of_34 rfl (lv_at hl 0 rfl) ?_
      refine hw_if_eq (tgt := 42) hx hb d_Ms_of_35 (by decide) (by omega) (fun c23 => ?_) (fun c23 => ?_)
      · refine lv_aload_n hx hb d_Ms_of_42 rfl (lv_at hl 2 rfl) ?_
        refine hw_cV (As := [.ref (o j)]) (rest := []) S hI m_Wh_copyFrom w_439 (c_Wh_copyFrom l D t0 L _ _ o r 46 _ Ls j hLs hY hN hj) (hV _ hLs).1 rfl hl.1 rfl rfl (Nat.le_of_ble_eq_true rfl) d_Ms_of_43 ⟨Nat.le_of_ble_eq_true rfl, Nat.le_of_ble_eq_true rfl⟩ ⟨Nat.le_of_ble_eq_true rfl, Nat.le_of_ble_eq_true rfl⟩ (fun v9 L9 f24 H locs hp hI => ?_)
        refine W.cs (cells' := 0) (slots' := 0) rfl rfl ?_
        obtain ⟨hv9, rfl, hN, hf8⟩ := hp
        cases hv9
        refine hw_stk (st' := []) rfl ?_
        have hM := hM.fr (hf8 _ (hMo Ls hLs) (hMr Ls hLs))
        have hA := hA.fr (hf8 _ (hDo Ls hLs) (hDr Ls hLs))
        have hU : arrN D L f24 al 42 u := hU.fr (hf8 _ (halo Ls hLs) (hal Ls hLs))
        have hWb : arrN D L f24 ab 42 w := hWb.fr (hf8 _ (hblo Ls hLs) (hbl Ls hLs))
        rw [show va_up x G (x k) j = x j from hw_up_ne (by omega)] at hN
        have y1 : va_up (va_up x G (x k)) Ls (x j) G = x k := by rw [hw_up_ne t7, hw_up_eq]
        have y2 : va_up (va_up x G (x k)) Ls (x j) Ls = x j := hw_up_eq
        refine lv_iconst (v := nI 0) hx hb d_Ms_of_46 (by decide) ?_
        refine lv_istore (lv' := [(4, .int (nI 0)), (3, .int (nI 0)), (0, .ref (am)), (1, .ref (o j)), (2, .ref (o k))]) hx hb d_Ms_of_47 hl (by decide) rfl (fun ls hl => ?_)
        exact loop 100000 0 G Ls Rs ea eb ec ed (va_up (va_up x G (x k)) Ls (x j)) u w _ _ _ _ (by omega) (by rw [y1, y2, Nat.pow_zero, Nat.one_mul, Nat.mul_comm (x k) (x j)]; exact Nat.le_refl _) (by rw [y1, y2]; exact hjk) hTr hN (by rw [y1]; omega) (by rw [y1, y2, Nat.gcd_comm (x k) (x j), hGd]) (fun i hi => by rw [hw_up_ne (by omega), hw_up_ne (by omega)]) hM hA hU hWb (fun q q1 q2 q3 q4 => (hf8 q (q4 Ls (by omega) (by omega)).1 (q4 Ls (by omega) (by omega)).2).trans (hf9 q (q4 G (by omega) (by omega)).1 (q4 G (by omega) (by omega)).2)) hI (lv_sub hl [0, 2] rfl)
      · exact absurd rfl c23
    · exact absurd rfl c21
  · have hjk : x k ≤ x j := by rcases Nat.lt_or_ge (x j) (x k) with q | q; (rw [cmpN_lt q] at c20; exact absurd (show ((-1 : Int32) < 0) by decide) c20); omega
    refine lv_iconst (v := nI 1) hx hb d_Ms_of_8 (by decide) ?_
    refine lv_goto (tgt := 13) hx hb d_Ms_of_9 (by decide) ?_
    refine lv_istore_n (lv' := [(3, .int (nI 1)), (0, .ref (am)), (1, .ref (o j)), (2, .ref (o k))]) hx hb d_Ms_of_13 rfl hl (by decide) rfl (fun ls hl => ?_)
    refine lv_aload_n hx hb d_Ms_of_14 rfl (lv_at hl 1 rfl) ?_
    refine ob_get S hI hM (C := R_Ms) (T := F_Ms) (N := 9) (ref := "WallFractions$Measure") rfl i_Ms 2 (by decide) rfl w_102 rfl d_Ms_of_15 ?_
    refine lv_iload_n hx hb d_Ms_of_18 rfl (lv_at hl 0 rfl) ?_
    refine hw_if_eq (tgt := 26) hx hb d_Ms_of_19 (by decide) (by omega) (fun c25 => ?_) (fun c25 => ?_)
    · exact absurd c25 (by decide)
    · refine lv_aload_n hx hb d_Ms_of_22 rfl (lv_at hl 2 rfl) ?_
      refine lv_goto (tgt := 27) hx hb d_Ms_of_23 (by decide) ?_
      refine hw_cV (As := [.ref (o j)]) (rest := []) S hI m_Wh_copyFrom w_439 (c_Wh_copyFrom l D t0 L _ _ o r 46 x G j hG hY hN hj) (hV _ hG).1 rfl hl.1 rfl rfl (Nat.le_of_ble_eq_true rfl) d_Ms_of_27 ⟨Nat.le_of_ble_eq_true rfl, Nat.le_of_ble_eq_true rfl⟩ ⟨Nat.le_of_ble_eq_true rfl, Nat.le_of_ble_eq_true rfl⟩ (fun v9 L9 f26 H locs hp hI => ?_)
      refine W.cs (cells' := 0) (slots' := 0) rfl rfl ?_
      obtain ⟨hv9, rfl, hN, hf9⟩ := hp
      cases hv9
      refine hw_stk (st' := []) rfl ?_
      obtain ⟨v1, hV, hO1⟩ := id hN
      have hM := hM.fr (hf9 _ (hMo G hG) (hMr G hG))
      have hA := hA.fr (hf9 _ (hDo G hG) (hDr G hG))
      have hU : arrN D L f26 al 42 u := hU.fr (hf9 _ (halo G hG) (hal G hG))
      have hWb : arrN D L f26 ab 42 w := hWb.fr (hf9 _ (hblo G hG) (hbl G hG))
      refine lv_aload_n hx hb d_Ms_of_30 rfl (lv_at hl 1 rfl) ?_
      refine ob_get S hI hM (C := R_Ms) (T := F_Ms) (N := 9) (ref := "WallFractions$Measure") rfl i_Ms 3 (by decide) rfl w_103 rfl d_Ms_of_31 ?_
      refine lv_iload_n hx hb d_Ms_of_34 rfl (lv_at hl 0 rfl) ?_
      refine hw_if_eq (tgt := 42) hx hb d_Ms_of_35 (by decide) (by omega) (fun c27 => ?_) (fun c27 => ?_)
      · exact absurd c27 (by decide)
      · refine lv_aload_n hx hb d_Ms_of_38 rfl (lv_at hl 3 rfl) ?_
        refine lv_goto (tgt := 43) hx hb d_Ms_of_39 (by decide) ?_
        refine hw_cV (As := [.ref (o k)]) (rest := []) S hI m_Wh_copyFrom w_439 (c_Wh_copyFrom l D t0 L _ _ o r 46 _ Ls k hLs hY hN hk) (hV _ hLs).1 rfl hl.1 rfl rfl (Nat.le_of_ble_eq_true rfl) d_Ms_of_43 ⟨Nat.le_of_ble_eq_true rfl, Nat.le_of_ble_eq_true rfl⟩ ⟨Nat.le_of_ble_eq_true rfl, Nat.le_of_ble_eq_true rfl⟩ (fun v9 L9 f28 H locs hp hI => ?_)
        refine W.cs (cells' := 0) (slots' := 0) rfl rfl ?_
        obtain ⟨hv9, rfl, hN, hf8⟩ := hp
        cases hv9
        refine hw_stk (st' := []) rfl ?_
        have hM := hM.fr (hf8 _ (hMo Ls hLs) (hMr Ls hLs))
        have hA := hA.fr (hf8 _ (hDo Ls hLs) (hDr Ls hLs))
        have hU : arrN D L f28 al 42 u := hU.fr (hf8 _ (halo Ls hLs) (hal Ls hLs))
        have hWb : arrN D L f28 ab 42 w := hWb.fr (hf8 _ (hblo Ls hLs) (hbl Ls hLs))
        rw [show va_up x G (x j) k = x k from hw_up_ne (by omega)] at hN
        have y1 : va_up (va_up x G (x j)) Ls (x k) G = x j := by rw [hw_up_ne t7, hw_up_eq]
        have y2 : va_up (va_up x G (x j)) Ls (x k) Ls = x k := hw_up_eq
        refine lv_iconst (v := nI 0) hx hb d_Ms_of_46 (by decide) ?_
        refine lv_istore (lv' := [(4, .int (nI 0)), (3, .int (nI 1)), (0, .ref (am)), (1, .ref (o j)), (2, .ref (o k))]) hx hb d_Ms_of_47 hl (by decide) rfl (fun ls hl => ?_)
        exact loop 100000 0 G Ls Rs ea eb ec ed (va_up (va_up x G (x j)) Ls (x k)) u w _ _ _ _ (by omega) (by rw [y1, y2, Nat.pow_zero, Nat.one_mul]; exact Nat.le_refl _) (by rw [y1, y2]; exact hjk) hTr hN (by rw [y1]; omega) (by rw [y1, y2, hGd]) (fun i hi => by rw [hw_up_ne (by omega), hw_up_ne (by omega)]) hM hA hU hWb (fun q q1 q2 q3 q4 => (hf8 q (q4 Ls (by omega) (by omega)).1 (q4 Ls (by omega) (by omega)).2).trans (hf9 q (q4 G (by omega) (by omega)).1 (q4 G (by omega) (by omega)).2)) hI (lv_sub hl [0, 2] rfl)

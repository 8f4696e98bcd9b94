theorem up2_G {α : Type} {v : Nat → α} {G K : Nat} {a b c : α} (h : G ≠ K) : va_up (va_up (va_up v G a) K b) G c = va_up (va_up v G c) K b := by
  funext z
  simp only [va_up]
  by_cases e1 : z = G
  · rw [if_pos e1, e1, if_neg h, if_pos rfl]
  · rw [if_neg e1, if_neg e1, if_neg e1]
theorem up_id {α β : Type} {v : Nat → α × β} {G : Nat} : va_up v G ((v G).1, (v G).2) = v := by
  funext z
  simp only [va_up]
  by_cases e1 : z = G
  · rw [if_pos e1, e1]
  · rw [if_neg e1]
theorem up_id2 {α β : Type} {v : Nat → α × β} {G K : Nat} : va_up (va_up v G ((v G).1, (v G).2)) K ((v K).1, (v K).2) = v := by
  rw [up_id, up_id]
set_option maxHeartbeats 4000000 in
set_option maxRecDepth 100000 in
theorem c_Ms_catchUp (l : Launch) (D : va_G) (t0 : Nat) (L : List Nat) (f : Nat → va_E) (sz : Nat) (o r : Nat → Nat) (N : Nat) (am ad mq G Ls Rs : Nat) (ea eb ec ed : Int) (x : Nat → Nat) (P Q : Nat) (hY : Lay o r N) (hM : hw_c L f am (.inr (2, [.ref ad, .ref (o mq), .ref (o G), .ref (o Ls), .ref (o Rs), .long (zL ea), .long (zL eb), .long (zL ec), .long (zL ed)]))) (hN : AllN D L f o r N x) (hG : G < N) (hLs : Ls < N) (hGL : G ≠ Ls) (hle : x Ls ≤ x G) (hB : le_b ea eb ec ed) (hP : (P : Int) = ea * x G + eb * x Ls) (hQ : (Q : Int) = ec * x G + ed * x Ls) (hQP : Q < P) (hPX : P ≤ x G) : Met l y_Ms_catchUp (Cond.code y_Ms_catchUp b_Ms_catchUp 15 none :: TT) ({ frames := 6, cells := 0, slots := 0, locals := 110 } : Room) (hw_Pc t0 [.ref (am)] D L f sz) (hw_Q D L sz (fun oc L' f' => oc = .returned none ∧ L = L' ∧ AllN D L f' o r N (va_up (va_up x G P) Ls Q) ∧ ∀ q, q ≠ o G → q ≠ r G → q ≠ o Ls → q ≠ r Ls → f' q = f q)) 0 0 (hw_A L sz) := by
  refine Met.ofW (cc := b_Ms_catchUp) (maxL := 15) (ret := none) (by decide) rfl ?_
  intro p e s m args below meth c s₁ B hml hv
  obtain ⟨rfl, rfl, hI⟩ := hw_start hv
  clear hv
  have hx := B.exec
  have hb := B.bytes
  have hr := B.returns
  have hlocks := B.notSynchronized
  have hown : s.vm.findClass "WallFractions$Measure" = some m.cls := findClass_of_methodNamed B.named
  have hT : ∀ w ∈ TT, w.before ([.ref (am)]).toArray s = true := fun w h => atoms_spec (ws := (Cond.code y_Ms_catchUp b_Ms_catchUp 15 none :: TT)) B.pre w (List.mem_cons_of_mem _ h)
  have S : CallFix p m c b_Ms_catchUp 15 s ([.ref (am)]).toArray TT "WallFractions$Measure" := ⟨hx, hb, hml, hown, hT⟩
  have hl := lv_entry ([.ref (am)]) (n := 15) (Nat.le_of_ble_eq_true rfl)
  rw [lg_entry_eq]
  generalize (lg_sl ([.ref (am)]) ++ List.replicate (15 - (lg_sl ([.ref (am)])).length) Slot.unset).toArray = ls at hl ⊢
  have hl : lv_has ls 15 [(0, .ref (am))] := hl
  skip
  obtain ⟨v, hV, hO⟩ := hN
  have hnB : nB = 1000000000 := rfl
  have h41 := (hO G hG).1
  have h41L := (hO Ls hLs).1
  have hxG := (hO G hG).2.lt
  obtain ⟨b1, b2, b3, b4, b5, b6, b7, b8⟩ := hB
  rw [hnB] at b1 b2 b3 b4 b5 b6 b7 b8
  have hLG : (v Ls).1 ≤ (v G).1 := ((hO Ls hLs).2.size_le nB1).mpr (by omega)
  obtain ⟨s9, hs9⟩ : ∃ s9, s9 = (v G).1 := ⟨_, rfl⟩
  rw [← hs9] at h41 hxG hLG
  have hMr : ∀ z, z < N → am ≠ r z := fun z hz e9 => hw_ne (hV z hz).2 hM e9.symm
  have hMo : ∀ z, z < N → am ≠ o z := fun z hz => hM.ne (hV z hz).1 (fun e9 => by cases e9)
  have loop : ∀ (g t : Nat) (cg cl : Int) (h1 h2 : Nat → Nat) (f1 : Nat → va_E) (H : Heap) (locs : List Loc) (ls : Array Slot), t + g = s9 → -2000000000 ≤ cg ∧ cg ≤ 2000000000 → -2000000000 ≤ cl ∧ cl ≤ 2000000000 → (∀ q, h1 q < nB) → (∀ q, h2 q < nB) → (∀ q, t ≤ q → h1 q = (v G).2 q) → (∀ q, t ≤ q → h2 q = (v Ls).2 q) → (nvb nB h1 t : Int) + cg * (nB : Int) ^ t = ea * (nvb nB (v G).2 t : Int) + eb * (nvb nB (padl (v Ls)) t : Int) → (nvb nB h2 t : Int) + cl * (nB : Int) ^ t = ec * (nvb nB (v G).2 t : Int) + ed * (nvb nB (padl (v Ls)) t : Int) → AllW D L f1 o r N (va_up (va_up v G ((v G).1, h1)) Ls ((v Ls).1, h2)) → hw_c L f1 am (.inr (2, [.ref ad, .ref (o mq), .ref (o G), .ref (o Ls), .ref (o Rs), .long (zL ea), .long (zL eb), .long (zL ec), .long (zL ed)])) → (∀ q, q ≠ r G → q ≠ r Ls → f1 q = f q) → hw_I D t0 (hw_A L s.heap.size) s L f1 H locs → lv_has ls 15 [(6, .int (nI t)), (4, .long (zL cl)), (2, .long (zL cg)), (1, .int (nI s9)), (0, .ref (am))] → W p l e (headSpec (Cond.code y_Ms_catchUp b_Ms_catchUp 15 none :: TT) ({ frames := 6, cells := 0, slots := 0, locals := 110 } : Room)).room s m ([.ref (am)]).toArray below meth c H locs 0 0 (MQ below (hw_Q D L s.heap.size (fun oc L' f' => oc = .returned none ∧ L = L' ∧ AllN D L f' o r N (va_up (va_up x G P) Ls Q) ∧ ∀ q, q ≠ o G → q ≠ r G → q ≠ o Ls → q ≠ r Ls → f' q = f q)) ([.ref (am)]).toArray s 0 0 (hw_A L s.heap.size)) (F0 m 16 ls []) := by
    intro g
    induction g with
    | zero =>
      intro t cg cl h1 h2 f1 H locs ls htg hcg hcl hB1 hB2 hh1 hh2 hS1 hS2 hV hM hF hI hl
      refine lv_iload hx hb d_Ms_catchUp_16 (lv_at hl 0 rfl) ?_
      refine lv_iload_n hx hb d_Ms_catchUp_18 rfl (lv_at hl 3 rfl) ?_
      refine hw_icmp_ge (tgt := 146) hx hb d_Ms_catchUp_19 (by decide) (by omega) (by omega) (fun c1 => ?_) (fun c1 => ?_)
      · have hts : t = s9 := by omega
        subst hts
        have eL := nvb_padl (b := nB) hLG
        have eG := (hO G hG).2.2.2
        rw [(hO Ls hLs).2.2.2] at eL
        rw [← hs9] at eG
        rw [eG, eL, ← hP] at hS1
        rw [eG, eL, ← hQ] at hS2
        have n1 : nvb nB h1 t = P := cu_end (n := 0) hB1 hS1 (by omega)
        have n2 : nvb nB h2 t = Q := cu_end (n := 0) hB2 hS2 (by omega)
        refine lv_aload_n hx hb d_Ms_catchUp_146 rfl (lv_at hl 4 rfl) ?_
        refine ob_get S hI hM (C := R_Ms) (T := F_Ms) (N := 9) (ref := "WallFractions$Measure") rfl i_Ms 2 (by decide) rfl w_102 rfl d_Ms_catchUp_147 ?_
        refine lv_iload_n hx hb d_Ms_catchUp_150 rfl (lv_at hl 3 rfl) ?_
        refine hw_cVN (As := [.int (nI t)]) (rest := []) S hI m_Wh_settle (by decide +kernel) (c_Wh_settle l D t0 L _ _ o r N (va_up (va_up v G ((v G).1, h1)) Ls ((v Ls).1, h2)) G t hG hY hV (by omega) (by rw [hw_up_ne hGL, hw_up_eq]; exact hB1)) (hV _ hG).1 rfl hl.1 rfl rfl (Nat.le_of_ble_eq_true rfl) d_Ms_catchUp_151 ⟨Nat.le_of_ble_eq_true rfl, Nat.le_of_ble_eq_true rfl⟩ ⟨Nat.le_of_ble_eq_true rfl, Nat.le_of_ble_eq_true rfl⟩ (fun v9 L9 f2 H locs hp hI => ?_)
        refine W.cs (cells' := 0) (slots' := 0) rfl rfl ?_
        obtain ⟨hv9, rfl, n9, hn9, hk9, hV, hf9⟩ := hp
        cases hv9
        refine hw_stk (st' := []) rfl ?_
        rw [hw_up_ne hGL, hw_up_eq] at hk9 hV
        rw [up2_G hGL] at hV
        have hM := hM.fr (hf9 _ (hMo G hG))
        refine lv_aload_n hx hb d_Ms_catchUp_154 rfl (lv_at hl 4 rfl) ?_
        refine ob_get S hI hM (C := R_Ms) (T := F_Ms) (N := 9) (ref := "WallFractions$Measure") rfl i_Ms 3 (by decide) rfl w_103 rfl d_Ms_catchUp_155 ?_
        refine lv_iload_n hx hb d_Ms_catchUp_158 rfl (lv_at hl 3 rfl) ?_
        refine hw_cVN (As := [.int (nI t)]) (rest := []) S hI m_Wh_settle (by decide +kernel) (c_Wh_settle l D t0 L _ _ o r N (va_up (va_up v G (n9, h1)) Ls ((v Ls).1, h2)) Ls t hLs hY hV (by omega) (by rw [hw_up_eq]; exact hB2)) (hV _ hLs).1 rfl hl.1 rfl rfl (Nat.le_of_ble_eq_true rfl) d_Ms_catchUp_159 ⟨Nat.le_of_ble_eq_true rfl, Nat.le_of_ble_eq_true rfl⟩ ⟨Nat.le_of_ble_eq_true rfl, Nat.le_of_ble_eq_true rfl⟩ (fun v9 L9 f3 H locs hp hI => ?_)
        refine W.cs (cells' := 0) (slots' := 0) rfl rfl ?_
        obtain ⟨hv9, rfl, n8, hn8, hk8, hV, hf8⟩ := hp
        cases hv9
        refine hw_stk (st' := []) rfl ?_
        rw [hw_up_eq] at hk8 hV
        rw [bx_uu] at hV
        have hk9 : nOk nB n9 h1 (nvb nB h1 t) := hk9
        have hk8 : nOk nB n8 h2 (nvb nB h2 t) := hk8
        rw [n1] at hk9
        rw [n2] at hk8
        exact hw_vret hx hb hr hlocks hI d_Ms_catchUp_162 ⟨rfl, rfl, AllN.mk (upO hO (by omega) hk9) hV (by omega) hk8, fun q q1 q2 q3 q4 => (hf8 q q3).trans ((hf9 q q1).trans (hF q q2 q4))⟩
      · exact absurd c1 (by omega)
    | succ g ih =>
      intro t cg cl h1 h2 f1 H locs ls htg hcg hcl hB1 hB2 hh1 hh2 hS1 hS2 hV hM hF hI hl
      refine lv_iload hx hb d_Ms_catchUp_16 (lv_at hl 0 rfl) ?_
      refine lv_iload_n hx hb d_Ms_catchUp_18 rfl (lv_at hl 3 rfl) ?_
      refine hw_icmp_ge (tgt := 146) hx hb d_Ms_catchUp_19 (by decide) (by omega) (by omega) (fun c4 => ?_) (fun c4 => ?_)
      · exact absurd c4 (by omega)
      · refine lv_aload_n hx hb d_Ms_catchUp_22 rfl (lv_at hl 4 rfl) ?_
        refine ob_get S hI hM (C := R_Ms) (T := F_Ms) (N := 9) (ref := "WallFractions$Measure") rfl i_Ms 2 (by decide) rfl w_102 rfl d_Ms_catchUp_23 ?_
        refine wh_limbsN S hI hV hG (by decide) d_Ms_catchUp_26 ?_
        refine lv_iload hx hb d_Ms_catchUp_29 (lv_at hl 0 rfl) ?_
        refine wh_ld S hI hV hG (by omega) d_Ms_catchUp_31 ?_
        refine hw_tl (show _ = lN ((v G).2 t) from by rw [hw_up_ne hGL, hw_up_eq]; dsimp only; rw [hh1 t (Nat.le_refl _)]) ?_
        refine lv_lstore (lv' := [(7, .long (lN ((v G).2 t))), (6, .int (nI t)), (4, .long (zL cl)), (2, .long (zL cg)), (1, .int (nI s9)), (0, .ref (am))]) hx hb d_Ms_catchUp_32 hl (by decide) rfl (fun ls hl => ?_)
        refine lv_aload_n hx hb d_Ms_catchUp_34 rfl (lv_at hl 5 rfl) ?_
        refine ob_get S hI hM (C := R_Ms) (T := F_Ms) (N := 9) (ref := "WallFractions$Measure") rfl i_Ms 3 (by decide) rfl w_103 rfl d_Ms_catchUp_35 ?_
        refine lv_iload hx hb d_Ms_catchUp_38 (lv_at hl 1 rfl) ?_
        refine hw_cVN (As := [.int (nI t)]) (rest := []) S hI m_Wh_limbAt (by decide +kernel) (c_Wh_limbAt l D t0 L _ _ o r N (va_up (va_up v G ((v G).1, h1)) Ls ((v Ls).1, h2)) Ls t hLs hY hV (by omega) (by rw [hw_up_eq]; exact h41L)) (hV _ hLs).1 rfl hl.1 rfl rfl (Nat.le_of_ble_eq_true rfl) d_Ms_catchUp_40 ⟨Nat.le_of_ble_eq_true rfl, Nat.le_of_ble_eq_true rfl⟩ ⟨Nat.le_of_ble_eq_true rfl, Nat.le_of_ble_eq_true rfl⟩ (fun v9 L9 f5 H locs hp hI => ?_)
        refine W.cs (cells' := 0) (slots' := 0) rfl rfl ?_
        obtain ⟨hv9, rfl, rfl⟩ := hp
        cases hv9
        refine hw_stk (st' := [.long (lN (padl ((va_up (va_up v G ((v G).1, h1)) Ls ((v Ls).1, h2)) Ls) t))]) rfl ?_
        refine hw_tl (show _ = lN (padl (v Ls) t) from by rw [hw_up_eq]; unfold padl; dsimp only; rw [hh2 t (Nat.le_refl _)]) ?_
        have xB : (v G).2 t < nB := (hO G hG).2.1 t
        have yB : padl (v Ls) t < nB := padl_lt nB_pos (hO Ls hLs).2.1 t
        obtain ⟨sg, hsg⟩ : ∃ sg, sg = ea * (((v G).2 t : Nat) : Int) + eb * ((padl (v Ls) t : Nat) : Int) + cg := ⟨_, rfl⟩
        obtain ⟨sl, hsl⟩ : ∃ sl, sl = ec * (((v G).2 t : Nat) : Int) + ed * ((padl (v Ls) t : Nat) : Int) + cl := ⟨_, rfl⟩
        have rg := cu_rng ⟨b1, b2⟩ ⟨b3, b4⟩ xB yB hcg
        have rl := cu_rng ⟨b5, b6⟩ ⟨b7, b8⟩ xB yB hcl
        rw [← hsg] at rg
        rw [← hsl] at rl
        obtain ⟨d1, hd1, he1⟩ := cu_dig sg
        obtain ⟨d2, hd2, he2⟩ := cu_dig sl
        refine lv_lstore (lv' := [(9, .long (lN (padl (v Ls) t))), (7, .long (lN ((v G).2 t))), (6, .int (nI t)), (4, .long (zL cl)), (2, .long (zL cg)), (1, .int (nI s9)), (0, .ref (am))]) hx hb d_Ms_catchUp_43 hl (by decide) rfl (fun ls hl => ?_)
        refine lv_aload_n hx hb d_Ms_catchUp_45 rfl (lv_at hl 6 rfl) ?_
        refine ob_get S hI hM (C := R_Ms) (T := F_Ms) (N := 9) (ref := "WallFractions$Measure") rfl i_Ms 5 (by decide) rfl w_105 rfl d_Ms_catchUp_46 ?_
        refine lv_lload hx hb d_Ms_catchUp_49 (lv_at hl 1 rfl) ?_
        refine lv_lmul hx hb d_Ms_catchUp_51 ?_
        refine hw_tl (zL_mul ea (((v G).2 t : Nat) : Int)) ?_
        refine lv_aload_n hx hb d_Ms_catchUp_52 rfl (lv_at hl 6 rfl) ?_
        refine ob_get S hI hM (C := R_Ms) (T := F_Ms) (N := 9) (ref := "WallFractions$Measure") rfl i_Ms 6 (by decide) rfl w_106 rfl d_Ms_catchUp_53 ?_
        refine lv_lload hx hb d_Ms_catchUp_56 (lv_at hl 0 rfl) ?_
        refine lv_lmul hx hb d_Ms_catchUp_58 ?_
        refine hw_tl (zL_mul eb ((padl (v Ls) t : Nat) : Int)) ?_
        refine lv_ladd hx hb d_Ms_catchUp_59 ?_
        refine hw_tl (zL_add (ea * (((v G).2 t : Nat) : Int)) (eb * ((padl (v Ls) t : Nat) : Int))) ?_
        refine lv_lload_n hx hb d_Ms_catchUp_60 rfl (lv_at hl 4 rfl) ?_
        refine lv_ladd hx hb d_Ms_catchUp_61 ?_
        refine hw_tl (zL_add ((ea * (((v G).2 t : Nat) : Int)) + (eb * ((padl (v Ls) t : Nat) : Int))) cg) ?_
        refine hw_tl (show _ = zL sg from by rw [hsg]) ?_
        refine lv_lstore (lv' := [(11, .long (zL sg)), (9, .long (lN (padl (v Ls) t))), (7, .long (lN ((v G).2 t))), (6, .int (nI t)), (4, .long (zL cl)), (2, .long (zL cg)), (1, .int (nI s9)), (0, .ref (am))]) hx hb d_Ms_catchUp_62 hl (by decide) rfl (fun ls hl => ?_)
        refine lv_aload_n hx hb d_Ms_catchUp_64 rfl (lv_at hl 7 rfl) ?_
        refine ob_get S hI hM (C := R_Ms) (T := F_Ms) (N := 9) (ref := "WallFractions$Measure") rfl i_Ms 7 (by decide) rfl w_107 rfl d_Ms_catchUp_65 ?_
        refine lv_lload hx hb d_Ms_catchUp_68 (lv_at hl 2 rfl) ?_
        refine lv_lmul hx hb d_Ms_catchUp_70 ?_
        refine hw_tl (zL_mul ec (((v G).2 t : Nat) : Int)) ?_
        refine lv_aload_n hx hb d_Ms_catchUp_71 rfl (lv_at hl 7 rfl) ?_
        refine ob_get S hI hM (C := R_Ms) (T := F_Ms) (N := 9) (ref := "WallFractions$Measure") rfl i_Ms 8 (by decide) rfl w_108 rfl d_Ms_catchUp_72 ?_
        refine lv_lload hx hb d_Ms_catchUp_75 (lv_at hl 1 rfl) ?_
        refine lv_lmul hx hb d_Ms_catchUp_77 ?_
        refine hw_tl (zL_mul ed ((padl (v Ls) t : Nat) : Int)) ?_
        refine lv_ladd hx hb d_Ms_catchUp_78 ?_
        refine hw_tl (zL_add (ec * (((v G).2 t : Nat) : Int)) (ed * ((padl (v Ls) t : Nat) : Int))) ?_
        refine lv_lload hx hb d_Ms_catchUp_79 (lv_at hl 4 rfl) ?_
        refine lv_ladd hx hb d_Ms_catchUp_81 ?_
        refine hw_tl (zL_add ((ec * (((v G).2 t : Nat) : Int)) + (ed * ((padl (v Ls) t : Nat) : Int))) cl) ?_
        refine hw_tl (show _ = zL sl from by rw [hsl]) ?_
        refine lv_lstore (lv' := [(13, .long (zL sl)), (11, .long (zL sg)), (9, .long (lN (padl (v Ls) t))), (7, .long (lN ((v G).2 t))), (6, .int (nI t)), (4, .long (zL cl)), (2, .long (zL cg)), (1, .int (nI s9)), (0, .ref (am))]) hx hb d_Ms_catchUp_82 hl (by decide) rfl (fun ls hl => ?_)
        refine lv_lload hx hb d_Ms_catchUp_84 (lv_at hl 1 rfl) ?_
        refine hw_ldc2 (v := zL (nB : Int)) hx hb hown (hT _ w_460) d_Ms_catchUp_86 ?_
        refine hw_cS (As := [.long (zL sg), .long (zL (nB : Int))]) (rest := []) S hI m_Mt_floorDiv w_511 (c_Mt_floorDiv l D t0 L _ _ sg (nB : Int) (by omega) (by omega) (by omega) (by omega)) hl.1 rfl rfl (Nat.le_of_ble_eq_true rfl) d_Ms_catchUp_89 ⟨Nat.le_of_ble_eq_true rfl, Nat.le_of_ble_eq_true rfl⟩ ⟨Nat.le_of_ble_eq_true rfl, Nat.le_of_ble_eq_true rfl⟩ (fun v9 L9 f6 H locs hp hI => ?_)
        refine W.cs (cells' := 0) (slots' := 0) rfl rfl ?_
        obtain ⟨hv9, rfl, rfl⟩ := hp
        cases hv9
        refine hw_stk (st' := [.long (zL (sg / (nB : Int)))]) rfl ?_
        refine lv_lstore_n (lv' := [(2, .long (zL (sg / (nB : Int)))), (13, .long (zL sl)), (11, .long (zL sg)), (9, .long (lN (padl (v Ls) t))), (7, .long (lN ((v G).2 t))), (6, .int (nI t)), (4, .long (zL cl)), (1, .int (nI s9)), (0, .ref (am))]) hx hb d_Ms_catchUp_92 rfl hl (by decide) rfl (fun ls hl => ?_)
        refine lv_lload hx hb d_Ms_catchUp_93 (lv_at hl 1 rfl) ?_
        refine hw_ldc2 (v := zL (nB : Int)) hx hb hown (hT _ w_460) d_Ms_catchUp_95 ?_
        refine hw_cS (As := [.long (zL sl), .long (zL (nB : Int))]) (rest := []) S hI m_Mt_floorDiv w_511 (c_Mt_floorDiv l D t0 L _ _ sl (nB : Int) (by omega) (by omega) (by omega) (by omega)) hl.1 rfl rfl (Nat.le_of_ble_eq_true rfl) d_Ms_catchUp_98 ⟨Nat.le_of_ble_eq_true rfl, Nat.le_of_ble_eq_true rfl⟩ ⟨Nat.le_of_ble_eq_true rfl, Nat.le_of_ble_eq_true rfl⟩ (fun v9 L9 f7 H locs hp hI => ?_)
        refine W.cs (cells' := 0) (slots' := 0) rfl rfl ?_
        obtain ⟨hv9, rfl, rfl⟩ := hp
        cases hv9
        refine hw_stk (st' := [.long (zL (sl / (nB : Int)))]) rfl ?_
        refine lv_lstore (lv' := [(4, .long (zL (sl / (nB : Int)))), (2, .long (zL (sg / (nB : Int)))), (13, .long (zL sl)), (11, .long (zL sg)), (9, .long (lN (padl (v Ls) t))), (7, .long (lN ((v G).2 t))), (6, .int (nI t)), (1, .int (nI s9)), (0, .ref (am))]) hx hb d_Ms_catchUp_101 hl (by decide) rfl (fun ls hl => ?_)
        refine lv_aload_n hx hb d_Ms_catchUp_103 rfl (lv_at hl 8 rfl) ?_
        refine ob_get S hI hM (C := R_Ms) (T := F_Ms) (N := 9) (ref := "WallFractions$Measure") rfl i_Ms 2 (by decide) rfl w_102 rfl d_Ms_catchUp_104 ?_
        refine wh_limbsN S hI hV hG (by decide) d_Ms_catchUp_107 ?_
        refine lv_iload hx hb d_Ms_catchUp_110 (lv_at hl 6 rfl) ?_
        refine lv_lload hx hb d_Ms_catchUp_112 (lv_at hl 3 rfl) ?_
        refine lv_lload_n hx hb d_Ms_catchUp_114 rfl (lv_at hl 1 rfl) ?_
        refine hw_ldc2 (v := zL (nB : Int)) hx hb hown (hT _ w_460) d_Ms_catchUp_115 ?_
        refine lv_lmul hx hb d_Ms_catchUp_118 ?_
        refine hw_tl (zL_mul (sg / (nB : Int)) (nB : Int)) ?_
        refine lv_lsub hx hb d_Ms_catchUp_119 ?_
        refine hw_tl (zL_sub sg ((sg / (nB : Int)) * (nB : Int))) ?_
        refine hw_tl (show _ = lN d1 from by rw [zL_lN, he1]) ?_
        refine wh_st S hI hV hY hG (by omega) d_Ms_catchUp_120 (fun f8 H locs hI hV hf8 => ?_)
        have hV : AllW D L f8 o r N (va_up (va_up v G ((v G).1, va_up h1 t d1)) Ls ((v Ls).1, h2)) := by rw [hw_up_ne hGL, hw_up_eq, up2_G hGL] at hV; exact hV
        have hM := hM.fr (hf8 _ (hMr G hG))
        refine lv_aload_n hx hb d_Ms_catchUp_121 rfl (lv_at hl 8 rfl) ?_
        refine ob_get S hI hM (C := R_Ms) (T := F_Ms) (N := 9) (ref := "WallFractions$Measure") rfl i_Ms 3 (by decide) rfl w_103 rfl d_Ms_catchUp_122 ?_
        refine wh_limbsN S hI hV hLs (by decide) d_Ms_catchUp_125 ?_
        refine lv_iload hx hb d_Ms_catchUp_128 (lv_at hl 6 rfl) ?_
        refine lv_lload hx hb d_Ms_catchUp_130 (lv_at hl 2 rfl) ?_
        refine lv_lload hx hb d_Ms_catchUp_132 (lv_at hl 0 rfl) ?_
        refine hw_ldc2 (v := zL (nB : Int)) hx hb hown (hT _ w_460) d_Ms_catchUp_134 ?_
        refine lv_lmul hx hb d_Ms_catchUp_137 ?_
        refine hw_tl (zL_mul (sl / (nB : Int)) (nB : Int)) ?_
        refine lv_lsub hx hb d_Ms_catchUp_138 ?_
        refine hw_tl (zL_sub sl ((sl / (nB : Int)) * (nB : Int))) ?_
        refine hw_tl (show _ = lN d2 from by rw [zL_lN, he2]) ?_
        refine wh_st S hI hV hY hLs (by omega) d_Ms_catchUp_139 (fun f9 H locs hI hV hf9 => ?_)
        have hV : AllW D L f9 o r N (va_up (va_up v G ((v G).1, va_up h1 t d1)) Ls ((v Ls).1, va_up h2 t d2)) := by rw [hw_up_eq, bx_uu] at hV; exact hV
        have hM := hM.fr (hf9 _ (hMr Ls hLs))
        refine lv_iinc (v := nI (t + 1)) (lv' := [(6, .int (nI (t + 1))), (4, .long (zL (sl / (nB : Int)))), (2, .long (zL (sg / (nB : Int)))), (13, .long (zL sl)), (11, .long (zL sg)), (9, .long (lN (padl (v Ls) t))), (7, .long (lN ((v G).2 t))), (1, .int (nI s9)), (0, .ref (am))]) hx hb d_Ms_catchUp_140 hl (k := 6) rfl (nI_1 _) (by decide) rfl (fun ls hl => ?_)
        refine lv_goto (tgt := 16) hx hb d_Ms_catchUp_143 (by decide) ?_
        have rg2 : -2000000000 ≤ sg / (nB : Int) ∧ sg / (nB : Int) ≤ 2000000000 := rg.2.2
        have rl2 : -2000000000 ≤ sl / (nB : Int) ∧ sl / (nB : Int) ≤ 2000000000 := rl.2.2
        exact ih (t + 1) (sg / (nB : Int)) (sl / (nB : Int)) (va_up h1 t d1) (va_up h2 t d2) _ _ _ _ (by omega) rg2 rl2 (fun q => by by_cases e9 : q = t; (subst e9; rw [hw_up_eq]; omega); (rw [hw_up_ne e9]; exact hB1 q)) (fun q => by by_cases e9 : q = t; (subst e9; rw [hw_up_eq]; omega); (rw [hw_up_ne e9]; exact hB2 q)) (fun q hq => by rw [hw_up_ne (by omega)]; exact hh1 q (by omega)) (fun q hq => by rw [hw_up_ne (by omega)]; exact hh2 q (by omega)) (cu_step hS1 (by rw [← hsg]; omega)) (cu_step hS2 (by rw [← hsl]; omega)) hV hM (fun q q1 q2 => (hf9 q q2).trans ((hf8 q q1).trans (hF q q1 q2))) hI (lv_sub hl [0, 1, 2, 7, 8] rfl)
  refine lv_aload_n hx hb d_Ms_catchUp_0 rfl (lv_at hl 0 rfl) ?_
  refine ob_get S hI hM (C := R_Ms) (T := F_Ms) (N := 9) (ref := "WallFractions$Measure") rfl i_Ms 2 (by decide) rfl w_102 rfl d_Ms_catchUp_1 ?_
  refine wh_sizeN S hI hV hG (by decide) d_Ms_catchUp_4 ?_
  refine hw_ti (show _ = nI s9 from by rw [hs9]) ?_
  refine lv_istore_n (lv' := [(1, .int (nI s9)), (0, .ref (am))]) hx hb d_Ms_catchUp_7 rfl hl (by decide) rfl (fun ls hl => ?_)
  refine lv_lconst (v := lN 0) hx hb d_Ms_catchUp_8 rfl ?_
  refine lv_lstore_n (lv' := [(2, .long (lN 0)), (1, .int (nI s9)), (0, .ref (am))]) hx hb d_Ms_catchUp_9 rfl hl (by decide) rfl (fun ls hl => ?_)
  refine lv_lconst (v := lN 0) hx hb d_Ms_catchUp_10 rfl ?_
  refine lv_lstore (lv' := [(4, .long (lN 0)), (2, .long (lN 0)), (1, .int (nI s9)), (0, .ref (am))]) hx hb d_Ms_catchUp_11 hl (by decide) rfl (fun ls hl => ?_)
  refine lv_iconst (v := nI 0) hx hb d_Ms_catchUp_13 (by decide) ?_
  refine lv_istore (lv' := [(6, .int (nI 0)), (4, .long (lN 0)), (2, .long (lN 0)), (1, .int (nI s9)), (0, .ref (am))]) hx hb d_Ms_catchUp_14 hl (by decide) rfl (fun ls hl => ?_)
  exact loop s9 0 0 0 (v G).2 (v Ls).2 _ _ _ _ (by omega) (by omega) (by omega) (hO G hG).2.1 (hO Ls hLs).2.1 (fun _ _ => rfl) (fun _ _ => rfl) (by simp [nvb_zero]) (by simp [nvb_zero]) (by rw [up_id2]; exact hV) hM (fun _ _ _ => rfl) hI hl

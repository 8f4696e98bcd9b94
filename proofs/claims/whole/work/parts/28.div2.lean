set_option maxHeartbeats 4000000 in
set_option maxRecDepth 100000 in
theorem c_Dv_takeOff (l : Launch) (D : va_G) (t0 : Nat) (L : List Nat) (f : Nat → va_E) (sz : Nat) (ad al ab : Nat) (u w : Nat → Nat) (p9 n : Nat) (hA : hw_c L f ad (.inr (0, [.ref al, .ref ab]))) (hU : arrN D L f al 42 u) (hWb : arrN D L f ab 42 w) (hab : al ≠ ab) (hn : 2 ≤ n) (hpn : p9 + n ≤ 41) (hu : ∀ q, q ≤ n → u (p9 + q) < nB) (hw : ∀ q, q < n → w q < nB) (ht : nB ≤ 2 * w (n - 1)) (hlt : nvb nB (nsh u p9) (n + 1) < nvb nB w n * nB) : Met l y_Dv_takeOff (Cond.code y_Dv_takeOff b_Dv_takeOff 10 (some .long) :: TT) ({ frames := 6, cells := 0, slots := 0, locals := 110 } : Room) (hw_Pc t0 [.ref (ad), .int (nI p9), .int (nI n)] D L f sz) (hw_Q D L sz (fun oc L' f' => oc = .returned (some (.long (lN (nvb nB (nsh u p9) (n + 1) / nvb nB w n)))) ∧ L = L' ∧ ∃ u', arrN D L f' al 42 u' ∧ (∀ q, q < n → u' (p9 + q) < nB) ∧ u' (p9 + n) = 0 ∧ nvb nB (nsh u' p9) n = nvb nB (nsh u p9) (n + 1) % nvb nB w n ∧ (∀ q, q < p9 ∨ p9 + n < q → u' q = u q) ∧ ∀ q, q ≠ al → f' q = f q)) 0 0 (hw_A L sz) := by
  refine Met.ofW (cc := b_Dv_takeOff) (maxL := 10) (ret := (some .long)) (by decide) rfl ?_
  intro p e s m args below meth c s₁ B hml hv
  obtain ⟨rfl, rfl, hI⟩ := hw_start hv
  clear hv
  have hx := B.exec
  have hb := B.bytes
  have hr := B.returns
  have hlocks := B.notSynchronized
  have hown : s.vm.findClass "WallFractions$Divider" = some m.cls := findClass_of_methodNamed B.named
  have hT : ∀ w ∈ TT, w.before ([.ref (ad), .int (nI p9), .int (nI n)]).toArray s = true := fun w h => atoms_spec (ws := (Cond.code y_Dv_takeOff b_Dv_takeOff 10 (some .long) :: TT)) B.pre w (List.mem_cons_of_mem _ h)
  have S : CallFix p m c b_Dv_takeOff 10 s ([.ref (ad), .int (nI p9), .int (nI n)]).toArray TT "WallFractions$Divider" := ⟨hx, hb, hml, hown, hT⟩
  have hl := lv_entry ([.ref (ad), .int (nI p9), .int (nI n)]) (n := 10) (Nat.le_of_ble_eq_true rfl)
  rw [lg_entry_eq]
  generalize (lg_sl ([.ref (ad), .int (nI p9), .int (nI n)]) ++ List.replicate (10 - (lg_sl ([.ref (ad), .int (nI p9), .int (nI n)])).length) Slot.unset).toArray = ls at hl ⊢
  have hl : lv_has ls 10 [(0, .ref (ad)), (1, .int (nI p9)), (2, .int (nI n))] := hl
  skip
  have hnB : nB = 1000000000 := rfl
  have hadl : ad ≠ al := fun e9 => hw_ne hU hA e9.symm
  obtain ⟨W9, U0, V0, hK⟩ := kd_of hn hu hw ht hlt
  have hV0 : 0 < nvb nB w n := hK.Vpos
  have hVP : nvb nB w n < nB ^ n := nvb_lt (fun q hq => hw q hq)
  refine lv_aload_n hx hb d_Dv_takeOff_0 rfl (lv_at hl 0 rfl) ?_
  refine lv_iload_n hx hb d_Dv_takeOff_1 rfl (lv_at hl 1 rfl) ?_
  refine lv_iload_n hx hb d_Dv_takeOff_2 rfl (lv_at hl 2 rfl) ?_
  refine hw_cV (As := [.int (nI p9), .int (nI n)]) (rest := []) S hI m_Dv_guess w_490 (c_Dv_guess l D t0 L _ _ ad al ab u w p9 n W9 U0 V0 _ _ hA hU hWb hab hn hpn hu hw hK) hA rfl hl.1 rfl rfl (Nat.le_of_ble_eq_true rfl) d_Dv_takeOff_3 ⟨Nat.le_of_ble_eq_true rfl, Nat.le_of_ble_eq_true rfl⟩ ⟨Nat.le_of_ble_eq_true rfl, Nat.le_of_ble_eq_true rfl⟩ (fun v9 L9 f1 H locs hp hI => ?_)
  refine W.cs (cells' := 0) (slots' := 0) rfl rfl ?_
  obtain ⟨⟨t9, hv9, hq1, hq2, htB⟩, rfl, rfl⟩ := hp
  cases hv9
  refine hw_stk (st' := [.long (lN t9)]) rfl ?_
  have loop : ∀ (g t bw : Nat) (u1 : Nat → Nat) (f1 : Nat → va_E) (H : Heap) (locs : List Loc) (ls : Array Slot), t + g = n → bw ≤ nB → (∀ q, q < t → u1 (p9 + q) < nB) → (∀ q, q < p9 ∨ p9 + t ≤ q → u1 q = u q) → nvb nB (nsh u1 p9) t + t9 * nvb nB w t = nvb nB (nsh u p9) t + bw * nB ^ t → hw_c L f1 ad (.inr (0, [.ref al, .ref ab])) → arrN D L f1 al 42 u1 → arrN D L f1 ab 42 w → (∀ q, q ≠ al → f1 q = f q) → hw_I D t0 (hw_A L s.heap.size) s L f1 H locs → lv_has ls 10 [(7, .int (nI t)), (5, .long (lN bw)), (3, .long (lN t9)), (0, .ref (ad)), (1, .int (nI p9)), (2, .int (nI n))] → W p l e (headSpec (Cond.code y_Dv_takeOff b_Dv_takeOff 10 (some .long) :: TT) ({ frames := 6, cells := 0, slots := 0, locals := 110 } : Room)).room s m ([.ref (ad), .int (nI p9), .int (nI n)]).toArray below meth c H locs 0 0 (MQ below (hw_Q D L s.heap.size (fun oc L' f' => oc = .returned (some (.long (lN (nvb nB (nsh u p9) (n + 1) / nvb nB w n)))) ∧ L = L' ∧ ∃ u', arrN D L f' al 42 u' ∧ (∀ q, q < n → u' (p9 + q) < nB) ∧ u' (p9 + n) = 0 ∧ nvb nB (nsh u' p9) n = nvb nB (nsh u p9) (n + 1) % nvb nB w n ∧ (∀ q, q < p9 ∨ p9 + n < q → u' q = u q) ∧ ∀ q, q ≠ al → f' q = f q)) ([.ref (ad), .int (nI p9), .int (nI n)]).toArray s 0 0 (hw_A L s.heap.size)) (F0 m 13 ls []) := by
    intro g
    induction g with
    | zero =>
      intro t bw u1 f1 H locs ls htg hbw hB1 hO1 hS hA hU hWb hF hI hl
      refine lv_iload hx hb d_Dv_takeOff_13 (lv_at hl 0 rfl) ?_
      refine lv_iload_n hx hb d_Dv_takeOff_15 rfl (lv_at hl 5 rfl) ?_
      refine hw_icmp_ge (tgt := 78) hx hb d_Dv_takeOff_16 (by decide) (by omega) (by omega) (fun c2 => ?_) (fun c2 => ?_)
      · have htn : t = n := by omega
        rw [htn] at hS hB1 hO1
        have hut := hO1 (p9 + n) (by omega)
        have hutB := hu n (Nat.le_refl _)
        have hUe : nvb nB (nsh u p9) (n + 1) = nvb nB (nsh u p9) n + u (p9 + n) * nB ^ n := nvb_succ _ _ _
        rcases Nat.lt_or_ge (u (p9 + n)) bw with hcase | hcase
        · refine lv_aload_n hx hb d_Dv_takeOff_78 rfl (lv_at hl 3 rfl) ?_
          refine dv_left S hI hA d_Dv_takeOff_79 ?_
          refine lv_iload_n hx hb d_Dv_takeOff_82 rfl (lv_at hl 4 rfl) ?_
          refine lv_iload_n hx hb d_Dv_takeOff_83 rfl (lv_at hl 5 rfl) ?_
          refine lv_iadd hx hb d_Dv_takeOff_84 ?_
          refine hw_ti (nI_add _ _) ?_
          refine lv_dup2_11 hx hb d_Dv_takeOff_85 rfl rfl ?_
          refine ar_ld S hI hU (by decide) (by omega) d_Dv_takeOff_86 ?_
          refine hw_tl (show _ = lN (u (p9 + n)) from by rw [hut]) ?_
          refine lv_lload hx hb d_Dv_takeOff_87 (lv_at hl 1 rfl) ?_
          refine lv_lsub hx hb d_Dv_takeOff_89 ?_
          refine hw_tl (show _ = lN (u (p9 + n) + 2 ^ 64 - bw) from lN_wrap (by omega)) ?_
          refine ar_st S hI hU (by decide) (by omega) d_Dv_takeOff_90 (fun f3 H locs hI hU hf3 => ?_)
          have hF := fun q (h1 : q ≠ al) => (hf3 q h1).trans (hF q h1)
          have hA := hA.fr (hf3 _ hadl)
          have hWb : arrN D L f3 ab 42 w := hWb.fr (hf3 _ (fun e9 => hab e9.symm))
          refine lv_aload_n hx hb d_Dv_takeOff_91 rfl (lv_at hl 3 rfl) ?_
          refine dv_left S hI hA d_Dv_takeOff_92 ?_
          refine lv_iload_n hx hb d_Dv_takeOff_95 rfl (lv_at hl 4 rfl) ?_
          refine lv_iload_n hx hb d_Dv_takeOff_96 rfl (lv_at hl 5 rfl) ?_
          refine lv_iadd hx hb d_Dv_takeOff_97 ?_
          refine hw_ti (nI_add _ _) ?_
          refine ar_ld S hI hU (by decide) (by omega) d_Dv_takeOff_98 ?_
          refine hw_tl (show _ = lN (u (p9 + n) + 2 ^ 64 - bw) from by rw [hw_up_eq]) ?_
          refine lv_lconst (v := lN 0) hx hb d_Dv_takeOff_99 rfl ?_
          refine hw_l_ge (tgt := 114) hx hb d_Dv_takeOff_100 d_Dv_takeOff_101 (by decide) (fun c4 => ?_) (fun c4 => ?_)
          · exact absurd c4 (Int64.not_le.mpr (by rw [show u (p9 + n) + 2 ^ 64 - bw = 2 ^ 64 - (bw - u (p9 + n)) by omega]; exact lN_neg (by omega) (by omega)))
          · refine lv_aload_n hx hb d_Dv_takeOff_104 rfl (lv_at hl 3 rfl) ?_
            refine lv_iload_n hx hb d_Dv_takeOff_105 rfl (lv_at hl 4 rfl) ?_
            refine lv_iload_n hx hb d_Dv_takeOff_106 rfl (lv_at hl 5 rfl) ?_
            refine hw_cV (As := [.int (nI p9), .int (nI n)]) (rest := []) S hI m_Dv_putBack w_497 (c_Dv_putBack l D t0 L _ _ ad al ab _ w p9 n hA hU hWb hab hpn (fun q hq => by rw [hw_up_ne (by omega)]; exact hB1 q hq) hw) hA rfl hl.1 rfl rfl (Nat.le_of_ble_eq_true rfl) d_Dv_takeOff_107 ⟨Nat.le_of_ble_eq_true rfl, Nat.le_of_ble_eq_true rfl⟩ ⟨Nat.le_of_ble_eq_true rfl, Nat.le_of_ble_eq_true rfl⟩ (fun v9 L9 f5 H locs hp hI => ?_)
            refine W.cs (cells' := 0) (slots' := 0) rfl rfl ?_
            obtain ⟨hv9, rfl, u2, cr, hU, hcr, hB2, hS2, ht2, hO2, hF2⟩ := hp
            cases hv9
            refine hw_stk (st' := []) rfl ?_
            rw [nsh_up, nvb_up (Nat.le_refl _)] at hS2
            rw [hw_up_eq] at ht2
            have hg := tk_over hUe hS hVP hV0 (nvb_lt (fun q hq => hB1 q hq)) (nvb_lt (fun q hq => hB2 q hq)) hq2 hcase hcr hS2
            refine lv_lload_n hx hb d_Dv_takeOff_110 rfl (lv_at hl 2 rfl) ?_
            refine lv_lconst (v := lN 1) hx hb d_Dv_takeOff_111 rfl ?_
            refine lv_lsub hx hb d_Dv_takeOff_112 ?_
            refine hw_tl (lN_sub (by omega)) ?_
            refine lv_lstore_n (lv' := [(3, .long (lN (t9 - 1))), (7, .int (nI t)), (5, .long (lN bw)), (0, .ref (ad)), (1, .int (nI p9)), (2, .int (nI n))]) hx hb d_Dv_takeOff_113 rfl hl (by decide) rfl (fun ls hl => ?_)
            refine lv_lload_n hx hb d_Dv_takeOff_114 rfl (lv_at hl 0 rfl) ?_
            have hU3 : arrN D L f5 al 42 (va_up u2 (p9 + n) 0) := hU.at0 (fun q => by by_cases e9 : q = p9 + n; (rw [e9, hw_up_eq, ht2, show u (p9 + n) + 2 ^ 64 - bw + cr = 2 ^ 64 by have := hg.2.2.1; have := hg.2.2.2.1; omega]; decide); (rw [hw_up_ne e9]))
            exact hw_lret hx hb hr hlocks hI d_Dv_takeOff_115 ⟨by rw [← hg.1], rfl, _, hU3, (fun q hq => by rw [hw_up_ne (by omega)]; exact hB2 q hq), hw_up_eq, by rw [nsh_up, nvb_up (Nat.le_refl _)]; exact hg.2.2.2.2, (fun q hq => by rw [hw_up_ne (by omega), hO2 q hq, hw_up_ne (by omega)]; exact hO1 q (by omega)), fun q hq => (hF2 q hq).trans (hF q hq)⟩
        · refine lv_aload_n hx hb d_Dv_takeOff_78 rfl (lv_at hl 3 rfl) ?_
          refine dv_left S hI hA d_Dv_takeOff_79 ?_
          refine lv_iload_n hx hb d_Dv_takeOff_82 rfl (lv_at hl 4 rfl) ?_
          refine lv_iload_n hx hb d_Dv_takeOff_83 rfl (lv_at hl 5 rfl) ?_
          refine lv_iadd hx hb d_Dv_takeOff_84 ?_
          refine hw_ti (nI_add _ _) ?_
          refine lv_dup2_11 hx hb d_Dv_takeOff_85 rfl rfl ?_
          refine ar_ld S hI hU (by decide) (by omega) d_Dv_takeOff_86 ?_
          refine hw_tl (show _ = lN (u (p9 + n)) from by rw [hut]) ?_
          refine lv_lload hx hb d_Dv_takeOff_87 (lv_at hl 1 rfl) ?_
          refine lv_lsub hx hb d_Dv_takeOff_89 ?_
          refine hw_tl (lN_sub (by omega)) ?_
          refine ar_st S hI hU (by decide) (by omega) d_Dv_takeOff_90 (fun f6 H locs hI hU hf6 => ?_)
          have hF := fun q (h1 : q ≠ al) => (hf6 q h1).trans (hF q h1)
          have hA := hA.fr (hf6 _ hadl)
          have hWb : arrN D L f6 ab 42 w := hWb.fr (hf6 _ (fun e9 => hab e9.symm))
          refine lv_aload_n hx hb d_Dv_takeOff_91 rfl (lv_at hl 3 rfl) ?_
          refine dv_left S hI hA d_Dv_takeOff_92 ?_
          refine lv_iload_n hx hb d_Dv_takeOff_95 rfl (lv_at hl 4 rfl) ?_
          refine lv_iload_n hx hb d_Dv_takeOff_96 rfl (lv_at hl 5 rfl) ?_
          refine lv_iadd hx hb d_Dv_takeOff_97 ?_
          refine hw_ti (nI_add _ _) ?_
          refine ar_ld S hI hU (by decide) (by omega) d_Dv_takeOff_98 ?_
          refine hw_tl (show _ = lN (u (p9 + n) - bw) from by rw [hw_up_eq]) ?_
          refine lv_lconst (v := lN 0) hx hb d_Dv_takeOff_99 rfl ?_
          refine hw_l_ge (tgt := 114) hx hb d_Dv_takeOff_100 d_Dv_takeOff_101 (by decide) (fun c7 => ?_) (fun c7 => ?_)
          · have hg := tk_good (B := nB) hUe hS (Nat.le_of_lt hVP) hV0 hq1 hcase
            refine lv_lload_n hx hb d_Dv_takeOff_114 rfl (lv_at hl 2 rfl) ?_
            exact hw_lret hx hb hr hlocks hI d_Dv_takeOff_115 ⟨by rw [← hg.1], rfl, _, hU, (fun q hq => by rw [hw_up_ne (by omega)]; exact hB1 q hq), by rw [hw_up_eq, hg.2.1, Nat.sub_self], by rw [nsh_up, nvb_up (Nat.le_refl _)]; exact hg.2.2, (fun q hq => by rw [hw_up_ne (by omega)]; exact hO1 q (by omega)), hF⟩
          · exact absurd ((pk_lLT (by omega) (by decide)).mp c7) (by omega)
      · exact absurd c2 (by omega)
    | succ g ih =>
      intro t bw u1 f1 H locs ls htg hbw hB1 hO1 hS hA hU hWb hF hI hl
      refine lv_iload hx hb d_Dv_takeOff_13 (lv_at hl 0 rfl) ?_
      refine lv_iload_n hx hb d_Dv_takeOff_15 rfl (lv_at hl 5 rfl) ?_
      refine hw_icmp_ge (tgt := 78) hx hb d_Dv_takeOff_16 (by decide) (by omega) (by omega) (fun c8 => ?_) (fun c8 => ?_)
      · exact absurd c8 (by omega)
      · have hut := hu t (by omega)
        have hwt := hw t (by omega)
        have he := hO1 (p9 + t) (by omega)
        have hyb : t9 * w t ≤ (nB - 1) * nB := Nat.mul_le_mul (by omega) (by omega)
        have hn2 : (nB - 1) * nB = 999999999000000000 := rfl
        rw [hn2] at hyb
        obtain ⟨bw2, dg, hdg, hbw2, hst, hfl⟩ := fl_step hut hyb hbw
        obtain ⟨dd, hdd⟩ : ∃ dd : Int, dd = ((u (p9 + t) : Nat) : Int) - ((t9 * w t : Nat) : Int) - ((bw : Nat) : Int) := ⟨_, rfl⟩
        rw [← hdd] at hfl
        refine lv_aload_n hx hb d_Dv_takeOff_19 rfl (lv_at hl 3 rfl) ?_
        refine dv_left S hI hA d_Dv_takeOff_20 ?_
        refine lv_iload_n hx hb d_Dv_takeOff_23 rfl (lv_at hl 4 rfl) ?_
        refine lv_iload hx hb d_Dv_takeOff_24 (lv_at hl 0 rfl) ?_
        refine lv_iadd hx hb d_Dv_takeOff_26 ?_
        refine hw_ti (nI_add _ _) ?_
        refine ar_ld S hI hU (by decide) (by omega) d_Dv_takeOff_27 ?_
        refine hw_tl (show _ = lN (u (p9 + t)) from by rw [he]) ?_
        refine lv_lload_n hx hb d_Dv_takeOff_28 rfl (lv_at hl 2 rfl) ?_
        refine lv_aload_n hx hb d_Dv_takeOff_29 rfl (lv_at hl 3 rfl) ?_
        refine dv_by S hI hA d_Dv_takeOff_30 ?_
        refine lv_iload hx hb d_Dv_takeOff_33 (lv_at hl 0 rfl) ?_
        refine ar_ld S hI hWb (by decide) (by omega) d_Dv_takeOff_35 ?_
        refine lv_lmul hx hb d_Dv_takeOff_36 ?_
        refine hw_tl (lN_mul _ _) ?_
        refine lv_lsub hx hb d_Dv_takeOff_37 ?_
        refine lv_lload hx hb d_Dv_takeOff_38 (lv_at hl 1 rfl) ?_
        refine lv_lsub hx hb d_Dv_takeOff_40 ?_
        refine hw_tl (show _ = zL dd from by rw [hdd]; exact lN_z3 _ _ _) ?_
        refine lv_lstore (lv' := [(8, .long (zL dd)), (7, .int (nI t)), (5, .long (lN bw)), (3, .long (lN t9)), (0, .ref (ad)), (1, .int (nI p9)), (2, .int (nI n))]) hx hb d_Dv_takeOff_41 hl (by decide) rfl (fun ls hl => ?_)
        refine lv_lload hx hb d_Dv_takeOff_43 (lv_at hl 0 rfl) ?_
        refine hw_ldc2 (v := lN nB) hx hb hown (hT _ w_482) d_Dv_takeOff_45 ?_
        refine hw_tl (show _ = zL (nB : Int) from zL_lN nB) ?_
        have hdb : -2 ^ 62 < dd ∧ dd < 2 ^ 62 := by constructor <;> omega
        refine hw_cS (As := [.long (zL dd), .long (zL (nB : Int))]) (rest := []) S hI m_Mt_floorDiv w_494 (c_Mt_floorDiv l D t0 L _ _ dd (nB : Int) hdb.1 hdb.2 (by decide) (by decide)) hl.1 rfl rfl (Nat.le_of_ble_eq_true rfl) d_Dv_takeOff_48 ⟨Nat.le_of_ble_eq_true rfl, Nat.le_of_ble_eq_true rfl⟩ ⟨Nat.le_of_ble_eq_true rfl, Nat.le_of_ble_eq_true rfl⟩ (fun v9 L9 f9 H locs hp hI => ?_)
        refine W.cs (cells' := 0) (slots' := 0) rfl rfl ?_
        obtain ⟨hv9, rfl, rfl⟩ := hp
        cases hv9
        refine hw_stk (st' := [.long (zL (dd / (nB : Int)))]) rfl ?_
        refine lv_lneg hx hb d_Dv_takeOff_51 ?_
        refine hw_tl (show _ = lN bw2 from by rw [zL_neg, hfl]; exact (zL_lN _).symm) ?_
        refine lv_lstore (lv' := [(5, .long (lN bw2)), (8, .long (zL dd)), (7, .int (nI t)), (3, .long (lN t9)), (0, .ref (ad)), (1, .int (nI p9)), (2, .int (nI n))]) hx hb d_Dv_takeOff_52 hl (by decide) rfl (fun ls hl => ?_)
        refine lv_aload_n hx hb d_Dv_takeOff_54 rfl (lv_at hl 4 rfl) ?_
        refine dv_left S hI hA d_Dv_takeOff_55 ?_
        refine lv_iload_n hx hb d_Dv_takeOff_58 rfl (lv_at hl 5 rfl) ?_
        refine lv_iload hx hb d_Dv_takeOff_59 (lv_at hl 2 rfl) ?_
        refine lv_iadd hx hb d_Dv_takeOff_61 ?_
        refine hw_ti (nI_add _ _) ?_
        refine lv_lload hx hb d_Dv_takeOff_62 (lv_at hl 1 rfl) ?_
        refine lv_lload hx hb d_Dv_takeOff_64 (lv_at hl 0 rfl) ?_
        refine hw_ldc2 (v := lN nB) hx hb hown (hT _ w_482) d_Dv_takeOff_66 ?_
        refine lv_lmul hx hb d_Dv_takeOff_69 ?_
        refine hw_tl (lN_mul _ _) ?_
        refine lv_ladd hx hb d_Dv_takeOff_70 ?_
        refine hw_tl (show _ = lN dg from zL_dig (by omega)) ?_
        refine ar_st S hI hU (by decide) (by omega) d_Dv_takeOff_71 (fun f10 H locs hI hU hf10 => ?_)
        have hF := fun q (h1 : q ≠ al) => (hf10 q h1).trans (hF q h1)
        have hA := hA.fr (hf10 _ hadl)
        have hWb : arrN D L f10 ab 42 w := hWb.fr (hf10 _ (fun e9 => hab e9.symm))
        refine lv_iinc (v := nI (t + 1)) (lv' := [(7, .int (nI (t + 1))), (5, .long (lN bw2)), (8, .long (zL dd)), (3, .long (lN t9)), (0, .ref (ad)), (1, .int (nI p9)), (2, .int (nI n))]) hx hb d_Dv_takeOff_72 hl (k := 2) rfl (nI_1 _) (by decide) rfl (fun ls hl => ?_)
        refine lv_goto (tgt := 13) hx hb d_Dv_takeOff_75 (by decide) ?_
        have hS2 := nvb_borrow (x := u (p9 + t)) (y := t9 * w t) hS hst
        exact ih (t + 1) bw2 _ _ _ _ _ (by omega) hbw2 (fun q hq => by by_cases e9 : q = t; (subst e9; rw [hw_up_eq]; omega); (rw [hw_up_ne (by omega)]; exact hB1 q (by omega))) (fun q hq => by rw [hw_up_ne (by omega)]; exact hO1 q (by omega)) (by rw [nsh_up, nvb_succ nB w t, nvb_succ nB (nsh u p9) t, show t9 * (nvb nB w t + w t * nB ^ t) = t9 * nvb nB w t + t9 * w t * nB ^ t by grind]; exact hS2) hA hU hWb hF hI (lv_sub hl [0, 1, 3, 4, 5, 6] rfl)
  refine lv_lstore_n (lv' := [(3, .long (lN t9)), (0, .ref (ad)), (1, .int (nI p9)), (2, .int (nI n))]) hx hb d_Dv_takeOff_6 rfl hl (by decide) rfl (fun ls hl => ?_)
  refine lv_lconst (v := lN 0) hx hb d_Dv_takeOff_7 rfl ?_
  refine lv_lstore (lv' := [(5, .long (lN 0)), (3, .long (lN t9)), (0, .ref (ad)), (1, .int (nI p9)), (2, .int (nI n))]) hx hb d_Dv_takeOff_8 hl (by decide) rfl (fun ls hl => ?_)
  refine lv_iconst (v := nI 0) hx hb d_Dv_takeOff_10 (by decide) ?_
  refine lv_istore (lv' := [(7, .int (nI 0)), (5, .long (lN 0)), (3, .long (lN t9)), (0, .ref (ad)), (1, .int (nI p9)), (2, .int (nI n))]) hx hb d_Dv_takeOff_11 hl (by decide) rfl (fun ls hl => ?_)
  exact loop n 0 0 u _ _ _ _ (by omega) (by omega) (fun q hq => absurd hq (by omega)) (fun _ _ => rfl) (by simp [nvb_zero]) hA hU hWb (fun _ _ => rfl) hI hl

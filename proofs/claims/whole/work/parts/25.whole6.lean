set_option maxHeartbeats 4000000 in
set_option maxRecDepth 100000 in
theorem c_Wh_becomeProduct (l : Launch) (D : va_G) (t0 : Nat) (L : List Nat) (f : Nat → va_E) (sz : Nat) (o r : Nat → Nat) (N : Nat) (x : Nat → Nat) (i : Nat) (j k a1 a2 : Nat) (hi : i < N) (hY : Lay o r N) (hN : AllN D L f o r N x) (hj : j < N) (hk : k < N) (hij : i ≠ j) (hik : i ≠ k) (hxj : x j < nB ^ a1) (hxk : x k < nB ^ a2) (ha : a1 + a2 ≤ 41) : Met l y_Wh_becomeProduct (Cond.code y_Wh_becomeProduct b_Wh_becomeProduct 12 none :: TT) ({ frames := 7, cells := 0, slots := 0, locals := 130 } : Room) (hw_Pc t0 [.ref (o i), .ref (o j), .ref (o k)] D L f sz) (hw_Q D L sz (fun oc L' f' => oc = .returned none ∧ L = L' ∧ AllN D L f' o r N (va_up x i (x j * x k)) ∧ ∀ q, q ≠ o i → q ≠ r i → f' q = f q)) 0 0 (hw_A L sz) := by
  refine Met.ofW (cc := b_Wh_becomeProduct) (maxL := 12) (ret := none) (by decide) rfl ?_
  intro p e s m args below meth c s₁ B hml hv
  obtain ⟨rfl, rfl, hI⟩ := hw_start hv
  clear hv
  have hx := B.exec
  have hb := B.bytes
  have hr := B.returns
  have hlocks := B.notSynchronized
  have hown : s.vm.findClass "WallFractions$Whole" = some m.cls := findClass_of_methodNamed B.named
  have hT : ∀ w ∈ TT, w.before ([.ref (o i), .ref (o j), .ref (o k)]).toArray s = true := fun w h => atoms_spec (ws := (Cond.code y_Wh_becomeProduct b_Wh_becomeProduct 12 none :: TT)) B.pre w (List.mem_cons_of_mem _ h)
  have S : CallFix p m c b_Wh_becomeProduct 12 s ([.ref (o i), .ref (o j), .ref (o k)]).toArray TT "WallFractions$Whole" := ⟨hx, hb, hml, hown, hT⟩
  have hl := lv_entry ([.ref (o i), .ref (o j), .ref (o k)]) (n := 12) (Nat.le_of_ble_eq_true rfl)
  rw [lg_entry_eq]
  generalize (lg_sl ([.ref (o i), .ref (o j), .ref (o k)]) ++ List.replicate (12 - (lg_sl ([.ref (o i), .ref (o j), .ref (o k)])).length) Slot.unset).toArray = ls at hl ⊢
  have hl : lv_has ls 12 [(0, .ref (o i)), (1, .ref (o j)), (2, .ref (o k))] := hl
  skip
  obtain ⟨v, hV, hO⟩ := hN
  have hnB : nB = 1000000000 := rfl
  have h1 : (v j).1 ≤ a1 := ((hO j hj).2.size_le nB1).mpr hxj
  have h2 : (v k).1 ≤ a2 := ((hO k hk).2.size_le nB1).mpr hxk
  obtain ⟨J, hJ⟩ : ∃ J, J = (v j).1 := ⟨_, rfl⟩
  obtain ⟨K, hK⟩ : ∃ K, K = (v k).1 := ⟨_, rfl⟩
  obtain ⟨M, hM⟩ : ∃ M, M = J + K := ⟨_, rfl⟩
  refine lv_aload_n hx hb d_Wh_becomeProduct_0 rfl (lv_at hl 1 rfl) ?_
  refine wh_size S hI hV hj d_Wh_becomeProduct_1 ?_
  refine hw_ti (show _ = nI J from by rw [hJ]) ?_
  refine lv_aload_n hx hb d_Wh_becomeProduct_4 rfl (lv_at hl 2 rfl) ?_
  refine wh_size S hI hV hk d_Wh_becomeProduct_5 ?_
  refine hw_ti (show _ = nI K from by rw [hK]) ?_
  refine lv_iadd hx hb d_Wh_becomeProduct_8 ?_
  refine hw_ti (nI_add _ _) ?_
  refine hw_ti (show _ = nI M from by rw [hM]) ?_
  refine lv_istore_n (lv' := [(3, .int (nI M)), (0, .ref (o i)), (1, .ref (o j)), (2, .ref (o k))]) hx hb d_Wh_becomeProduct_9 rfl hl (by decide) rfl (fun ls hl => ?_)
  refine lv_iload_n hx hb d_Wh_becomeProduct_10 rfl (lv_at hl 0 rfl) ?_
  refine hw_cS (As := [.int (nI M)]) (rest := []) S hI m_Wh_requireRoom w_385 (c_Wh_requireRoom l D t0 L _ _ M (by omega)) hl.1 rfl rfl (Nat.le_of_ble_eq_true rfl) d_Wh_becomeProduct_11 ⟨Nat.le_of_ble_eq_true rfl, Nat.le_of_ble_eq_true rfl⟩ ⟨Nat.le_of_ble_eq_true rfl, Nat.le_of_ble_eq_true rfl⟩ (fun v9 L9 f14 H locs hp hI => ?_)
  refine W.cs (cells' := 0) (slots' := 0) rfl rfl ?_
  obtain ⟨hv9, rfl, rfl⟩ := hp
  cases hv9
  refine hw_stk (st' := []) rfl ?_
  have ej : ∀ z : Nat × (Nat → Nat), va_up v i z j = v j := fun z => hw_up_ne (fun e9 => hij e9.symm)
  have ek : ∀ z : Nat × (Nat → Nat), va_up v i z k = v k := fun z => hw_up_ne (fun e9 => hik e9.symm)
  have outer : ∀ (g a : Nat) (h : Nat → Nat) (f1 : Nat → va_E) (H : Heap) (locs : List Loc) (ls : Array Slot), a + g = J → (∀ q, h q < nB) → nvb nB h (a + K) = nvb nB (v j).2 a * nvb nB (v k).2 K → (∀ q, a + K ≤ q → q < M → h q = 0) → AllW D L f1 o r N (va_up v i ((v i).1, h)) → (∀ q, q ≠ o i → q ≠ r i → f1 q = f q) → hw_I D t0 (hw_A L s.heap.size) s L f1 H locs → lv_has ls 12 [(4, .int (nI a)), (3, .int (nI M)), (0, .ref (o i)), (1, .ref (o j)), (2, .ref (o k))] → W p l e (headSpec (Cond.code y_Wh_becomeProduct b_Wh_becomeProduct 12 none :: TT) ({ frames := 7, cells := 0, slots := 0, locals := 130 } : Room)).room s m ([.ref (o i), .ref (o j), .ref (o k)]).toArray below meth c H locs 0 0 (MQ below (hw_Q D L s.heap.size (fun oc L' f' => oc = .returned none ∧ L = L' ∧ AllN D L f' o r N (va_up x i (x j * x k)) ∧ ∀ q, q ≠ o i → q ≠ r i → f' q = f q)) ([.ref (o i), .ref (o j), .ref (o k)]).toArray s 0 0 (hw_A L s.heap.size)) (F0 m 40 ls []) := by
    intro g
    induction g with
    | zero =>
      intro a h f1 H locs ls hag hB hS hz hV hF hI hl
      refine lv_iload hx hb d_Wh_becomeProduct_40 (lv_at hl 0 rfl) ?_
      refine lv_aload_n hx hb d_Wh_becomeProduct_42 rfl (lv_at hl 3 rfl) ?_
      refine wh_size S hI hV hj d_Wh_becomeProduct_43 ?_
      refine hw_ti (show _ = nI J from by rw [ej, hJ]) ?_
      refine hw_icmp_ge (tgt := 152) hx hb d_Wh_becomeProduct_46 (by decide) (by omega) (by omega) (fun c15 => ?_) (fun c15 => ?_)
      · refine lv_aload_n hx hb d_Wh_becomeProduct_152 rfl (lv_at hl 2 rfl) ?_
        refine lv_iload_n hx hb d_Wh_becomeProduct_153 rfl (lv_at hl 1 rfl) ?_
        have haJ : a = J := by omega
        refine hw_cV (As := [.int (nI M)]) (rest := []) S hI m_Wh_settle w_389 (c_Wh_settle l D t0 L _ _ o r N (va_up v i ((v i).1, h)) i M hi hY hV (by omega) (by rw [hw_up_eq]; exact hB)) (hV _ hi).1 rfl hl.1 rfl rfl (Nat.le_of_ble_eq_true rfl) d_Wh_becomeProduct_154 ⟨Nat.le_of_ble_eq_true rfl, Nat.le_of_ble_eq_true rfl⟩ ⟨Nat.le_of_ble_eq_true rfl, Nat.le_of_ble_eq_true rfl⟩ (fun v9 L9 f16 H locs hp hI => ?_)
        refine W.cs (cells' := 0) (slots' := 0) rfl rfl ?_
        obtain ⟨hv9, rfl, n9, hn9, hk9, hV, hF9⟩ := hp
        cases hv9
        refine hw_stk (st' := []) rfl ?_
        rw [hw_up_eq] at hk9
        have hV : AllW D L f16 o r N (va_up v i (n9, h)) := by simpa only [hw_up_eq, bx_uu] using hV
        have hval : nvb nB h M = x j * x k := by rw [← (hO j hj).2.2.2, ← (hO k hk).2.2.2, ← hJ, ← hK, hM, ← haJ]; exact hS
        exact hw_vret hx hb hr hlocks hI d_Wh_becomeProduct_157 ⟨rfl, rfl, AllN.mk hO hV (by omega) (by rw [← hval]; exact hk9), fun q h1 h2 => (hF9 q h1).trans (hF q h1 h2)⟩
      · exact absurd c15 (by omega)
    | succ g ih =>
      intro a h f1 H locs ls hag hB hS hz hV hF hI hl
      refine lv_iload hx hb d_Wh_becomeProduct_40 (lv_at hl 0 rfl) ?_
      refine lv_aload_n hx hb d_Wh_becomeProduct_42 rfl (lv_at hl 3 rfl) ?_
      refine wh_size S hI hV hj d_Wh_becomeProduct_43 ?_
      refine hw_ti (show _ = nI J from by rw [ej, hJ]) ?_
      refine hw_icmp_ge (tgt := 152) hx hb d_Wh_becomeProduct_46 (by decide) (by omega) (by omega) (fun c17 => ?_) (fun c17 => ?_)
      · exact absurd c17 (by omega)
      · refine lv_aload_n hx hb d_Wh_becomeProduct_49 rfl (lv_at hl 3 rfl) ?_
        refine wh_limbs S hI hV hj d_Wh_becomeProduct_50 ?_
        refine lv_iload hx hb d_Wh_becomeProduct_53 (lv_at hl 0 rfl) ?_
        refine wh_ld S hI hV hj (by omega) d_Wh_becomeProduct_55 ?_
        refine hw_tl (show _ = lN ((v j).2 a) from by rw [ej]) ?_
        refine lv_lstore (lv' := [(5, .long (lN ((v j).2 a))), (4, .int (nI a)), (3, .int (nI M)), (0, .ref (o i)), (1, .ref (o j)), (2, .ref (o k))]) hx hb d_Wh_becomeProduct_56 hl (by decide) rfl (fun ls hl => ?_)
        refine lv_lconst (v := lN 0) hx hb d_Wh_becomeProduct_58 rfl ?_
        refine lv_lstore (lv' := [(7, .long (lN 0)), (5, .long (lN ((v j).2 a))), (4, .int (nI a)), (3, .int (nI M)), (0, .ref (o i)), (1, .ref (o j)), (2, .ref (o k))]) hx hb d_Wh_becomeProduct_59 hl (by decide) rfl (fun ls hl => ?_)
        refine lv_iconst (v := nI 0) hx hb d_Wh_becomeProduct_61 (by decide) ?_
        refine lv_istore (lv' := [(9, .int (nI 0)), (7, .long (lN 0)), (5, .long (lN ((v j).2 a))), (4, .int (nI a)), (3, .int (nI M)), (0, .ref (o i)), (1, .ref (o j)), (2, .ref (o k))]) hx hb d_Wh_becomeProduct_62 hl (by decide) rfl (fun ls hl => ?_)
        have hfa := (hO j hj).2.1 a
        have inner : ∀ (g2 t cr : Nat) (h2 : Nat → Nat) (f1 : Nat → va_E) (H : Heap) (locs : List Loc) (ls : Array Slot), t + g2 = K → cr < nB → (∀ q, h2 q < nB) → (∀ q, q < a → h2 q = h q) → (∀ q, a + t ≤ q → h2 q = h q) → nvb nB (nsh h2 a) t + cr * nB ^ t = nvb nB (nsh h a) t + (v j).2 a * nvb nB (v k).2 t → AllW D L f1 o r N (va_up v i ((v i).1, h2)) → (∀ q, q ≠ o i → q ≠ r i → f1 q = f q) → hw_I D t0 (hw_A L s.heap.size) s L f1 H locs → lv_has ls 12 [(9, .int (nI t)), (7, .long (lN cr)), (5, .long (lN ((v j).2 a))), (4, .int (nI a)), (3, .int (nI M)), (0, .ref (o i)), (1, .ref (o j)), (2, .ref (o k))] → W p l e (headSpec (Cond.code y_Wh_becomeProduct b_Wh_becomeProduct 12 none :: TT) ({ frames := 7, cells := 0, slots := 0, locals := 130 } : Room)).room s m ([.ref (o i), .ref (o j), .ref (o k)]).toArray below meth c H locs 0 0 (MQ below (hw_Q D L s.heap.size (fun oc L' f' => oc = .returned none ∧ L = L' ∧ AllN D L f' o r N (va_up x i (x j * x k)) ∧ ∀ q, q ≠ o i → q ≠ r i → f' q = f q)) ([.ref (o i), .ref (o j), .ref (o k)]).toArray s 0 0 (hw_A L s.heap.size)) (F0 m 64 ls []) := by
          intro g2
          induction g2 with
          | zero =>
            intro t cr h2 f1 H locs ls htg hcr hB2 hlo hhi hS2 hV hF hI hl
            refine lv_iload hx hb d_Wh_becomeProduct_64 (lv_at hl 0 rfl) ?_
            refine lv_aload_n hx hb d_Wh_becomeProduct_66 rfl (lv_at hl 7 rfl) ?_
            refine wh_size S hI hV hk d_Wh_becomeProduct_67 ?_
            refine hw_ti (show _ = nI K from by rw [ek, hK]) ?_
            refine hw_icmp_ge (tgt := 132) hx hb d_Wh_becomeProduct_70 (by decide) (by omega) (by omega) (fun c18 => ?_) (fun c18 => ?_)
            · have htK : t = K := by omega
              refine lv_aload_n hx hb d_Wh_becomeProduct_132 rfl (lv_at hl 5 rfl) ?_
              refine wh_limbs S hI hV hi d_Wh_becomeProduct_133 ?_
              refine lv_iload hx hb d_Wh_becomeProduct_136 (lv_at hl 3 rfl) ?_
              refine lv_aload_n hx hb d_Wh_becomeProduct_138 rfl (lv_at hl 7 rfl) ?_
              refine wh_size S hI hV hk d_Wh_becomeProduct_139 ?_
              refine hw_ti (show _ = nI K from by rw [ek, hK]) ?_
              refine lv_iadd hx hb d_Wh_becomeProduct_142 ?_
              refine hw_ti (nI_add _ _) ?_
              refine lv_lload hx hb d_Wh_becomeProduct_143 (lv_at hl 1 rfl) ?_
              refine wh_st S hI hV hY hi (by omega) d_Wh_becomeProduct_145 (fun f19 H locs hI hV hf19 => ?_)
              have hF := fun q (h1 : q ≠ o i) (h2 : q ≠ r i) => (hf19 q h2).trans (hF q h1 h2)
              have hV : AllW D L f19 o r N (va_up v i ((v i).1, va_up h2 (a + K) cr)) := by simpa only [hw_up_eq, bx_uu] using hV
              refine lv_iinc (v := nI (a + 1)) (lv' := [(4, .int (nI (a + 1))), (9, .int (nI t)), (7, .long (lN cr)), (5, .long (lN ((v j).2 a))), (3, .int (nI M)), (0, .ref (o i)), (1, .ref (o j)), (2, .ref (o k))]) hx hb d_Wh_becomeProduct_146 hl (k := 3) rfl (nI_1 _) (by decide) rfl (fun ls hl => ?_)
              refine lv_goto (tgt := 40) hx hb d_Wh_becomeProduct_149 (by decide) ?_
              rw [htK] at hS2 hhi
              exact ih (a + 1) (va_up h2 (a + K) cr) _ _ _ _ (by omega) (fun q => by by_cases e9 : q = a + K; (rw [e9, hw_up_eq]; exact hcr); (rw [hw_up_ne e9]; exact hB2 q)) (prod_step hlo hS2 hS) (fun q h1 h2 => by rw [hw_up_ne (by omega), hhi q (by omega)]; exact hz q (by omega) h2) hV hF hI (lv_sub hl [0, 4, 5, 6, 7] rfl)
            · exact absurd c18 (by omega)
          | succ g2 ih2 =>
            intro t cr h2 f1 H locs ls htg hcr hB2 hlo hhi hS2 hV hF hI hl
            refine lv_iload hx hb d_Wh_becomeProduct_64 (lv_at hl 0 rfl) ?_
            refine lv_aload_n hx hb d_Wh_becomeProduct_66 rfl (lv_at hl 7 rfl) ?_
            refine wh_size S hI hV hk d_Wh_becomeProduct_67 ?_
            refine hw_ti (show _ = nI K from by rw [ek, hK]) ?_
            refine hw_icmp_ge (tgt := 132) hx hb d_Wh_becomeProduct_70 (by decide) (by omega) (by omega) (fun c20 => ?_) (fun c20 => ?_)
            · exact absurd c20 (by omega)
            · have hkt := (hO k hk).2.1 t
              have hpl := prod_lt hfa hkt (hB2 (a + t)) hcr
              have hnn : nB * nB = 1000000000000000000 := rfl
              have hq : (h2 (a + t) + (v j).2 a * (v k).2 t + cr) / nB < nB := (Nat.div_lt_iff_lt_mul nB_pos).mpr hpl
              have hdm := Nat.div_add_mod (h2 (a + t) + (v j).2 a * (v k).2 t + cr) nB
              have hml9 := Nat.mod_lt (h2 (a + t) + (v j).2 a * (v k).2 t + cr) nB_pos
              rw [Nat.mul_comm] at hdm
              refine lv_aload_n hx hb d_Wh_becomeProduct_73 rfl (lv_at hl 5 rfl) ?_
              refine wh_limbs S hI hV hi d_Wh_becomeProduct_74 ?_
              refine lv_iload hx hb d_Wh_becomeProduct_77 (lv_at hl 3 rfl) ?_
              refine lv_iload hx hb d_Wh_becomeProduct_79 (lv_at hl 0 rfl) ?_
              refine lv_iadd hx hb d_Wh_becomeProduct_81 ?_
              refine hw_ti (nI_add _ _) ?_
              refine wh_ld S hI hV hi (by omega) d_Wh_becomeProduct_82 ?_
              refine hw_tl (show _ = lN (h2 (a + t)) from by rw [hw_up_eq]) ?_
              refine lv_lload hx hb d_Wh_becomeProduct_83 (lv_at hl 2 rfl) ?_
              refine lv_aload_n hx hb d_Wh_becomeProduct_85 rfl (lv_at hl 7 rfl) ?_
              refine wh_limbs S hI hV hk d_Wh_becomeProduct_86 ?_
              refine lv_iload hx hb d_Wh_becomeProduct_89 (lv_at hl 0 rfl) ?_
              refine wh_ld S hI hV hk (by omega) d_Wh_becomeProduct_91 ?_
              refine hw_tl (show _ = lN ((v k).2 t) from by rw [ek]) ?_
              refine lv_lmul hx hb d_Wh_becomeProduct_92 ?_
              refine hw_tl (lN_mul _ _) ?_
              refine lv_ladd hx hb d_Wh_becomeProduct_93 ?_
              refine hw_tl (lN_add _ _) ?_
              refine lv_lload hx hb d_Wh_becomeProduct_94 (lv_at hl 1 rfl) ?_
              refine lv_ladd hx hb d_Wh_becomeProduct_96 ?_
              refine hw_tl (lN_add _ _) ?_
              refine lv_lstore (lv' := [(10, .long (lN (((h2 (a + t)) + (((v j).2 a) * ((v k).2 t))) + cr))), (9, .int (nI t)), (7, .long (lN cr)), (5, .long (lN ((v j).2 a))), (4, .int (nI a)), (3, .int (nI M)), (0, .ref (o i)), (1, .ref (o j)), (2, .ref (o k))]) hx hb d_Wh_becomeProduct_97 hl (by decide) rfl (fun ls hl => ?_)
              refine lv_lload hx hb d_Wh_becomeProduct_99 (lv_at hl 0 rfl) ?_
              refine hw_ldc2 (v := lN nB) hx hb hown (hT _ w_56) d_Wh_becomeProduct_101 ?_
              refine lv_ldiv hx hb d_Wh_becomeProduct_104 (by intro h9; have h8 := (pk_lEQ (b := 0) (by omega) (by decide)).mp h9; omega) ?_
              refine hw_tl (pk_lDiv (by omega) (by omega) (by omega)) ?_
              refine lv_lstore (lv' := [(7, .long (lN ((((h2 (a + t)) + (((v j).2 a) * ((v k).2 t))) + cr) / nB))), (10, .long (lN (((h2 (a + t)) + (((v j).2 a) * ((v k).2 t))) + cr))), (9, .int (nI t)), (5, .long (lN ((v j).2 a))), (4, .int (nI a)), (3, .int (nI M)), (0, .ref (o i)), (1, .ref (o j)), (2, .ref (o k))]) hx hb d_Wh_becomeProduct_105 hl (by decide) rfl (fun ls hl => ?_)
              refine lv_aload_n hx hb d_Wh_becomeProduct_107 rfl (lv_at hl 6 rfl) ?_
              refine wh_limbs S hI hV hi d_Wh_becomeProduct_108 ?_
              refine lv_iload hx hb d_Wh_becomeProduct_111 (lv_at hl 4 rfl) ?_
              refine lv_iload hx hb d_Wh_becomeProduct_113 (lv_at hl 2 rfl) ?_
              refine lv_iadd hx hb d_Wh_becomeProduct_115 ?_
              refine hw_ti (nI_add _ _) ?_
              refine lv_lload hx hb d_Wh_becomeProduct_116 (lv_at hl 1 rfl) ?_
              refine lv_lload hx hb d_Wh_becomeProduct_118 (lv_at hl 0 rfl) ?_
              refine hw_ldc2 (v := lN nB) hx hb hown (hT _ w_56) d_Wh_becomeProduct_120 ?_
              refine lv_lmul hx hb d_Wh_becomeProduct_123 ?_
              refine hw_tl (lN_mul _ _) ?_
              refine lv_lsub hx hb d_Wh_becomeProduct_124 ?_
              refine hw_tl (lN_sub (by omega)) ?_
              refine wh_st S hI hV hY hi (by omega) d_Wh_becomeProduct_125 (fun f21 H locs hI hV hf21 => ?_)
              have hF := fun q (h1 : q ≠ o i) (h2 : q ≠ r i) => (hf21 q h2).trans (hF q h1 h2)
              have hV : AllW D L f21 o r N (va_up v i ((v i).1, va_up h2 (a + t) (h2 (a + t) + (v j).2 a * (v k).2 t + cr - (h2 (a + t) + (v j).2 a * (v k).2 t + cr) / nB * nB))) := by simpa only [hw_up_eq, bx_uu] using hV
              refine lv_iinc (v := nI (t + 1)) (lv' := [(9, .int (nI (t + 1))), (7, .long (lN ((((h2 (a + t)) + (((v j).2 a) * ((v k).2 t))) + cr) / nB))), (10, .long (lN (((h2 (a + t)) + (((v j).2 a) * ((v k).2 t))) + cr))), (5, .long (lN ((v j).2 a))), (4, .int (nI a)), (3, .int (nI M)), (0, .ref (o i)), (1, .ref (o j)), (2, .ref (o k))]) hx hb d_Wh_becomeProduct_126 hl (k := 2) rfl (nI_1 _) (by decide) rfl (fun ls hl => ?_)
              refine lv_goto (tgt := 64) hx hb d_Wh_becomeProduct_129 (by decide) ?_
              have hat := hhi (a + t) (Nat.le_refl _)
              exact ih2 (t + 1) ((h2 (a + t) + (v j).2 a * (v k).2 t + cr) / nB) (va_up h2 (a + t) (h2 (a + t) + (v j).2 a * (v k).2 t + cr - (h2 (a + t) + (v j).2 a * (v k).2 t + cr) / nB * nB)) _ _ _ _ (by omega) hq (fun q => by by_cases e9 : q = a + t; (rw [e9, hw_up_eq]; omega); (rw [hw_up_ne e9]; exact hB2 q)) (fun q hq => by rw [hw_up_ne (by omega)]; exact hlo q hq) (fun q hq => by rw [hw_up_ne (by omega)]; exact hhi q (by omega)) (by rw [nsh_up, nvb_digit (w := h2 (a + t) + (v j).2 a * (v k).2 t) hS2 (by omega), nvb_succ, nvb_succ, hat]; unfold nsh; grind) hV hF hI (lv_sub hl [0, 1, 3, 4, 5, 6, 7, 8] rfl)
        exact inner K 0 0 h _ _ _ _ (by omega) nB_pos hB (fun _ _ => rfl) (fun _ _ => rfl) (by simp [nvb_zero]) hV hF hI hl
  have loop : ∀ (g t : Nat) (h : Nat → Nat) (f1 : Nat → va_E) (H : Heap) (locs : List Loc) (ls : Array Slot), t + g = M → (∀ q, h q < nB) → (∀ q, q < t → h q = 0) → AllW D L f1 o r N (va_up v i ((v i).1, h)) → (∀ q, q ≠ o i → q ≠ r i → f1 q = f q) → hw_I D t0 (hw_A L s.heap.size) s L f1 H locs → lv_has ls 12 [(4, .int (nI t)), (3, .int (nI M)), (0, .ref (o i)), (1, .ref (o j)), (2, .ref (o k))] → W p l e (headSpec (Cond.code y_Wh_becomeProduct b_Wh_becomeProduct 12 none :: TT) ({ frames := 7, cells := 0, slots := 0, locals := 130 } : Room)).room s m ([.ref (o i), .ref (o j), .ref (o k)]).toArray below meth c H locs 0 0 (MQ below (hw_Q D L s.heap.size (fun oc L' f' => oc = .returned none ∧ L = L' ∧ AllN D L f' o r N (va_up x i (x j * x k)) ∧ ∀ q, q ≠ o i → q ≠ r i → f' q = f q)) ([.ref (o i), .ref (o j), .ref (o k)]).toArray s 0 0 (hw_A L s.heap.size)) (F0 m 17 ls []) := by
    intro g
    induction g with
    | zero =>
      intro t h f1 H locs ls htg hB hz hV hF hI hl
      refine lv_iload hx hb d_Wh_becomeProduct_17 (lv_at hl 0 rfl) ?_
      refine lv_iload_n hx hb d_Wh_becomeProduct_19 rfl (lv_at hl 1 rfl) ?_
      refine hw_icmp_ge (tgt := 37) hx hb d_Wh_becomeProduct_20 (by decide) (by omega) (by omega) (fun c22 => ?_) (fun c22 => ?_)
      · refine lv_iconst (v := nI 0) hx hb d_Wh_becomeProduct_37 (by decide) ?_
        refine lv_istore (lv' := [(4, .int (nI 0)), (3, .int (nI M)), (0, .ref (o i)), (1, .ref (o j)), (2, .ref (o k))]) hx hb d_Wh_becomeProduct_38 hl (by decide) rfl (fun ls hl => ?_)
        exact outer J 0 h _ _ _ _ (by omega) hB (by rw [nvb_zero, Nat.zero_mul, nvb_zeros (n := 0) (Nat.zero_le _) (fun q _ hq => hz q (by omega)), nvb_zero]) (fun q _ hq => hz q (by omega)) hV hF hI hl
      · exact absurd c22 (by omega)
    | succ g ih =>
      intro t h f1 H locs ls htg hB hz hV hF hI hl
      refine lv_iload hx hb d_Wh_becomeProduct_17 (lv_at hl 0 rfl) ?_
      refine lv_iload_n hx hb d_Wh_becomeProduct_19 rfl (lv_at hl 1 rfl) ?_
      refine hw_icmp_ge (tgt := 37) hx hb d_Wh_becomeProduct_20 (by decide) (by omega) (by omega) (fun c23 => ?_) (fun c23 => ?_)
      · exact absurd c23 (by omega)
      · refine lv_aload_n hx hb d_Wh_becomeProduct_23 rfl (lv_at hl 2 rfl) ?_
        refine wh_limbs S hI hV hi d_Wh_becomeProduct_24 ?_
        refine lv_iload hx hb d_Wh_becomeProduct_27 (lv_at hl 0 rfl) ?_
        refine lv_lconst (v := lN 0) hx hb d_Wh_becomeProduct_29 rfl ?_
        refine wh_st S hI hV hY hi (by omega) d_Wh_becomeProduct_30 (fun f24 H locs hI hV hf24 => ?_)
        have hF := fun q (h1 : q ≠ o i) (h2 : q ≠ r i) => (hf24 q h2).trans (hF q h1 h2)
        have hV : AllW D L f24 o r N (va_up v i ((v i).1, va_up h t 0)) := by simpa only [hw_up_eq, bx_uu] using hV
        refine lv_iinc (v := nI (t + 1)) (lv' := [(4, .int (nI (t + 1))), (3, .int (nI M)), (0, .ref (o i)), (1, .ref (o j)), (2, .ref (o k))]) hx hb d_Wh_becomeProduct_31 hl (k := 0) rfl (nI_1 _) (by decide) rfl (fun ls hl => ?_)
        refine lv_goto (tgt := 17) hx hb d_Wh_becomeProduct_34 (by decide) ?_
        exact ih (t + 1) (va_up h t 0) _ _ _ _ (by omega) (fun q => by by_cases e9 : q = t; (subst e9; rw [hw_up_eq]; exact nB_pos); (rw [hw_up_ne e9]; exact hB q)) (fun q hq => by by_cases e9 : q = t; (subst e9; rw [hw_up_eq]); (rw [hw_up_ne e9]; exact hz q (by omega))) hV hF hI hl
  refine lv_iconst (v := nI 0) hx hb d_Wh_becomeProduct_14 (by decide) ?_
  refine lv_istore (lv' := [(4, .int (nI 0)), (3, .int (nI M)), (0, .ref (o i)), (1, .ref (o j)), (2, .ref (o k))]) hx hb d_Wh_becomeProduct_15 hl (by decide) rfl (fun ls hl => ?_)
  exact loop M 0 (v i).2 _ _ _ _ (by omega) (hO i hi).2.1 (fun q hq => absurd hq (by omega)) (fun z hz => by by_cases e9 : z = i; (subst e9; rw [hw_up_eq]; exact hV z hz); (rw [hw_up_ne e9]; exact hV z hz)) (fun _ _ _ => rfl) hI hl

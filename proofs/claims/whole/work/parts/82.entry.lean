/-! the world at the law's entry -/
theorem st_R {own tx : String} {k : Nat} {args : Array Value} {s : State} (h : (Cond.stringRef own k tx).before args s = true) : ∃ sa, vk_R own k tx sa s := by
  have hcur : ∃ cur, s.vm.findClass own = some cur := by
    have h1 := h
    simp only [Cond.before, Cond.holds, Cond.value] at h1
    cases hc : s.vm.findClass own with
    | none => simp [hc] at h1
    | some cur => exact ⟨cur, rfl⟩
  obtain ⟨cur, hcur⟩ := hcur
  obtain ⟨-, -, -, sa, -, -, -, -, -, hev⟩ := Cond.stringRef_spec hcur h
  exact ⟨sa, vk_R.of h hev⟩
theorem en_arr {ty : FieldType} {args : Array Value} {s : State} (h : (Cond.arrayClass ty).before args s = true) : ∃ cA, ArrOfT s cA ty ∧ s.vm.findClass ("[" ++ ty.toString) = some cA := by
  obtain ⟨c, k, comp, h1, h2, h3⟩ := Cond.arrayClass_spec h
  exact ⟨c, fun n z => ⟨(fun k h => by cases h), k, h2, comp, h3⟩, h1⟩
theorem en_NF : ∀ q ∈ NF, Cond.fieldLinkNest q.1 q.2.1 q.2.2.1 q.2.2.2.1 q.2.2.2.2 "WallFractions" ∈ lw_tbl := by decide +kernel
theorem en_NM : ∀ q ∈ NM, Cond.methodLinkNest q.1 q.2.1 q.2.2 "WallFractions" ∈ lw_tbl := by decide +kernel
theorem en_ST : ∀ q ∈ ST, Cond.stringRef q.1 q.2.1 q.2.2 ∈ lw_tbl := by decide +kernel
theorem en_FW : ∀ w ∈ FW, w ∈ lw_tbl := by decide +kernel
theorem en_AO : Cond.arrayOver (.object "WallFractions$Fraction") ∈ lw_tbl := by decide +kernel
theorem en_L1 : Cond.laysStatic "WallFractions" "TENS" "[J" ∈ lw_tbl := by decide +kernel
theorem en_L2 : Cond.laysStatic Bundle.tN "UNASSIGNED_STACK" Bundle.steD ∈ lw_tbl := by decide +kernel
theorem en_L3 : Cond.laysStatic Bundle.tN "SUPPRESSED_SENTINEL" Bundle.listD ∈ lw_tbl := by decide +kernel
set_option maxHeartbeats 4000000 in
set_option maxRecDepth 100000 in
theorem hw_entry {s : State} {b : Addr} (hts : ∀ w ∈ lw_tbl, w.before #[Value.ref b] s = true) (hgv : (Jvm.Cond.and given_1 narrow_1).before #[Value.ref b] s = true) (f : Nat → va_E) : ∃ (D : va_G) (t0 : Nat), hw_I D t0 (hw_A [] s.heap.size) s [] f s.heap [] := by
  have hs := flat_of_before _ hgv
  have hA : ∀ a : Nat, a < s.heap.size → ¬ hw_A [] s.heap.size a := fun a ha h => h.elim (fun q => absurd q List.not_mem_nil) (fun q => by omega)
  have hT : ∀ w ∈ TT, w.before #[Value.ref b] s = true := fun w h => hts w (List.mem_filter.mp h).1
  obtain ⟨c0, i0, k0⟩ := u_known (C := R_Dv) (T := F_Dv) (N := 2) (n := 2) hT i_Dv (hT _ w_74)
  obtain ⟨c1, i1, k1⟩ := u_known (C := R_Fr) (T := F_Fr) (N := 3) (n := 3) hT i_Fr (hT _ w_28)
  obtain ⟨c2, i2, k2⟩ := u_known (C := R_Ms) (T := F_Ms) (N := 9) (n := 9) hT i_Ms (hT _ w_93)
  obtain ⟨c3, i3, k3⟩ := u_known (C := R_Rk) (T := F_Rk) (N := 7) (n := 7) hT i_Rk (hT _ w_87)
  obtain ⟨c4, i4, k4⟩ := u_known (C := R_Sh) (T := F_Sh) (N := 7) (n := 7) hT i_Sh (hT _ w_156)
  obtain ⟨c5, i5, k5⟩ := u_known (C := R_Wh) (T := F_Wh) (N := 2) (n := 2) hT i_Wh (hT _ w_34)
  obtain ⟨c6, i6, k6⟩ := u_known (C := R_Wf) (T := F_Wf) (N := 3) (n := 3) hT i_Wf (hT _ w_19)
  obtain ⟨c7, i7, k7⟩ := u_known (C := R_Mo) (T := F_Mo) (N := 6) (n := 6) hT i_Mo (hT _ w_761)
  obtain ⟨cL, hL1, hL2⟩ := en_arr (hT _ w_51)
  obtain ⟨cI, hI1, hI2⟩ := en_arr (hT _ w_185)
  have hao := hts _ en_AO
  obtain ⟨comp, cF, kF, f1, f2, f3, f4, f5⟩ := Cond.arrayOver_spec hao
  obtain ⟨D, hD⟩ : ∃ D : va_G, (∀ (k : Nat) (q : vw_C), classes[k]? = some q → u_Kn s q.1 q.2.1 q.2.2 (D.1 k) (D.2 k)) ∧ D.1 100 = cL ∧ D.1 101 = cI ∧ D.1 102 = cF := by
    refine ⟨(fun k => if k = 0 then c0 else if k = 1 then c1 else if k = 2 then c2 else if k = 3 then c3 else if k = 4 then c4 else if k = 5 then c5 else if k = 6 then c6 else if k = 7 then c7 else if k = 100 then cL else if k = 101 then cI else cF, fun k => if k = 0 then i0 else if k = 1 then i1 else if k = 2 then i2 else if k = 3 then i3 else if k = 4 then i4 else if k = 5 then i5 else if k = 6 then i6 else i7), ?_, rfl, rfl, rfl⟩
    intro k q hq
    match k, hq with
    | 0, hq => cases hq; exact k0
    | 1, hq => cases hq; exact k1
    | 2, hq => cases hq; exact k2
    | 3, hq => cases hq; exact k3
    | 4, hq => cases hq; exact k4
    | 5, hq => cases hq; exact k5
    | 6, hq => cases hq; exact k6
    | 7, hq => cases hq; exact k7
    | k + 8, hq => simp [classes] at hq
  obtain ⟨hKc, e1, e2, e3⟩ := hD
  have hK : va_K D classes (tyD D) s := by
    refine ⟨hKc, fun k q hk => ?_⟩
    match k, hk with
    | 0, hk => cases hk; rw [e1]; exact ⟨hL1, hL2⟩
    | 1, hk => cases hk; rw [e2]; exact ⟨hI1, hI2⟩
    | 2, hk => cases hk; rw [e3]; exact ⟨fun N z => ⟨(fun k h => by cases h), kF, f3, comp, f4⟩, kF, comp, f3, f4, f1, f5⟩
    | k + 3, hk => simp [tyD] at hk
  obtain ⟨t0, ht, hTT⟩ := va_Tof (tm := .static "WallFractions" "TENS" "[J") (ty := .long) (N := 10) (f := fun j => .long (lN (10 ^ j))) (A := hw_A [] s.heap.size) (by decide) (hs _ (by decide +kernel)) (va_eqt (hs (.eq (.length (.static "WallFractions" "TENS" "[J")) (.int 10)) (by decide +kernel))) (fun j hj => by
    rcases (show j = 0 ∨ j = 1 ∨ j = 2 ∨ j = 3 ∨ j = 4 ∨ j = 5 ∨ j = 6 ∨ j = 7 ∨ j = 8 ∨ j = 9 by omega) with rfl | rfl | rfl | rfl | rfl | rfl | rfl | rfl | rfl | rfl
    · exact va_eqtl (hs (.eq (.elem (.static "WallFractions" "TENS" "[J") (.int 0)) (.long 1)) (by decide +kernel))
    · exact va_eqtl (hs (.eq (.elem (.static "WallFractions" "TENS" "[J") (.int 1)) (.long 10)) (by decide +kernel))
    · exact va_eqtl (hs (.eq (.elem (.static "WallFractions" "TENS" "[J") (.int 2)) (.long 100)) (by decide +kernel))
    · exact va_eqtl (hs (.eq (.elem (.static "WallFractions" "TENS" "[J") (.int 3)) (.long 1000)) (by decide +kernel))
    · exact va_eqtl (hs (.eq (.elem (.static "WallFractions" "TENS" "[J") (.int 4)) (.long 10000)) (by decide +kernel))
    · exact va_eqtl (hs (.eq (.elem (.static "WallFractions" "TENS" "[J") (.int 5)) (.long 100000)) (by decide +kernel))
    · exact va_eqtl (hs (.eq (.elem (.static "WallFractions" "TENS" "[J") (.int 6)) (.long 1000000)) (by decide +kernel))
    · exact va_eqtl (hs (.eq (.elem (.static "WallFractions" "TENS" "[J") (.int 7)) (.long 10000000)) (by decide +kernel))
    · exact va_eqtl (hs (.eq (.elem (.static "WallFractions" "TENS" "[J") (.int 8)) (.long 100000000)) (by decide +kernel))
    · exact va_eqtl (hs (.eq (.elem (.static "WallFractions" "TENS" "[J") (.int 9)) (.long 1000000000)) (by decide +kernel))) hA
  have hZ : va_Z "WallFractions" "TENS" "[J" (.ref t0) (hw_A [] s.heap.size) s s.heap := va_Zof (hts _ en_L1) (hT _ w_1) ht hA
  refine ⟨D, t0, fun k q h => by simp [va_pl] at h, ⟨fun i j p q h => by simp [va_pl] at h, fun k q h => by simp [va_pl] at h⟩, va_S.rf, fun q h => Or.inr h, hK, fun q hq => va_Nw.of rfl (hts _ (en_NF q hq)), fun q hq => va_Nw.of rfl (hts _ (en_NM q hq)), fun q hq => st_R (hts _ (en_ST q hq)), hZ, hTT, vx_Zqof (hts _ en_L2) (hT _ w_9) (hs _ (by decide +kernel)) hA, vx_Zqof (hts _ en_L3) (hT _ w_9) (hs _ (by decide +kernel)) hA, fun w hw => vx_ot_at (State.WarmedH.refl s) rfl (FW_ok w hw).1 (hts w (en_FW w hw)), fun q hq => ?_, va_AO.of hao⟩
  have key : ∀ q ∈ NC, va_Nc q.1 q.2 s := List.forall_mem_cons.mpr ⟨va_Nc.of (hs (.not (.castable "java/lang/ArithmeticException" "java/lang/IllegalArgumentException")) (by decide +kernel)), List.forall_mem_cons.mpr ⟨va_Nc.of (hs (.not (.castable "java/lang/IllegalStateException" "java/lang/IllegalArgumentException")) (by decide +kernel)), List.forall_mem_cons.mpr ⟨va_Nc.of (hs (.not (.castable "java/lang/IndexOutOfBoundsException" "java/lang/IllegalArgumentException")) (by decide +kernel)), List.forall_mem_cons.mpr ⟨va_Nc.of (hs (.not (.castable "java/lang/IllegalStateException" "java/lang/ArithmeticException")) (by decide +kernel)), fun _ h => absurd h List.not_mem_nil⟩⟩⟩⟩
  exact key q hq

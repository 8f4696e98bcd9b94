set_option maxHeartbeats 4000000 in
set_option maxRecDepth 100000 in
/-- limb k, or 0 -/
theorem c_Wh_limbAt (l : Launch) (D : va_G) (t0 : Nat) (L : List Nat) (f : Nat → va_E) (sz : Nat) (o r : Nat → Nat) (N : Nat) (v : Nat → Nat × (Nat → Nat)) (i : Nat) (k : Nat) (hi : i < N) (hY : Lay o r N) (hV : AllW D L f o r N v) (hk : k < 2 ^ 31) (hn : (v i).1 ≤ 41) : Met l y_Wh_limbAt (Cond.code y_Wh_limbAt b_Wh_limbAt 2 (some .long) :: TT) ({ frames := 0, cells := 0, slots := 0, locals := 0 } : Room) (hw_Pc t0 [.ref (o i), .int (nI k)] D L f sz) (hw_Q D L sz (fun oc L' f' => oc = .returned (some (.long (lN (if k < (v i).1 then (v i).2 k else 0)))) ∧ L' = L ∧ f' = f)) 0 0 (hw_A L sz) := by
  refine Met.ofW (cc := b_Wh_limbAt) (maxL := 2) (ret := (some .long)) (by decide) rfl ?_
  intro p e s m args below meth c s₁ B hml hv
  obtain ⟨rfl, rfl, hI⟩ := hw_start hv
  have hx := B.exec
  have hb := B.bytes
  have hr := B.returns
  have hlocks := B.notSynchronized
  have hown : s.vm.findClass "WallFractions$Whole" = some m.cls := findClass_of_methodNamed B.named
  have hT : ∀ w ∈ TT, w.before ([.ref (o i), .int (nI k)]).toArray s = true := fun w h => atoms_spec (ws := (Cond.code y_Wh_limbAt b_Wh_limbAt 2 (some .long) :: TT)) B.pre w (List.mem_cons_of_mem _ h)
  have S : CallFix p m c b_Wh_limbAt 2 s ([.ref (o i), .int (nI k)]).toArray TT "WallFractions$Whole" := ⟨hx, hb, hml, hown, hT⟩
  have hl := lv_entry ([.ref (o i), .int (nI k)]) (n := 2) (Nat.le_of_ble_eq_true rfl)
  rw [lg_entry_eq]
  generalize (lg_sl ([.ref (o i), .int (nI k)]) ++ List.replicate (2 - (lg_sl ([.ref (o i), .int (nI k)])).length) Slot.unset).toArray = ls at hl ⊢
  have hl : lv_has ls 2 [(0, .ref (o i)), (1, .int (nI k))] := hl
  skip
  refine lv_iload_n hx hb d_Wh_limbAt_0 rfl (lv_at hl 1 rfl) ?_
  refine hw_if_lt (tgt := 21) hx hb d_Wh_limbAt_1 (by decide) hk ?_
  refine lv_iload_n hx hb d_Wh_limbAt_4 rfl (lv_at hl 1 rfl) ?_
  refine lv_aload_n hx hb d_Wh_limbAt_5 rfl (lv_at hl 0 rfl) ?_
  refine wh_size S hI hV hi d_Wh_limbAt_6 ?_
  refine hw_icmp_ge (tgt := 21) hx hb d_Wh_limbAt_9 (by decide) (by omega) (by omega) (fun c1 => ?_) (fun c1 => ?_)
  · refine lv_lconst (v := lN 0) hx hb d_Wh_limbAt_21 rfl ?_
    exact hw_lret hx hb hr hlocks hI d_Wh_limbAt_22 ⟨by rw [if_neg (by omega)], rfl, rfl⟩
  · refine lv_aload_n hx hb d_Wh_limbAt_12 rfl (lv_at hl 0 rfl) ?_
    refine wh_limbs S hI hV hi d_Wh_limbAt_13 ?_
    refine lv_iload_n hx hb d_Wh_limbAt_16 rfl (lv_at hl 1 rfl) ?_
    refine wh_ld S hI hV hi (by omega) d_Wh_limbAt_17 ?_
    refine lv_goto (tgt := 22) hx hb d_Wh_limbAt_18 (by decide) ?_
    exact hw_lret hx hb hr hlocks hI d_Wh_limbAt_22 ⟨by rw [if_pos (by omega)], rfl, rfl⟩

set_option maxHeartbeats 4000000 in
set_option maxRecDepth 100000 in
theorem c_Mt_max (l : Launch) (D : va_G) (t0 : Nat) (L : List Nat) (f : Nat → va_E) (sz : Nat) (a b : Nat) (ha : a < 2 ^ 31) (hb0 : b < 2 ^ 31) : Met l y_Mt_max (Cond.code y_Mt_max b_Mt_max 2 (some .int) :: TT) ({ frames := 0, cells := 0, slots := 0, locals := 0 } : Room) (hw_Pc t0 [.int (nI a), .int (nI b)] D L f sz) (hw_Q D L sz (fun oc L' f' => oc = .returned (some (.int (nI (max a b)))) ∧ L = L' ∧ f = f')) 0 0 (hw_A L sz) := by
  refine Met.ofWF (cc := b_Mt_max) (maxL := 2) (ret := (some .int)) (by decide +kernel) rfl ?_
  intro p e s m args below meth c s₁ B hml hv
  obtain ⟨rfl, rfl, hI⟩ := hw_start hv
  clear hv
  have hx := B.exec
  have hb := B.bytes
  have hr := B.returns
  have hlocks := B.notSynchronized
  have hown : s.vm.findClass "java/lang/Math" = some m.cls := findClass_of_methodNamed B.named
  have hT : ∀ w ∈ TT, w.before ([.int (nI a), .int (nI b)]).toArray s = true := fun w h => atoms_spec (ws := (Cond.code y_Mt_max b_Mt_max 2 (some .int) :: TT)) B.pre w (List.mem_cons_of_mem _ h)
  have S : CallFix p m c b_Mt_max 2 s ([.int (nI a), .int (nI b)]).toArray TT "java/lang/Math" := ⟨hx, hb, hml, hown, hT⟩
  have hl := lv_entry ([.int (nI a), .int (nI b)]) (n := 2) (Nat.le_of_ble_eq_true rfl)
  rw [lg_entry_eq]
  generalize (lg_sl ([.int (nI a), .int (nI b)]) ++ List.replicate (2 - (lg_sl ([.int (nI a), .int (nI b)])).length) Slot.unset).toArray = ls at hl ⊢
  have hl : lv_has ls 2 [(0, .int (nI a)), (1, .int (nI b))] := hl
  skip
  refine lv_iload_n hx hb d_Mt_max_0 rfl (lv_at hl 0 rfl) ?_
  refine lv_iload_n hx hb d_Mt_max_1 rfl (lv_at hl 1 rfl) ?_
  refine hw_icmp_lt (tgt := 9) hx hb d_Mt_max_2 (by decide) (by omega) (by omega) (fun c1 => ?_) (fun c1 => ?_)
  · refine lv_iload_n hx hb d_Mt_max_9 rfl (lv_at hl 1 rfl) ?_
    exact hw_iret hx hb hr hlocks hI d_Mt_max_10 ⟨by rw [Nat.max_eq_right (by omega)], rfl, rfl⟩
  · refine lv_iload_n hx hb d_Mt_max_5 rfl (lv_at hl 0 rfl) ?_
    refine lv_goto (tgt := 10) hx hb d_Mt_max_6 (by decide) ?_
    exact hw_iret hx hb hr hlocks hI d_Mt_max_10 ⟨by rw [Nat.max_eq_left (by omega)], rfl, rfl⟩
set_option maxHeartbeats 4000000 in
set_option maxRecDepth 100000 in
theorem c_Mt_min (l : Launch) (D : va_G) (t0 : Nat) (L : List Nat) (f : Nat → va_E) (sz : Nat) (a b : Int32)  : Met l y_Mt_min (Cond.code y_Mt_min b_Mt_min 2 (some .int) :: TT) ({ frames := 0, cells := 0, slots := 0, locals := 0 } : Room) (hw_Pc t0 [.int (a), .int (b)] D L f sz) (hw_Q D L sz (fun oc L' f' => oc = .returned (some (.int (if b < a then b else a))) ∧ L = L' ∧ f = f')) 0 0 (hw_A L sz) := by
  refine Met.ofWF (cc := b_Mt_min) (maxL := 2) (ret := (some .int)) (by decide +kernel) rfl ?_
  intro p e s m args below meth c s₁ B hml hv
  obtain ⟨rfl, rfl, hI⟩ := hw_start hv
  clear hv
  have hx := B.exec
  have hb := B.bytes
  have hr := B.returns
  have hlocks := B.notSynchronized
  have hown : s.vm.findClass "java/lang/Math" = some m.cls := findClass_of_methodNamed B.named
  have hT : ∀ w ∈ TT, w.before ([.int (a), .int (b)]).toArray s = true := fun w h => atoms_spec (ws := (Cond.code y_Mt_min b_Mt_min 2 (some .int) :: TT)) B.pre w (List.mem_cons_of_mem _ h)
  have S : CallFix p m c b_Mt_min 2 s ([.int (a), .int (b)]).toArray TT "java/lang/Math" := ⟨hx, hb, hml, hown, hT⟩
  have hl := lv_entry ([.int (a), .int (b)]) (n := 2) (Nat.le_of_ble_eq_true rfl)
  rw [lg_entry_eq]
  generalize (lg_sl ([.int (a), .int (b)]) ++ List.replicate (2 - (lg_sl ([.int (a), .int (b)])).length) Slot.unset).toArray = ls at hl ⊢
  have hl : lv_has ls 2 [(0, .int (a)), (1, .int (b))] := hl
  skip
  refine lv_iload_n hx hb d_Mt_min_0 rfl (lv_at hl 0 rfl) ?_
  refine lv_iload_n hx hb d_Mt_min_1 rfl (lv_at hl 1 rfl) ?_
  refine lv_icmp_gt (tgt := 9) hx hb d_Mt_min_2 (by decide) (fun c2 => ?_) (fun c2 => ?_)
  · refine lv_iload_n hx hb d_Mt_min_9 rfl (lv_at hl 1 rfl) ?_
    exact hw_iret hx hb hr hlocks hI d_Mt_min_10 ⟨by rw [if_pos c2], rfl, rfl⟩
  · refine lv_iload_n hx hb d_Mt_min_5 rfl (lv_at hl 0 rfl) ?_
    refine lv_goto (tgt := 10) hx hb d_Mt_min_6 (by decide) ?_
    exact hw_iret hx hb hr hlocks hI d_Mt_min_10 ⟨by rw [if_neg c2], rfl, rfl⟩

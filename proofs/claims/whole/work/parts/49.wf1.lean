section RGL
variable {p : Program} {l : Launch} {e : Env} {R : Room} {s : State} {m : MethodId} {args : Array Value} {below : List Frame} {meth : Method} {c : Code} {H : Heap} {locs : List Loc} {cells slots : Nat} {Q : State → Prop}
variable {cc : ByteArray} {pc nL : Nat} {ls : Array Slot} {rest : List Value} {D : va_G} {t0 : Nat} {A : Nat → Prop} {L : List Nat} {f : Nat → va_E} {own : String} {rg : Nat} {fr : Nat → Nat}
theorem rg_ld (S : CallFix p m c cc nL s args TT own) (hI : hw_I D t0 A s L f H locs) (hR : hw_c L f rg (.inl (D.1 102, 16, .inr (.inr (.inr (.inr (fun k => some (fr k)))))))) {k : Nat} (hk : k < 16) (hdg : decode cc pc = .ok (.aaload, 1))
    (kk : W p l e R s m args below meth c H locs cells slots Q (F0 m (pc + 1) ls (.ref (fr k) :: rest))) : W p l e R s m args below meth c H locs cells slots Q (F0 m pc ls (.int (nI k) :: .ref rg :: rest)) :=
  hw_aald S.1 S.2.1 hI 2 hR rfl (vp_in_nI hk (by decide)) (show some (fr (nI k).toNatClampNeg) = some (fr k) by rw [nI_clamp (by omega)]) hdg kk
end RGL
def FitX (x : Nat → Nat) : Prop := x 32 < nB ^ 20 ∧ x 33 < nB ^ 20
theorem fitX_dec {x : Nat → Nat} (h : FitX x) : decide (x (2 * 16) < nB ^ 20 ∧ x (2 * 16 + 1) < nB ^ 20) = true := decide_eq_true h
theorem fitX_dec' {x : Nat → Nat} (h : ¬ FitX x) : decide (x (2 * 16) < nB ^ 20 ∧ x (2 * 16 + 1) < nB ^ 20) = false := decide_eq_false h
set_option maxHeartbeats 4000000 in
set_option maxRecDepth 100000 in
theorem c_Wf_requireWithin_ok (l : Launch) (D : va_G) (t0 : Nat) (L : List Nat) (f : Nat → va_E) (sz : Nat) (v0 lo hi : Int64) (h1 : ¬ v0 < lo) (h2 : v0 ≤ hi) : Met l y_Wf_requireWithin (Cond.code y_Wf_requireWithin b_Wf_requireWithin 6 none :: TT) ({ frames := 6, cells := 0, slots := 0, locals := 110 } : Room) (hw_Pc t0 [.long (v0), .long (lo), .long (hi)] D L f sz) (hw_Q D L sz (fun oc L' f' => oc = .returned none ∧ L = L' ∧ f = f')) 0 0 (hw_A L sz) := by
  refine Met.ofW (cc := b_Wf_requireWithin) (maxL := 6) (ret := none) (by decide) rfl ?_
  intro p e s m args below meth c s₁ B hml hv
  obtain ⟨rfl, rfl, hI⟩ := hw_start hv
  clear hv
  have hx := B.exec
  have hb := B.bytes
  have hr := B.returns
  have hlocks := B.notSynchronized
  have hown : s.vm.findClass "WallFractions" = some m.cls := findClass_of_methodNamed B.named
  have hT : ∀ w ∈ TT, w.before ([.long (v0), .long (lo), .long (hi)]).toArray s = true := fun w h => atoms_spec (ws := (Cond.code y_Wf_requireWithin b_Wf_requireWithin 6 none :: TT)) B.pre w (List.mem_cons_of_mem _ h)
  have S : CallFix p m c b_Wf_requireWithin 6 s ([.long (v0), .long (lo), .long (hi)]).toArray TT "WallFractions" := ⟨hx, hb, hml, hown, hT⟩
  have hl := lv_entry ([.long (v0), .long (lo), .long (hi)]) (n := 6) (Nat.le_of_ble_eq_true rfl)
  rw [lg_entry_eq]
  generalize (lg_sl ([.long (v0), .long (lo), .long (hi)]) ++ List.replicate (6 - (lg_sl ([.long (v0), .long (lo), .long (hi)])).length) Slot.unset).toArray = ls at hl ⊢
  have hl : lv_has ls 6 [(0, .long (v0)), (2, .long (lo)), (4, .long (hi))] := hl
  skip
  refine lv_lload_n hx hb d_Wf_requireWithin_0 rfl (lv_at hl 0 rfl) ?_
  refine lv_lload_n hx hb d_Wf_requireWithin_1 rfl (lv_at hl 1 rfl) ?_
  refine hw_l_lt (tgt := 13) hx hb d_Wf_requireWithin_2 d_Wf_requireWithin_3 (by decide) (fun c1 => ?_) (fun c1 => ?_)
  · exact absurd c1 h1
  · refine lv_lload_n hx hb d_Wf_requireWithin_6 rfl (lv_at hl 0 rfl) ?_
    refine lv_lload hx hb d_Wf_requireWithin_7 (lv_at hl 2 rfl) ?_
    refine hw_l_le (tgt := 23) hx hb d_Wf_requireWithin_9 d_Wf_requireWithin_10 (by decide) (fun c2 => ?_) (fun c2 => ?_)
    · exact hw_vret hx hb hr hlocks hI d_Wf_requireWithin_23 ⟨rfl, rfl, rfl⟩
    · exact absurd h2 (Int64.not_le.mpr c2)
set_option maxHeartbeats 4000000 in
set_option maxRecDepth 100000 in
theorem c_Wf_requireWithin_bad (l : Launch) (hlt : l.stackTraces = false) (D : va_G) (t0 : Nat) (L : List Nat) (f : Nat → va_E) (sz : Nat) (v0 lo hi : Int64) (hbad : v0 < lo ∨ hi < v0) : vx_Met l y_Wf_requireWithin (Cond.code y_Wf_requireWithin b_Wf_requireWithin 6 none :: TT) ({ frames := 6, cells := 1, slots := 6, locals := 110 } : Room) (hw_Pc t0 [.long (v0), .long (lo), .long (hi)] D L f sz) (hw_Q D L sz (fun _ _ _ => False)) (hw_X D L sz (fun E L' f' => E = "java/lang/IllegalArgumentException" ∧ L = L' ∧ f = f')) 1 6 (hw_A L sz) := by
  refine vx_ofW (cc := b_Wf_requireWithin) (maxL := 6) (ret := none) (by decide) rfl ?_
  intro p e s m args below meth c s₁ B hml hout hv
  obtain ⟨rfl, rfl, hI⟩ := hw_start hv
  clear hv
  have hx := B.exec
  have hb := B.bytes
  have hr := B.returns
  have hlocks := B.notSynchronized
  have hown : s.vm.findClass "WallFractions" = some m.cls := findClass_of_methodNamed B.named
  have hT : ∀ w ∈ TT, w.before ([.long (v0), .long (lo), .long (hi)]).toArray s = true := fun w h => atoms_spec (ws := (Cond.code y_Wf_requireWithin b_Wf_requireWithin 6 none :: TT)) B.pre w (List.mem_cons_of_mem _ h)
  have S : CallFix p m c b_Wf_requireWithin 6 s ([.long (v0), .long (lo), .long (hi)]).toArray TT "WallFractions" := ⟨hx, hb, hml, hown, hT⟩
  have hl := lv_entry ([.long (v0), .long (lo), .long (hi)]) (n := 6) (Nat.le_of_ble_eq_true rfl)
  rw [lg_entry_eq]
  generalize (lg_sl ([.long (v0), .long (lo), .long (hi)]) ++ List.replicate (6 - (lg_sl ([.long (v0), .long (lo), .long (hi)])).length) Slot.unset).toArray = ls at hl ⊢
  have hl : lv_has ls 6 [(0, .long (v0)), (2, .long (lo)), (4, .long (hi))] := hl
  refine lv_lload_n hx hb d_Wf_requireWithin_0 rfl (lv_at hl 0 rfl) ?_
  refine lv_lload_n hx hb d_Wf_requireWithin_1 rfl (lv_at hl 1 rfl) ?_
  refine hw_l_lt (tgt := 13) hx hb d_Wf_requireWithin_2 d_Wf_requireWithin_3 (by decide) (fun c3 => ?_) (fun c3 => ?_)
  · exact hw_thr S hI hlt hout hlocks (text := "a number is out of its bounds") thr_1 (by decide) w_208 w_12 hl.1 d_Wf_requireWithin_13 d_Wf_requireWithin_16 d_Wf_requireWithin_17 d_Wf_requireWithin_19 d_Wf_requireWithin_22 (Nat.le_of_ble_eq_true rfl) (Nat.le_of_ble_eq_true rfl) ⟨Nat.le_of_ble_eq_true rfl, Nat.le_of_ble_eq_true rfl⟩ ⟨Nat.le_of_ble_eq_true rfl, Nat.le_of_ble_eq_true rfl⟩ (⟨rfl, rfl, rfl⟩)
  · refine lv_lload_n hx hb d_Wf_requireWithin_6 rfl (lv_at hl 0 rfl) ?_
    refine lv_lload hx hb d_Wf_requireWithin_7 (lv_at hl 2 rfl) ?_
    refine hw_l_le (tgt := 23) hx hb d_Wf_requireWithin_9 d_Wf_requireWithin_10 (by decide) (fun c4 => ?_) (fun c4 => ?_)
    · rcases hbad with h | h
      · exact absurd h (Int64.not_lt.mpr c3)
      · exact absurd c4 (Int64.not_le.mpr h)
    · exact hw_thr S hI hlt hout hlocks (text := "a number is out of its bounds") thr_1 (by decide) w_208 w_12 hl.1 d_Wf_requireWithin_13 d_Wf_requireWithin_16 d_Wf_requireWithin_17 d_Wf_requireWithin_19 d_Wf_requireWithin_22 (Nat.le_of_ble_eq_true rfl) (Nat.le_of_ble_eq_true rfl) ⟨Nat.le_of_ble_eq_true rfl, Nat.le_of_ble_eq_true rfl⟩ ⟨Nat.le_of_ble_eq_true rfl, Nat.le_of_ble_eq_true rfl⟩ (⟨rfl, rfl, rfl⟩)
set_option maxHeartbeats 4000000 in
set_option maxRecDepth 100000 in
theorem c_Wf_requireRegister_ok (l : Launch) (D : va_G) (t0 : Nat) (L : List Nat) (f : Nat → va_E) (sz : Nat) (j : Nat) (hj : j < 16) : Met l y_Wf_requireRegister (Cond.code y_Wf_requireRegister b_Wf_requireRegister 1 none :: TT) ({ frames := 6, cells := 0, slots := 0, locals := 110 } : Room) (hw_Pc t0 [.int (nI j)] D L f sz) (hw_Q D L sz (fun oc L' f' => oc = .returned none ∧ L = L' ∧ f = f')) 0 0 (hw_A L sz) := by
  refine Met.ofW (cc := b_Wf_requireRegister) (maxL := 1) (ret := none) (by decide) rfl ?_
  intro p e s m args below meth c s₁ B hml hv
  obtain ⟨rfl, rfl, hI⟩ := hw_start hv
  clear hv
  have hx := B.exec
  have hb := B.bytes
  have hr := B.returns
  have hlocks := B.notSynchronized
  have hown : s.vm.findClass "WallFractions" = some m.cls := findClass_of_methodNamed B.named
  have hT : ∀ w ∈ TT, w.before ([.int (nI j)]).toArray s = true := fun w h => atoms_spec (ws := (Cond.code y_Wf_requireRegister b_Wf_requireRegister 1 none :: TT)) B.pre w (List.mem_cons_of_mem _ h)
  have S : CallFix p m c b_Wf_requireRegister 1 s ([.int (nI j)]).toArray TT "WallFractions" := ⟨hx, hb, hml, hown, hT⟩
  have hl := lv_entry ([.int (nI j)]) (n := 1) (Nat.le_of_ble_eq_true rfl)
  rw [lg_entry_eq]
  generalize (lg_sl ([.int (nI j)]) ++ List.replicate (1 - (lg_sl ([.int (nI j)])).length) Slot.unset).toArray = ls at hl ⊢
  have hl : lv_has ls 1 [(0, .int (nI j))] := hl
  skip
  refine lv_iload_n hx hb d_Wf_requireRegister_0 rfl (lv_at hl 0 rfl) ?_
  refine hw_if_lt (tgt := 10) hx hb d_Wf_requireRegister_1 (by decide) (by omega) ?_
  refine lv_iload_n hx hb d_Wf_requireRegister_4 rfl (lv_at hl 0 rfl) ?_
  refine lv_bipush (v := nI 16) hx hb d_Wf_requireRegister_5 (by decide) ?_
  refine hw_icmp_lt (tgt := 20) hx hb d_Wf_requireRegister_7 (by decide) (by omega) (by omega) (fun c5 => ?_) (fun c5 => ?_)
  · exact hw_vret hx hb hr hlocks hI d_Wf_requireRegister_20 ⟨rfl, rfl, rfl⟩
  · exact absurd c5 (by omega)
set_option maxHeartbeats 4000000 in
set_option maxRecDepth 100000 in
theorem c_Wf_requireRegister_bad (l : Launch) (hlt : l.stackTraces = false) (D : va_G) (t0 : Nat) (L : List Nat) (f : Nat → va_E) (sz : Nat) (r0 : Int32) (hbad : r0 < nI 0 ∨ nI 16 ≤ r0) : vx_Met l y_Wf_requireRegister (Cond.code y_Wf_requireRegister b_Wf_requireRegister 1 none :: TT) ({ frames := 6, cells := 1, slots := 6, locals := 110 } : Room) (hw_Pc t0 [.int (r0)] D L f sz) (hw_Q D L sz (fun _ _ _ => False)) (hw_X D L sz (fun E L' f' => E = "java/lang/IllegalArgumentException" ∧ L = L' ∧ f = f')) 1 6 (hw_A L sz) := by
  refine vx_ofW (cc := b_Wf_requireRegister) (maxL := 1) (ret := none) (by decide) rfl ?_
  intro p e s m args below meth c s₁ B hml hout hv
  obtain ⟨rfl, rfl, hI⟩ := hw_start hv
  clear hv
  have hx := B.exec
  have hb := B.bytes
  have hr := B.returns
  have hlocks := B.notSynchronized
  have hown : s.vm.findClass "WallFractions" = some m.cls := findClass_of_methodNamed B.named
  have hT : ∀ w ∈ TT, w.before ([.int (r0)]).toArray s = true := fun w h => atoms_spec (ws := (Cond.code y_Wf_requireRegister b_Wf_requireRegister 1 none :: TT)) B.pre w (List.mem_cons_of_mem _ h)
  have S : CallFix p m c b_Wf_requireRegister 1 s ([.int (r0)]).toArray TT "WallFractions" := ⟨hx, hb, hml, hown, hT⟩
  have hl := lv_entry ([.int (r0)]) (n := 1) (Nat.le_of_ble_eq_true rfl)
  rw [lg_entry_eq]
  generalize (lg_sl ([.int (r0)]) ++ List.replicate (1 - (lg_sl ([.int (r0)])).length) Slot.unset).toArray = ls at hl ⊢
  have hl : lv_has ls 1 [(0, .int (r0))] := hl
  refine lv_iload_n hx hb d_Wf_requireRegister_0 rfl (lv_at hl 0 rfl) ?_
  refine lv_if_lt (tgt := 10) hx hb d_Wf_requireRegister_1 (by decide) (fun c6 => ?_) (fun c6 => ?_)
  · exact hw_thr S hI hlt hout hlocks (text := "there is no such register") thr_1 (by decide) w_208 w_12 hl.1 d_Wf_requireRegister_10 d_Wf_requireRegister_13 d_Wf_requireRegister_14 d_Wf_requireRegister_16 d_Wf_requireRegister_19 (Nat.le_of_ble_eq_true rfl) (Nat.le_of_ble_eq_true rfl) ⟨Nat.le_of_ble_eq_true rfl, Nat.le_of_ble_eq_true rfl⟩ ⟨Nat.le_of_ble_eq_true rfl, Nat.le_of_ble_eq_true rfl⟩ (⟨rfl, rfl, rfl⟩)
  · refine lv_iload_n hx hb d_Wf_requireRegister_4 rfl (lv_at hl 0 rfl) ?_
    refine lv_bipush (v := nI 16) hx hb d_Wf_requireRegister_5 (by decide) ?_
    refine lv_icmp_lt (tgt := 20) hx hb d_Wf_requireRegister_7 (by decide) (fun c7 => ?_) (fun c7 => ?_)
    · rcases hbad with h | h
      · exact absurd h c6
      · exact absurd c7 (Int32.not_lt.mpr h)
    · exact hw_thr S hI hlt hout hlocks (text := "there is no such register") thr_1 (by decide) w_208 w_12 hl.1 d_Wf_requireRegister_10 d_Wf_requireRegister_13 d_Wf_requireRegister_14 d_Wf_requireRegister_16 d_Wf_requireRegister_19 (Nat.le_of_ble_eq_true rfl) (Nat.le_of_ble_eq_true rfl) ⟨Nat.le_of_ble_eq_true rfl, Nat.le_of_ble_eq_true rfl⟩ ⟨Nat.le_of_ble_eq_true rfl, Nat.le_of_ble_eq_true rfl⟩ (⟨rfl, rfl, rfl⟩)
theorem vr_of {r : Int32} (h : vr r = true) : ∃ j, j < 16 ∧ r = nI j := by
  rcases inR_or r (lo := 0) (hi := 15) (by decide) (by decide) with ⟨h1, -⟩ | ⟨j, -, h2, h3⟩
  · exact absurd (h.symm.trans h1) (by decide)
  · exact ⟨j, by omega, h3⟩
theorem vr_no {r : Int32} (h : vr r = false) : r < nI 0 ∨ nI 16 ≤ r := by
  rcases inR_or r (lo := 0) (hi := 15) (by decide) (by decide) with ⟨-, h1⟩ | ⟨j, h0, h2, h3⟩
  · exact h1
  · rw [h3] at h
    exact absurd (h.symm.trans (inR_nI h0 h2 (by decide))) (by decide)
theorem inR_of {n : Int32} {lo hi : Nat} (hlo : lo ≤ hi) (hh : hi < 2 ^ 31 - 1) (h : inR n lo hi = true) : ∃ j, lo ≤ j ∧ j ≤ hi ∧ n = nI j := by
  rcases inR_or n hlo hh with ⟨h1, -⟩ | h1
  · exact absurd (h.symm.trans h1) (by decide)
  · exact h1
theorem inR_no {n : Int32} {lo hi : Nat} (hlo : lo ≤ hi) (hh : hi < 2 ^ 31 - 1) (h : inR n lo hi = false) : n.toInt64 < lN lo ∨ lN hi < n.toInt64 := by
  rcases inR_or n hlo hh with ⟨-, h1⟩ | ⟨j, h0, h2, h3⟩
  · exact i64_bad (by omega) hh h1
  · rw [h3] at h
    exact absurd (h.symm.trans (inR_nI h0 h2 (by omega))) (by decide)
theorem win_ok {j lo hi : Nat} (h1 : lo ≤ j) (h2 : j ≤ hi) (hh : hi < 2 ^ 31) : ¬ lN j < lN lo ∧ lN j ≤ lN hi := ⟨fun h => absurd ((pk_lLT (by omega) (by omega)).mp h) (by omega), (pk_lLE (by omega) (by omega)).mpr h2⟩
set_option maxHeartbeats 4000000 in
set_option maxRecDepth 100000 in
theorem c_Wf_requireRegisters_ok (l : Launch) (D : va_G) (t0 : Nat) (L : List Nat) (f : Nat → va_E) (sz : Nat) (i j k : Nat) (hi : i < 16) (hj : j < 16) (hk : k < 16) : Met l y_Wf_requireRegisters (Cond.code y_Wf_requireRegisters b_Wf_requireRegisters 3 none :: TT) ({ frames := 7, cells := 0, slots := 0, locals := 130 } : Room) (hw_Pc t0 [.int (nI i), .int (nI j), .int (nI k)] D L f sz) (hw_Q D L sz (fun oc L' f' => oc = .returned none ∧ L = L' ∧ f = f')) 0 0 (hw_A L sz) := by
  refine Met.ofW (cc := b_Wf_requireRegisters) (maxL := 3) (ret := none) (by decide) rfl ?_
  intro p e s m args below meth c s₁ B hml hv
  obtain ⟨rfl, rfl, hI⟩ := hw_start hv
  clear hv
  have hx := B.exec
  have hb := B.bytes
  have hr := B.returns
  have hlocks := B.notSynchronized
  have hown : s.vm.findClass "WallFractions" = some m.cls := findClass_of_methodNamed B.named
  have hT : ∀ w ∈ TT, w.before ([.int (nI i), .int (nI j), .int (nI k)]).toArray s = true := fun w h => atoms_spec (ws := (Cond.code y_Wf_requireRegisters b_Wf_requireRegisters 3 none :: TT)) B.pre w (List.mem_cons_of_mem _ h)
  have S : CallFix p m c b_Wf_requireRegisters 3 s ([.int (nI i), .int (nI j), .int (nI k)]).toArray TT "WallFractions" := ⟨hx, hb, hml, hown, hT⟩
  have hl := lv_entry ([.int (nI i), .int (nI j), .int (nI k)]) (n := 3) (Nat.le_of_ble_eq_true rfl)
  rw [lg_entry_eq]
  generalize (lg_sl ([.int (nI i), .int (nI j), .int (nI k)]) ++ List.replicate (3 - (lg_sl ([.int (nI i), .int (nI j), .int (nI k)])).length) Slot.unset).toArray = ls at hl ⊢
  have hl : lv_has ls 3 [(0, .int (nI i)), (1, .int (nI j)), (2, .int (nI k))] := hl
  skip
  refine lv_iload_n hx hb d_Wf_requireRegisters_0 rfl (lv_at hl 0 rfl) ?_
  refine hw_cS (As := [.int (nI i)]) (rest := []) S hI m_Wf_requireRegister w_205 (c_Wf_requireRegister_ok l D t0 L _ _ i hi) hl.1 rfl rfl (Nat.le_of_ble_eq_true rfl) d_Wf_requireRegisters_1 ⟨Nat.le_of_ble_eq_true rfl, Nat.le_of_ble_eq_true rfl⟩ ⟨Nat.le_of_ble_eq_true rfl, Nat.le_of_ble_eq_true rfl⟩ (fun v9 L9 f8 H locs hp hI => ?_)
  refine W.cs (cells' := 0) (slots' := 0) rfl rfl ?_
  obtain ⟨hv9, rfl, rfl⟩ := hp
  cases hv9
  refine hw_stk (st' := []) rfl ?_
  refine lv_iload_n hx hb d_Wf_requireRegisters_4 rfl (lv_at hl 1 rfl) ?_
  refine hw_cS (As := [.int (nI j)]) (rest := []) S hI m_Wf_requireRegister w_205 (c_Wf_requireRegister_ok l D t0 L _ _ j hj) hl.1 rfl rfl (Nat.le_of_ble_eq_true rfl) d_Wf_requireRegisters_5 ⟨Nat.le_of_ble_eq_true rfl, Nat.le_of_ble_eq_true rfl⟩ ⟨Nat.le_of_ble_eq_true rfl, Nat.le_of_ble_eq_true rfl⟩ (fun v9 L9 f9 H locs hp hI => ?_)
  refine W.cs (cells' := 0) (slots' := 0) rfl rfl ?_
  obtain ⟨hv9, rfl, rfl⟩ := hp
  cases hv9
  refine hw_stk (st' := []) rfl ?_
  refine lv_iload_n hx hb d_Wf_requireRegisters_8 rfl (lv_at hl 2 rfl) ?_
  refine hw_cS (As := [.int (nI k)]) (rest := []) S hI m_Wf_requireRegister w_205 (c_Wf_requireRegister_ok l D t0 L _ _ k hk) hl.1 rfl rfl (Nat.le_of_ble_eq_true rfl) d_Wf_requireRegisters_9 ⟨Nat.le_of_ble_eq_true rfl, Nat.le_of_ble_eq_true rfl⟩ ⟨Nat.le_of_ble_eq_true rfl, Nat.le_of_ble_eq_true rfl⟩ (fun v9 L9 f10 H locs hp hI => ?_)
  refine W.cs (cells' := 0) (slots' := 0) rfl rfl ?_
  obtain ⟨hv9, rfl, rfl⟩ := hp
  cases hv9
  refine hw_stk (st' := []) rfl ?_
  exact hw_vret hx hb hr hlocks hI d_Wf_requireRegisters_12 ⟨rfl, rfl, rfl⟩
set_option maxHeartbeats 4000000 in
set_option maxRecDepth 100000 in
theorem c_Wf_requireRegisters_bad (l : Launch) (hlt : l.stackTraces = false) (D : va_G) (t0 : Nat) (L : List Nat) (f : Nat → va_E) (sz : Nat) (r0 r1 r2 : Int32) (hbad : (vr r0 && vr r1 && vr r2) = false) : vx_Met l y_Wf_requireRegisters (Cond.code y_Wf_requireRegisters b_Wf_requireRegisters 3 none :: TT) ({ frames := 7, cells := 1, slots := 6, locals := 130 } : Room) (hw_Pc t0 [.int (r0), .int (r1), .int (r2)] D L f sz) (hw_Q D L sz (fun _ _ _ => False)) (hw_X D L sz (fun E L' f' => E = "java/lang/IllegalArgumentException" ∧ L = L' ∧ f = f')) 1 6 (hw_A L sz) := by
  refine vx_ofW (cc := b_Wf_requireRegisters) (maxL := 3) (ret := none) (by decide) rfl ?_
  intro p e s m args below meth c s₁ B hml hout hv
  obtain ⟨rfl, rfl, hI⟩ := hw_start hv
  clear hv
  have hx := B.exec
  have hb := B.bytes
  have hr := B.returns
  have hlocks := B.notSynchronized
  have hown : s.vm.findClass "WallFractions" = some m.cls := findClass_of_methodNamed B.named
  have hT : ∀ w ∈ TT, w.before ([.int (r0), .int (r1), .int (r2)]).toArray s = true := fun w h => atoms_spec (ws := (Cond.code y_Wf_requireRegisters b_Wf_requireRegisters 3 none :: TT)) B.pre w (List.mem_cons_of_mem _ h)
  have S : CallFix p m c b_Wf_requireRegisters 3 s ([.int (r0), .int (r1), .int (r2)]).toArray TT "WallFractions" := ⟨hx, hb, hml, hown, hT⟩
  have hl := lv_entry ([.int (r0), .int (r1), .int (r2)]) (n := 3) (Nat.le_of_ble_eq_true rfl)
  rw [lg_entry_eq]
  generalize (lg_sl ([.int (r0), .int (r1), .int (r2)]) ++ List.replicate (3 - (lg_sl ([.int (r0), .int (r1), .int (r2)])).length) Slot.unset).toArray = ls at hl ⊢
  have hl : lv_has ls 3 [(0, .int (r0)), (1, .int (r1)), (2, .int (r2))] := hl
  refine lv_iload_n hx hb d_Wf_requireRegisters_0 rfl (lv_at hl 0 rfl) ?_
  rcases hB0 : vr r0 with _ | _
  · refine hw_xS (As := [.int (r0)]) (rest := []) S hI m_Wf_requireRegister w_205 (c_Wf_requireRegister_bad l hlt D t0 L _ _ r0 (vr_no hB0)) hl.1 rfl rfl (Nat.le_of_ble_eq_true rfl) d_Wf_requireRegisters_1 ⟨Nat.le_of_ble_eq_true rfl, Nat.le_of_ble_eq_true rfl⟩ ⟨Nat.le_of_ble_eq_true rfl, Nat.le_of_ble_eq_true rfl⟩ (fun v9 L9 f11 H locs hp hI => hp.elim) (fun E9 ce9 q9 L9 f11 H locs hp hI hc9 hv9 hl9 => ?_)
    obtain ⟨rfl, rfl, rfl⟩ := hp
    exact hw_on hI hout hlocks hc9 hv9 hl9 (⟨rfl, rfl, rfl⟩) ⟨Nat.le_of_ble_eq_true rfl, Nat.le_of_ble_eq_true rfl⟩
  · obtain ⟨j0, hj0, rfl⟩ := vr_of hB0
    refine hw_cS (As := [.int (nI j0)]) (rest := []) S hI m_Wf_requireRegister w_205 (c_Wf_requireRegister_ok l D t0 L _ _ j0 hj0) hl.1 rfl rfl (Nat.le_of_ble_eq_true rfl) d_Wf_requireRegisters_1 ⟨Nat.le_of_ble_eq_true rfl, Nat.le_of_ble_eq_true rfl⟩ ⟨Nat.le_of_ble_eq_true rfl, Nat.le_of_ble_eq_true rfl⟩ (fun v9 L9 f12 H locs hp hI => ?_)
    refine W.cs (cells' := 0) (slots' := 0) rfl rfl ?_
    obtain ⟨hv9, rfl, rfl⟩ := hp
    cases hv9
    refine hw_stk (st' := []) rfl ?_
    refine lv_iload_n hx hb d_Wf_requireRegisters_4 rfl (lv_at hl 1 rfl) ?_
    rcases hB1 : vr r1 with _ | _
    · refine hw_xS (As := [.int (r1)]) (rest := []) S hI m_Wf_requireRegister w_205 (c_Wf_requireRegister_bad l hlt D t0 L _ _ r1 (vr_no hB1)) hl.1 rfl rfl (Nat.le_of_ble_eq_true rfl) d_Wf_requireRegisters_5 ⟨Nat.le_of_ble_eq_true rfl, Nat.le_of_ble_eq_true rfl⟩ ⟨Nat.le_of_ble_eq_true rfl, Nat.le_of_ble_eq_true rfl⟩ (fun v9 L9 f13 H locs hp hI => hp.elim) (fun E9 ce9 q9 L9 f13 H locs hp hI hc9 hv9 hl9 => ?_)
      obtain ⟨rfl, rfl, rfl⟩ := hp
      exact hw_on hI hout hlocks hc9 hv9 hl9 (⟨rfl, rfl, rfl⟩) ⟨Nat.le_of_ble_eq_true rfl, Nat.le_of_ble_eq_true rfl⟩
    · obtain ⟨j1, hj1, rfl⟩ := vr_of hB1
      refine hw_cS (As := [.int (nI j1)]) (rest := []) S hI m_Wf_requireRegister w_205 (c_Wf_requireRegister_ok l D t0 L _ _ j1 hj1) hl.1 rfl rfl (Nat.le_of_ble_eq_true rfl) d_Wf_requireRegisters_5 ⟨Nat.le_of_ble_eq_true rfl, Nat.le_of_ble_eq_true rfl⟩ ⟨Nat.le_of_ble_eq_true rfl, Nat.le_of_ble_eq_true rfl⟩ (fun v9 L9 f14 H locs hp hI => ?_)
      refine W.cs (cells' := 0) (slots' := 0) rfl rfl ?_
      obtain ⟨hv9, rfl, rfl⟩ := hp
      cases hv9
      refine hw_stk (st' := []) rfl ?_
      refine lv_iload_n hx hb d_Wf_requireRegisters_8 rfl (lv_at hl 2 rfl) ?_
      rcases hB2 : vr r2 with _ | _
      · refine hw_xS (As := [.int (r2)]) (rest := []) S hI m_Wf_requireRegister w_205 (c_Wf_requireRegister_bad l hlt D t0 L _ _ r2 (vr_no hB2)) hl.1 rfl rfl (Nat.le_of_ble_eq_true rfl) d_Wf_requireRegisters_9 ⟨Nat.le_of_ble_eq_true rfl, Nat.le_of_ble_eq_true rfl⟩ ⟨Nat.le_of_ble_eq_true rfl, Nat.le_of_ble_eq_true rfl⟩ (fun v9 L9 f15 H locs hp hI => hp.elim) (fun E9 ce9 q9 L9 f15 H locs hp hI hc9 hv9 hl9 => ?_)
        obtain ⟨rfl, rfl, rfl⟩ := hp
        exact hw_on hI hout hlocks hc9 hv9 hl9 (⟨rfl, rfl, rfl⟩) ⟨Nat.le_of_ble_eq_true rfl, Nat.le_of_ble_eq_true rfl⟩
      · obtain ⟨j2, hj2, rfl⟩ := vr_of hB2
        refine hw_cS (As := [.int (nI j2)]) (rest := []) S hI m_Wf_requireRegister w_205 (c_Wf_requireRegister_ok l D t0 L _ _ j2 hj2) hl.1 rfl rfl (Nat.le_of_ble_eq_true rfl) d_Wf_requireRegisters_9 ⟨Nat.le_of_ble_eq_true rfl, Nat.le_of_ble_eq_true rfl⟩ ⟨Nat.le_of_ble_eq_true rfl, Nat.le_of_ble_eq_true rfl⟩ (fun v9 L9 f16 H locs hp hI => ?_)
        refine W.cs (cells' := 0) (slots' := 0) rfl rfl ?_
        obtain ⟨hv9, rfl, rfl⟩ := hp
        cases hv9
        refine hw_stk (st' := []) rfl ?_
        rw [hB0, hB1, hB2] at hbad
        exact absurd hbad (by decide)
set_option maxHeartbeats 4000000 in
set_option maxRecDepth 100000 in
theorem c_Rk_requireFit_ok (l : Launch) (D : va_G) (t0 : Nat) (L : List Nat) (f : Nat → va_E) (sz : Nat) (o r fr : Nat → Nat) (ad al ab am ak ah aw ar rg wf : Nat) (x : Nat → Nat) (sg : Nat → Bool) (wt rs : Nat → Nat) (hg : Gl o r fr ad al ab am ak ah aw ar rg wf) (hW : Wd D L f o r fr ad al ab am ak ah aw ar rg wf x sg wt rs) (hfit : FitX x) : Met l y_Rk_requireFit (Cond.code y_Rk_requireFit b_Rk_requireFit 1 none :: TT) ({ frames := 6, cells := 0, slots := 0, locals := 110 } : Room) (hw_Pc t0 [.ref (ak)] D L f sz) (hw_Q D L sz (fun oc L' f' => oc = .returned none ∧ L = L' ∧ f = f')) 0 0 (hw_A L sz) := by
  refine Met.ofW (cc := b_Rk_requireFit) (maxL := 1) (ret := none) (by decide) rfl ?_
  intro p e s m args below meth c s₁ B hml hv
  obtain ⟨rfl, rfl, hI⟩ := hw_start hv
  clear hv
  have hx := B.exec
  have hb := B.bytes
  have hr := B.returns
  have hlocks := B.notSynchronized
  have hown : s.vm.findClass "WallFractions$Reckoner" = some m.cls := findClass_of_methodNamed B.named
  have hT : ∀ w ∈ TT, w.before ([.ref (ak)]).toArray s = true := fun w h => atoms_spec (ws := (Cond.code y_Rk_requireFit b_Rk_requireFit 1 none :: TT)) B.pre w (List.mem_cons_of_mem _ h)
  have S : CallFix p m c b_Rk_requireFit 1 s ([.ref (ak)]).toArray TT "WallFractions$Reckoner" := ⟨hx, hb, hml, hown, hT⟩
  have hl := lv_entry ([.ref (ak)]) (n := 1) (Nat.le_of_ble_eq_true rfl)
  rw [lg_entry_eq]
  generalize (lg_sl ([.ref (ak)]) ++ List.replicate (1 - (lg_sl ([.ref (ak)])).length) Slot.unset).toArray = ls at hl ⊢
  have hl : lv_has ls 1 [(0, .ref (ak))] := hl
  skip
  have hY := hg.1
  have hF : Fm o r fr ad al ab am ak ah aw ar rg wf f f := Fm.refl
  have hs : ∀ z, z < 32 → x z = x z := fun _ _ => rfl
  have ht : ∀ k, k < 16 → sg k = sg k := fun _ _ => rfl
  refine lv_aload_n hx hb d_Rk_requireFit_0 rfl (lv_at hl 0 rfl) ?_
  refine ob_get S hI hW.Rk (C := R_Rk) (T := F_Rk) (N := 7) (ref := "WallFractions$Reckoner") rfl i_Rk 2 (by decide) rfl w_134 rfl d_Rk_requireFit_1 ?_
  refine hw_cV (As := []) (rest := []) S hI m_Fr_fits w_338 (c_Fr_fits l D t0 L _ _ o r fr ad al ab am ak ah aw ar rg wf x sg wt rs 16 hg hW (by decide)) hW.Out rfl hl.1 rfl rfl (Nat.le_of_ble_eq_true rfl) d_Rk_requireFit_4 ⟨Nat.le_of_ble_eq_true rfl, Nat.le_of_ble_eq_true rfl⟩ ⟨Nat.le_of_ble_eq_true rfl, Nat.le_of_ble_eq_true rfl⟩ (fun v9 L9 f17 H locs hp hI => ?_)
  refine W.cs (cells' := 0) (slots' := 0) rfl rfl ?_
  obtain ⟨hv9, rfl, rfl⟩ := hp
  cases hv9
  refine hw_stk (st' := [.int (sB (decide (x (2 * 16) < nB ^ 20 ∧ x (2 * 16 + 1) < nB ^ 20)))]) rfl ?_
  refine hw_ti (show _ = nI 1 from by rw [fitX_dec hfit]; rfl) ?_
  refine hw_if_ne (tgt := 20) hx hb d_Rk_requireFit_7 (by decide) (by omega) (fun c18 => ?_) (fun c18 => ?_)
  · exact hw_vret hx hb hr hlocks hI d_Rk_requireFit_20 ⟨rfl, rfl, rfl⟩
  · exact absurd c18 (by decide)
set_option maxHeartbeats 4000000 in
set_option maxRecDepth 100000 in
theorem c_Rk_requireFit_bad (l : Launch) (hlt : l.stackTraces = false) (D : va_G) (t0 : Nat) (L : List Nat) (f : Nat → va_E) (sz : Nat) (o r fr : Nat → Nat) (ad al ab am ak ah aw ar rg wf : Nat) (x : Nat → Nat) (sg : Nat → Bool) (wt rs : Nat → Nat) (hg : Gl o r fr ad al ab am ak ah aw ar rg wf) (hW : Wd D L f o r fr ad al ab am ak ah aw ar rg wf x sg wt rs) (hfit : ¬ FitX x) : vx_Met l y_Rk_requireFit (Cond.code y_Rk_requireFit b_Rk_requireFit 1 none :: TT) ({ frames := 6, cells := 1, slots := 6, locals := 110 } : Room) (hw_Pc t0 [.ref (ak)] D L f sz) (hw_Q D L sz (fun _ _ _ => False)) (hw_X D L sz (fun E L' f' => E = "java/lang/IllegalStateException" ∧ L = L' ∧ f = f')) 1 6 (hw_A L sz) := by
  refine vx_ofW (cc := b_Rk_requireFit) (maxL := 1) (ret := none) (by decide) rfl ?_
  intro p e s m args below meth c s₁ B hml hout hv
  obtain ⟨rfl, rfl, hI⟩ := hw_start hv
  clear hv
  have hx := B.exec
  have hb := B.bytes
  have hr := B.returns
  have hlocks := B.notSynchronized
  have hown : s.vm.findClass "WallFractions$Reckoner" = some m.cls := findClass_of_methodNamed B.named
  have hT : ∀ w ∈ TT, w.before ([.ref (ak)]).toArray s = true := fun w h => atoms_spec (ws := (Cond.code y_Rk_requireFit b_Rk_requireFit 1 none :: TT)) B.pre w (List.mem_cons_of_mem _ h)
  have S : CallFix p m c b_Rk_requireFit 1 s ([.ref (ak)]).toArray TT "WallFractions$Reckoner" := ⟨hx, hb, hml, hown, hT⟩
  have hl := lv_entry ([.ref (ak)]) (n := 1) (Nat.le_of_ble_eq_true rfl)
  rw [lg_entry_eq]
  generalize (lg_sl ([.ref (ak)]) ++ List.replicate (1 - (lg_sl ([.ref (ak)])).length) Slot.unset).toArray = ls at hl ⊢
  have hl : lv_has ls 1 [(0, .ref (ak))] := hl
  have hY := hg.1
  have hF : Fm o r fr ad al ab am ak ah aw ar rg wf f f := Fm.refl
  have hs : ∀ z, z < 32 → x z = x z := fun _ _ => rfl
  have ht : ∀ k, k < 16 → sg k = sg k := fun _ _ => rfl
  refine lv_aload_n hx hb d_Rk_requireFit_0 rfl (lv_at hl 0 rfl) ?_
  refine ob_get S hI hW.Rk (C := R_Rk) (T := F_Rk) (N := 7) (ref := "WallFractions$Reckoner") rfl i_Rk 2 (by decide) rfl w_134 rfl d_Rk_requireFit_1 ?_
  refine hw_cV (As := []) (rest := []) S hI m_Fr_fits w_338 (c_Fr_fits l D t0 L _ _ o r fr ad al ab am ak ah aw ar rg wf x sg wt rs 16 hg hW (by decide)) hW.Out rfl hl.1 rfl rfl (Nat.le_of_ble_eq_true rfl) d_Rk_requireFit_4 ⟨Nat.le_of_ble_eq_true rfl, Nat.le_of_ble_eq_true rfl⟩ ⟨Nat.le_of_ble_eq_true rfl, Nat.le_of_ble_eq_true rfl⟩ (fun v9 L9 f19 H locs hp hI => ?_)
  refine W.cs (cells' := 0) (slots' := 0) rfl rfl ?_
  obtain ⟨hv9, rfl, rfl⟩ := hp
  cases hv9
  refine hw_stk (st' := [.int (sB (decide (x (2 * 16) < nB ^ 20 ∧ x (2 * 16 + 1) < nB ^ 20)))]) rfl ?_
  refine hw_ti (show _ = nI 0 from by rw [fitX_dec' hfit]; rfl) ?_
  refine hw_if_ne (tgt := 20) hx hb d_Rk_requireFit_7 (by decide) (by omega) (fun c20 => ?_) (fun c20 => ?_)
  · exact absurd rfl c20
  · exact hw_thr S hI hlt hout hlocks (text := "it does not fit") thr_5 (by decide) w_342 w_15 hl.1 d_Rk_requireFit_10 d_Rk_requireFit_13 d_Rk_requireFit_14 d_Rk_requireFit_16 d_Rk_requireFit_19 (Nat.le_of_ble_eq_true rfl) (Nat.le_of_ble_eq_true rfl) ⟨Nat.le_of_ble_eq_true rfl, Nat.le_of_ble_eq_true rfl⟩ ⟨Nat.le_of_ble_eq_true rfl, Nat.le_of_ble_eq_true rfl⟩ (⟨rfl, rfl, rfl⟩)
set_option maxHeartbeats 4000000 in
set_option maxRecDepth 100000 in
theorem c_Wf_requireWhole_ok (l : Launch) (D : va_G) (t0 : Nat) (L : List Nat) (f : Nat → va_E) (sz : Nat) (o r fr : Nat → Nat) (ad al ab am ak ah aw ar rg wf : Nat) (x : Nat → Nat) (sg : Nat → Bool) (wt rs : Nat → Nat) (a : Nat) (hg : Gl o r fr ad al ab am ak ah aw ar rg wf) (hW : Wd D L f o r fr ad al ab am ak ah aw ar rg wf x sg wt rs) (ha : a < 16) (h1 : x (2 * a + 1) = 1) : Met l y_Wf_requireWhole (Cond.code y_Wf_requireWhole b_Wf_requireWhole 1 none :: TT) ({ frames := 6, cells := 0, slots := 0, locals := 110 } : Room) (hw_Pc t0 [.ref (fr a)] D L f sz) (hw_Q D L sz (fun oc L' f' => oc = .returned none ∧ L = L' ∧ f = f')) 0 0 (hw_A L sz) := by
  refine Met.ofW (cc := b_Wf_requireWhole) (maxL := 1) (ret := none) (by decide) rfl ?_
  intro p e s m args below meth c s₁ B hml hv
  obtain ⟨rfl, rfl, hI⟩ := hw_start hv
  clear hv
  have hx := B.exec
  have hb := B.bytes
  have hr := B.returns
  have hlocks := B.notSynchronized
  have hown : s.vm.findClass "WallFractions" = some m.cls := findClass_of_methodNamed B.named
  have hT : ∀ w ∈ TT, w.before ([.ref (fr a)]).toArray s = true := fun w h => atoms_spec (ws := (Cond.code y_Wf_requireWhole b_Wf_requireWhole 1 none :: TT)) B.pre w (List.mem_cons_of_mem _ h)
  have S : CallFix p m c b_Wf_requireWhole 1 s ([.ref (fr a)]).toArray TT "WallFractions" := ⟨hx, hb, hml, hown, hT⟩
  have hl := lv_entry ([.ref (fr a)]) (n := 1) (Nat.le_of_ble_eq_true rfl)
  rw [lg_entry_eq]
  generalize (lg_sl ([.ref (fr a)]) ++ List.replicate (1 - (lg_sl ([.ref (fr a)])).length) Slot.unset).toArray = ls at hl ⊢
  have hl : lv_has ls 1 [(0, .ref (fr a))] := hl
  skip
  have hY := hg.1
  have hF : Fm o r fr ad al ab am ak ah aw ar rg wf f f := Fm.refl
  have hs : ∀ z, z < 32 → x z = x z := fun _ _ => rfl
  have ht : ∀ k, k < 16 → sg k = sg k := fun _ _ => rfl
  refine lv_aload_n hx hb d_Wf_requireWhole_0 rfl (lv_at hl 0 rfl) ?_
  refine ob_getN S hI (hW.Fr (by omega)) (C := R_Fr) (T := F_Fr) (N := 3) (ref := "WallFractions$Fraction") rfl i_Fr 1 (by decide) rfl (by decide +kernel) rfl d_Wf_requireWhole_1 ?_
  refine hw_cV (As := []) (rest := []) S hI m_Wh_isOne w_368 (c_Wh_isOne l D t0 L _ _ o r 46 x (2 * a + 1) (by omega) hY hW.N) (hW.rc (i := (2 * a + 1)) (by omega)).choose_spec rfl hl.1 rfl rfl (Nat.le_of_ble_eq_true rfl) d_Wf_requireWhole_4 ⟨Nat.le_of_ble_eq_true rfl, Nat.le_of_ble_eq_true rfl⟩ ⟨Nat.le_of_ble_eq_true rfl, Nat.le_of_ble_eq_true rfl⟩ (fun v9 L9 f21 H locs hp hI => ?_)
  refine W.cs (cells' := 0) (slots' := 0) rfl rfl ?_
  obtain ⟨hv9, rfl, rfl⟩ := hp
  cases hv9
  refine hw_stk (st' := [.int (if x (2 * a + 1) = 1 then nI 1 else nI 0)]) rfl ?_
  refine hw_ti (show _ = nI 1 from if_pos h1) ?_
  refine hw_if_ne (tgt := 20) hx hb d_Wf_requireWhole_7 (by decide) (by omega) (fun c22 => ?_) (fun c22 => ?_)
  · exact hw_vret hx hb hr hlocks hI d_Wf_requireWhole_20 ⟨rfl, rfl, rfl⟩
  · exact absurd c22 (by decide)
set_option maxHeartbeats 4000000 in
set_option maxRecDepth 100000 in
theorem c_Wf_requireWhole_bad (l : Launch) (hlt : l.stackTraces = false) (D : va_G) (t0 : Nat) (L : List Nat) (f : Nat → va_E) (sz : Nat) (o r fr : Nat → Nat) (ad al ab am ak ah aw ar rg wf : Nat) (x : Nat → Nat) (sg : Nat → Bool) (wt rs : Nat → Nat) (a : Nat) (hg : Gl o r fr ad al ab am ak ah aw ar rg wf) (hW : Wd D L f o r fr ad al ab am ak ah aw ar rg wf x sg wt rs) (ha : a < 16) (h1 : x (2 * a + 1) ≠ 1) : vx_Met l y_Wf_requireWhole (Cond.code y_Wf_requireWhole b_Wf_requireWhole 1 none :: TT) ({ frames := 6, cells := 1, slots := 6, locals := 110 } : Room) (hw_Pc t0 [.ref (fr a)] D L f sz) (hw_Q D L sz (fun _ _ _ => False)) (hw_X D L sz (fun E L' f' => E = "java/lang/IllegalStateException" ∧ L = L' ∧ f = f')) 1 6 (hw_A L sz) := by
  refine vx_ofW (cc := b_Wf_requireWhole) (maxL := 1) (ret := none) (by decide) rfl ?_
  intro p e s m args below meth c s₁ B hml hout hv
  obtain ⟨rfl, rfl, hI⟩ := hw_start hv
  clear hv
  have hx := B.exec
  have hb := B.bytes
  have hr := B.returns
  have hlocks := B.notSynchronized
  have hown : s.vm.findClass "WallFractions" = some m.cls := findClass_of_methodNamed B.named
  have hT : ∀ w ∈ TT, w.before ([.ref (fr a)]).toArray s = true := fun w h => atoms_spec (ws := (Cond.code y_Wf_requireWhole b_Wf_requireWhole 1 none :: TT)) B.pre w (List.mem_cons_of_mem _ h)
  have S : CallFix p m c b_Wf_requireWhole 1 s ([.ref (fr a)]).toArray TT "WallFractions" := ⟨hx, hb, hml, hown, hT⟩
  have hl := lv_entry ([.ref (fr a)]) (n := 1) (Nat.le_of_ble_eq_true rfl)
  rw [lg_entry_eq]
  generalize (lg_sl ([.ref (fr a)]) ++ List.replicate (1 - (lg_sl ([.ref (fr a)])).length) Slot.unset).toArray = ls at hl ⊢
  have hl : lv_has ls 1 [(0, .ref (fr a))] := hl
  have hY := hg.1
  have hF : Fm o r fr ad al ab am ak ah aw ar rg wf f f := Fm.refl
  have hs : ∀ z, z < 32 → x z = x z := fun _ _ => rfl
  have ht : ∀ k, k < 16 → sg k = sg k := fun _ _ => rfl
  refine lv_aload_n hx hb d_Wf_requireWhole_0 rfl (lv_at hl 0 rfl) ?_
  refine ob_getN S hI (hW.Fr (by omega)) (C := R_Fr) (T := F_Fr) (N := 3) (ref := "WallFractions$Fraction") rfl i_Fr 1 (by decide) rfl (by decide +kernel) rfl d_Wf_requireWhole_1 ?_
  refine hw_cV (As := []) (rest := []) S hI m_Wh_isOne w_368 (c_Wh_isOne l D t0 L _ _ o r 46 x (2 * a + 1) (by omega) hY hW.N) (hW.rc (i := (2 * a + 1)) (by omega)).choose_spec rfl hl.1 rfl rfl (Nat.le_of_ble_eq_true rfl) d_Wf_requireWhole_4 ⟨Nat.le_of_ble_eq_true rfl, Nat.le_of_ble_eq_true rfl⟩ ⟨Nat.le_of_ble_eq_true rfl, Nat.le_of_ble_eq_true rfl⟩ (fun v9 L9 f23 H locs hp hI => ?_)
  refine W.cs (cells' := 0) (slots' := 0) rfl rfl ?_
  obtain ⟨hv9, rfl, rfl⟩ := hp
  cases hv9
  refine hw_stk (st' := [.int (if x (2 * a + 1) = 1 then nI 1 else nI 0)]) rfl ?_
  refine hw_ti (show _ = nI 0 from if_neg h1) ?_
  refine hw_if_ne (tgt := 20) hx hb d_Wf_requireWhole_7 (by decide) (by omega) (fun c24 => ?_) (fun c24 => ?_)
  · exact absurd rfl c24
  · exact hw_thr S hI hlt hout hlocks (text := "the register is not whole") thr_3 (by decide) w_372 w_15 hl.1 d_Wf_requireWhole_10 d_Wf_requireWhole_13 d_Wf_requireWhole_14 d_Wf_requireWhole_16 d_Wf_requireWhole_19 (Nat.le_of_ble_eq_true rfl) (Nat.le_of_ble_eq_true rfl) ⟨Nat.le_of_ble_eq_true rfl, Nat.le_of_ble_eq_true rfl⟩ ⟨Nat.le_of_ble_eq_true rfl, Nat.le_of_ble_eq_true rfl⟩ (⟨rfl, rfl, rfl⟩)
set_option maxHeartbeats 4000000 in
set_option maxRecDepth 100000 in
theorem c_Wf_keep_ok (l : Launch) (D : va_G) (t0 : Nat) (L : List Nat) (f : Nat → va_E) (sz : Nat) (o r fr : Nat → Nat) (ad al ab am ak ah aw ar rg wf : Nat) (x : Nat → Nat) (sg : Nat → Bool) (wt rs : Nat → Nat) (i : Nat) (hg : Gl o r fr ad al ab am ak ah aw ar rg wf) (hW : Wd D L f o r fr ad al ab am ak ah aw ar rg wf x sg wt rs) (hi : i < 16) (hfit : FitX x) : Met l y_Wf_keep (Cond.code y_Wf_keep b_Wf_keep 2 none :: TT) ({ frames := 7, cells := 0, slots := 0, locals := 130 } : Room) (hw_Pc t0 [.ref (wf), .int (nI i)] D L f sz) (hw_Q D L sz (fun oc L' f' => oc = .returned none ∧ L = L' ∧ ∃ x' sg', Wd D L f' o r fr ad al ab am ak ah aw ar rg wf x' sg' wt rs ∧ x' (2 * i) = x 32 ∧ x' (2 * i + 1) = x 33 ∧ (∀ z, z ≠ 2 * i → z ≠ 2 * i + 1 → x' z = x z) ∧ sg' i = sg 16 ∧ (∀ k, k ≠ i → sg' k = sg k) ∧ Fm o r fr ad al ab am ak ah aw ar rg wf f f')) 0 0 (hw_A L sz) := by
  refine Met.ofW (cc := b_Wf_keep) (maxL := 2) (ret := none) (by decide) rfl ?_
  intro p e s m args below meth c s₁ B hml hv
  obtain ⟨rfl, rfl, hI⟩ := hw_start hv
  clear hv
  have hx := B.exec
  have hb := B.bytes
  have hr := B.returns
  have hlocks := B.notSynchronized
  have hown : s.vm.findClass "WallFractions" = some m.cls := findClass_of_methodNamed B.named
  have hT : ∀ w ∈ TT, w.before ([.ref (wf), .int (nI i)]).toArray s = true := fun w h => atoms_spec (ws := (Cond.code y_Wf_keep b_Wf_keep 2 none :: TT)) B.pre w (List.mem_cons_of_mem _ h)
  have S : CallFix p m c b_Wf_keep 2 s ([.ref (wf), .int (nI i)]).toArray TT "WallFractions" := ⟨hx, hb, hml, hown, hT⟩
  have hl := lv_entry ([.ref (wf), .int (nI i)]) (n := 2) (Nat.le_of_ble_eq_true rfl)
  rw [lg_entry_eq]
  generalize (lg_sl ([.ref (wf), .int (nI i)]) ++ List.replicate (2 - (lg_sl ([.ref (wf), .int (nI i)])).length) Slot.unset).toArray = ls at hl ⊢
  have hl : lv_has ls 2 [(0, .ref (wf)), (1, .int (nI i))] := hl
  skip
  have hY := hg.1
  have hF : Fm o r fr ad al ab am ak ah aw ar rg wf f f := Fm.refl
  have hs : ∀ z, z < 32 → x z = x z := fun _ _ => rfl
  have ht : ∀ k, k < 16 → sg k = sg k := fun _ _ => rfl
  refine lv_aload_n hx hb d_Wf_keep_0 rfl (lv_at hl 0 rfl) ?_
  refine ob_get S hI hW.Wf (C := R_Wf) (T := F_Wf) (N := 3) (ref := "WallFractions") rfl i_Wf 1 (by decide) rfl w_187 rfl d_Wf_keep_1 ?_
  refine hw_cV (As := []) (rest := []) S hI m_Rk_requireFit w_334 (c_Rk_requireFit_ok l D t0 L _ _ o r fr ad al ab am ak ah aw ar rg wf x sg wt rs hg hW hfit) hW.Rk rfl hl.1 rfl rfl (Nat.le_of_ble_eq_true rfl) d_Wf_keep_4 ⟨Nat.le_of_ble_eq_true rfl, Nat.le_of_ble_eq_true rfl⟩ ⟨Nat.le_of_ble_eq_true rfl, Nat.le_of_ble_eq_true rfl⟩ (fun v9 L9 f25 H locs hp hI => ?_)
  refine W.cs (cells' := 0) (slots' := 0) rfl rfl ?_
  obtain ⟨hv9, rfl, rfl⟩ := hp
  cases hv9
  refine hw_stk (st' := []) rfl ?_
  refine lv_aload_n hx hb d_Wf_keep_7 rfl (lv_at hl 0 rfl) ?_
  refine ob_get S hI hW.Wf (C := R_Wf) (T := F_Wf) (N := 3) (ref := "WallFractions") rfl i_Wf 0 (by decide) rfl w_186 rfl d_Wf_keep_8 ?_
  refine lv_iload_n hx hb d_Wf_keep_11 rfl (lv_at hl 1 rfl) ?_
  refine rg_ld S hI hW.Rg (by omega) d_Wf_keep_12 ?_
  refine lv_aload_n hx hb d_Wf_keep_13 rfl (lv_at hl 0 rfl) ?_
  refine ob_get S hI hW.Wf (C := R_Wf) (T := F_Wf) (N := 3) (ref := "WallFractions") rfl i_Wf 1 (by decide) rfl w_187 rfl d_Wf_keep_14 ?_
  refine ob_getN S hI hW.Rk (C := R_Rk) (T := F_Rk) (N := 7) (ref := "WallFractions$Reckoner") rfl i_Rk 2 (by decide) rfl (by decide +kernel) rfl d_Wf_keep_17 ?_
  refine hw_cV (As := [.ref (fr 16)]) (rest := []) S hI m_Fr_copyFrom w_345 (c_Fr_copyFrom l D t0 L _ _ o r fr ad al ab am ak ah aw ar rg wf x sg wt rs i 16 hg hW (by omega) (by omega)) (hW.Fr (k := i) (by omega)) rfl hl.1 rfl rfl (Nat.le_of_ble_eq_true rfl) d_Wf_keep_20 ⟨Nat.le_of_ble_eq_true rfl, Nat.le_of_ble_eq_true rfl⟩ ⟨Nat.le_of_ble_eq_true rfl, Nat.le_of_ble_eq_true rfl⟩ (fun v9 L9 f26 H locs hp hI => ?_)
  refine W.cs (cells' := 0) (slots' := 0) rfl rfl ?_
  obtain ⟨hv9, rfl, x9, s9, hW, e1, e2, hs9, g9, ht9, hF9⟩ := hp
  cases hv9
  refine hw_stk (st' := []) rfl ?_
  exact hw_vret hx hb hr hlocks hI d_Wf_keep_23 ⟨rfl, rfl, x9, s9, hW, e1, e2, hs9, g9, ht9, hF9⟩
set_option maxHeartbeats 4000000 in
set_option maxRecDepth 100000 in
theorem c_Wf_keep_bad (l : Launch) (hlt : l.stackTraces = false) (D : va_G) (t0 : Nat) (L : List Nat) (f : Nat → va_E) (sz : Nat) (o r fr : Nat → Nat) (ad al ab am ak ah aw ar rg wf : Nat) (x : Nat → Nat) (sg : Nat → Bool) (wt rs : Nat → Nat) (i : Nat) (hg : Gl o r fr ad al ab am ak ah aw ar rg wf) (hW : Wd D L f o r fr ad al ab am ak ah aw ar rg wf x sg wt rs) (hi : i < 16) (hfit : ¬ FitX x) : vx_Met l y_Wf_keep (Cond.code y_Wf_keep b_Wf_keep 2 none :: TT) ({ frames := 7, cells := 1, slots := 6, locals := 130 } : Room) (hw_Pc t0 [.ref (wf), .int (nI i)] D L f sz) (hw_Q D L sz (fun _ _ _ => False)) (hw_X D L sz (fun E L' f' => E = "java/lang/IllegalStateException" ∧ L = L' ∧ f = f')) 1 6 (hw_A L sz) := by
  refine vx_ofW (cc := b_Wf_keep) (maxL := 2) (ret := none) (by decide) rfl ?_
  intro p e s m args below meth c s₁ B hml hout hv
  obtain ⟨rfl, rfl, hI⟩ := hw_start hv
  clear hv
  have hx := B.exec
  have hb := B.bytes
  have hr := B.returns
  have hlocks := B.notSynchronized
  have hown : s.vm.findClass "WallFractions" = some m.cls := findClass_of_methodNamed B.named
  have hT : ∀ w ∈ TT, w.before ([.ref (wf), .int (nI i)]).toArray s = true := fun w h => atoms_spec (ws := (Cond.code y_Wf_keep b_Wf_keep 2 none :: TT)) B.pre w (List.mem_cons_of_mem _ h)
  have S : CallFix p m c b_Wf_keep 2 s ([.ref (wf), .int (nI i)]).toArray TT "WallFractions" := ⟨hx, hb, hml, hown, hT⟩
  have hl := lv_entry ([.ref (wf), .int (nI i)]) (n := 2) (Nat.le_of_ble_eq_true rfl)
  rw [lg_entry_eq]
  generalize (lg_sl ([.ref (wf), .int (nI i)]) ++ List.replicate (2 - (lg_sl ([.ref (wf), .int (nI i)])).length) Slot.unset).toArray = ls at hl ⊢
  have hl : lv_has ls 2 [(0, .ref (wf)), (1, .int (nI i))] := hl
  have hY := hg.1
  have hF : Fm o r fr ad al ab am ak ah aw ar rg wf f f := Fm.refl
  have hs : ∀ z, z < 32 → x z = x z := fun _ _ => rfl
  have ht : ∀ k, k < 16 → sg k = sg k := fun _ _ => rfl
  refine lv_aload_n hx hb d_Wf_keep_0 rfl (lv_at hl 0 rfl) ?_
  refine ob_get S hI hW.Wf (C := R_Wf) (T := F_Wf) (N := 3) (ref := "WallFractions") rfl i_Wf 1 (by decide) rfl w_187 rfl d_Wf_keep_1 ?_
  refine hw_xV (As := []) (rest := []) S hI m_Rk_requireFit w_334 (c_Rk_requireFit_bad l hlt D t0 L _ _ o r fr ad al ab am ak ah aw ar rg wf x sg wt rs hg hW hfit) hW.Rk rfl hl.1 rfl rfl (Nat.le_of_ble_eq_true rfl) d_Wf_keep_4 ⟨Nat.le_of_ble_eq_true rfl, Nat.le_of_ble_eq_true rfl⟩ ⟨Nat.le_of_ble_eq_true rfl, Nat.le_of_ble_eq_true rfl⟩ (fun v9 L9 f27 H locs hp hI => hp.elim) (fun E9 ce9 q9 L9 f27 H locs hp hI hc9 hv9 hl9 => ?_)
  obtain ⟨rfl, rfl, rfl⟩ := hp
  exact hw_on hI hout hlocks hc9 hv9 hl9 (⟨rfl, rfl, rfl⟩) ⟨Nat.le_of_ble_eq_true rfl, Nat.le_of_ble_eq_true rfl⟩
set_option maxHeartbeats 4000000 in
set_option maxRecDepth 100000 in
theorem c_Wf_partOf_ok (l : Launch) (D : va_G) (t0 : Nat) (L : List Nat) (f : Nat → va_E) (sz : Nat) (o r fr : Nat → Nat) (ad al ab am ak ah aw ar rg wf : Nat) (x : Nat → Nat) (sg : Nat → Bool) (wt rs : Nat → Nat) (a q : Nat) (hg : Gl o r fr ad al ab am ak ah aw ar rg wf) (hW : Wd D L f o r fr ad al ab am ak ah aw ar rg wf x sg wt rs) (ha : a < 16) (hq : q ≤ 1) : Met l y_Wf_partOf (Cond.code y_Wf_partOf b_Wf_partOf 3 (some (.object "WallFractions$Whole")) :: TT) ({ frames := 7, cells := 0, slots := 0, locals := 135 } : Room) (hw_Pc t0 [.ref (wf), .int (nI a), .int (nI q)] D L f sz) (hw_Q D L sz (fun oc L' f' => oc = .returned (some (.ref (o (2 * a + q)))) ∧ L = L' ∧ f = f')) 0 0 (hw_A L sz) := by
  refine Met.ofW (cc := b_Wf_partOf) (maxL := 3) (ret := (some (.object "WallFractions$Whole"))) (by decide) rfl ?_
  intro p e s m args below meth c s₁ B hml hv
  obtain ⟨rfl, rfl, hI⟩ := hw_start hv
  clear hv
  have hx := B.exec
  have hb := B.bytes
  have hr := B.returns
  have hlocks := B.notSynchronized
  have hown : s.vm.findClass "WallFractions" = some m.cls := findClass_of_methodNamed B.named
  have hT : ∀ w ∈ TT, w.before ([.ref (wf), .int (nI a), .int (nI q)]).toArray s = true := fun w h => atoms_spec (ws := (Cond.code y_Wf_partOf b_Wf_partOf 3 (some (.object "WallFractions$Whole")) :: TT)) B.pre w (List.mem_cons_of_mem _ h)
  have S : CallFix p m c b_Wf_partOf 3 s ([.ref (wf), .int (nI a), .int (nI q)]).toArray TT "WallFractions" := ⟨hx, hb, hml, hown, hT⟩
  have hl := lv_entry ([.ref (wf), .int (nI a), .int (nI q)]) (n := 3) (Nat.le_of_ble_eq_true rfl)
  rw [lg_entry_eq]
  generalize (lg_sl ([.ref (wf), .int (nI a), .int (nI q)]) ++ List.replicate (3 - (lg_sl ([.ref (wf), .int (nI a), .int (nI q)])).length) Slot.unset).toArray = ls at hl ⊢
  have hl : lv_has ls 3 [(0, .ref (wf)), (1, .int (nI a)), (2, .int (nI q))] := hl
  skip
  have hY := hg.1
  have hF : Fm o r fr ad al ab am ak ah aw ar rg wf f f := Fm.refl
  have hs : ∀ z, z < 32 → x z = x z := fun _ _ => rfl
  have ht : ∀ k, k < 16 → sg k = sg k := fun _ _ => rfl
  refine lv_iload_n hx hb d_Wf_partOf_0 rfl (lv_at hl 1 rfl) ?_
  refine hw_cS (As := [.int (nI a)]) (rest := []) S hI m_Wf_requireRegister w_205 (c_Wf_requireRegister_ok l D t0 L _ _ a ha) hl.1 rfl rfl (Nat.le_of_ble_eq_true rfl) d_Wf_partOf_1 ⟨Nat.le_of_ble_eq_true rfl, Nat.le_of_ble_eq_true rfl⟩ ⟨Nat.le_of_ble_eq_true rfl, Nat.le_of_ble_eq_true rfl⟩ (fun v9 L9 f28 H locs hp hI => ?_)
  refine W.cs (cells' := 0) (slots' := 0) rfl rfl ?_
  obtain ⟨hv9, rfl, rfl⟩ := hp
  cases hv9
  refine hw_stk (st' := []) rfl ?_
  have hw9 := win_ok (lo := 0) (Nat.zero_le q) hq (by decide)
  refine lv_iload_n hx hb d_Wf_partOf_4 rfl (lv_at hl 2 rfl) ?_
  refine lv_i2l (v := lN q) hx hb d_Wf_partOf_5 (nI_l (by omega)) ?_
  refine lv_lconst (v := lN 0) hx hb d_Wf_partOf_6 rfl ?_
  refine lv_lconst (v := lN 1) hx hb d_Wf_partOf_7 rfl ?_
  refine hw_cS (As := [.long (lN q), .long (lN 0), .long (lN 1)]) (rest := []) S hI m_Wf_requireWithin w_279 (c_Wf_requireWithin_ok l D t0 L _ _ (lN q) (lN 0) (lN 1) hw9.1 hw9.2) hl.1 rfl rfl (Nat.le_of_ble_eq_true rfl) d_Wf_partOf_8 ⟨Nat.le_of_ble_eq_true rfl, Nat.le_of_ble_eq_true rfl⟩ ⟨Nat.le_of_ble_eq_true rfl, Nat.le_of_ble_eq_true rfl⟩ (fun v9 L9 f29 H locs hp hI => ?_)
  refine W.cs (cells' := 0) (slots' := 0) rfl rfl ?_
  obtain ⟨hv9, rfl, rfl⟩ := hp
  cases hv9
  refine hw_stk (st' := []) rfl ?_
  refine lv_iload_n hx hb d_Wf_partOf_11 rfl (lv_at hl 2 rfl) ?_
  refine hw_if_ne (tgt := 27) hx hb d_Wf_partOf_12 (by decide) (by omega) (fun c30 => ?_) (fun c30 => ?_)
  · have hq1 : q = 1 := by omega
    refine lv_aload_n hx hb d_Wf_partOf_27 rfl (lv_at hl 0 rfl) ?_
    refine ob_get S hI hW.Wf (C := R_Wf) (T := F_Wf) (N := 3) (ref := "WallFractions") rfl i_Wf 0 (by decide) rfl w_186 rfl d_Wf_partOf_28 ?_
    refine lv_iload_n hx hb d_Wf_partOf_31 rfl (lv_at hl 1 rfl) ?_
    refine rg_ld S hI hW.Rg (by omega) d_Wf_partOf_32 ?_
    refine ob_getN S hI (hW.Fr (by omega)) (C := R_Fr) (T := F_Fr) (N := 3) (ref := "WallFractions$Fraction") rfl i_Fr 1 (by decide) rfl (by decide +kernel) rfl d_Wf_partOf_33 ?_
    exact hw_aret hx hb hr hlocks hI d_Wf_partOf_36 ⟨by rw [hq1], rfl, rfl⟩
  · refine lv_aload_n hx hb d_Wf_partOf_15 rfl (lv_at hl 0 rfl) ?_
    refine ob_get S hI hW.Wf (C := R_Wf) (T := F_Wf) (N := 3) (ref := "WallFractions") rfl i_Wf 0 (by decide) rfl w_186 rfl d_Wf_partOf_16 ?_
    refine lv_iload_n hx hb d_Wf_partOf_19 rfl (lv_at hl 1 rfl) ?_
    refine rg_ld S hI hW.Rg (by omega) d_Wf_partOf_20 ?_
    refine ob_getN S hI (hW.Fr (by omega)) (C := R_Fr) (T := F_Fr) (N := 3) (ref := "WallFractions$Fraction") rfl i_Fr 0 (by decide) rfl (by decide +kernel) rfl d_Wf_partOf_21 ?_
    refine lv_goto (tgt := 36) hx hb d_Wf_partOf_24 (by decide) ?_
    exact hw_aret hx hb hr hlocks hI d_Wf_partOf_36 ⟨by rw [c30]; rfl, rfl, rfl⟩
set_option maxHeartbeats 4000000 in
set_option maxRecDepth 100000 in
theorem c_Wf_partOf_bad (l : Launch) (hlt : l.stackTraces = false) (D : va_G) (t0 : Nat) (L : List Nat) (f : Nat → va_E) (sz : Nat) (o r fr : Nat → Nat) (ad al ab am ak ah aw ar rg wf : Nat) (x : Nat → Nat) (sg : Nat → Bool) (wt rs : Nat → Nat) (r0 q0 : Int32) (hg : Gl o r fr ad al ab am ak ah aw ar rg wf) (hW : Wd D L f o r fr ad al ab am ak ah aw ar rg wf x sg wt rs) (hbad : (vr r0 && inR q0 0 1) = false) : vx_Met l y_Wf_partOf (Cond.code y_Wf_partOf b_Wf_partOf 3 (some (.object "WallFractions$Whole")) :: TT) ({ frames := 7, cells := 1, slots := 6, locals := 135 } : Room) (hw_Pc t0 [.ref (wf), .int (r0), .int (q0)] D L f sz) (hw_Q D L sz (fun _ _ _ => False)) (hw_X D L sz (fun E L' f' => E = "java/lang/IllegalArgumentException" ∧ L = L' ∧ f = f')) 1 6 (hw_A L sz) := by
  refine vx_ofW (cc := b_Wf_partOf) (maxL := 3) (ret := (some (.object "WallFractions$Whole"))) (by decide) rfl ?_
  intro p e s m args below meth c s₁ B hml hout hv
  obtain ⟨rfl, rfl, hI⟩ := hw_start hv
  clear hv
  have hx := B.exec
  have hb := B.bytes
  have hr := B.returns
  have hlocks := B.notSynchronized
  have hown : s.vm.findClass "WallFractions" = some m.cls := findClass_of_methodNamed B.named
  have hT : ∀ w ∈ TT, w.before ([.ref (wf), .int (r0), .int (q0)]).toArray s = true := fun w h => atoms_spec (ws := (Cond.code y_Wf_partOf b_Wf_partOf 3 (some (.object "WallFractions$Whole")) :: TT)) B.pre w (List.mem_cons_of_mem _ h)
  have S : CallFix p m c b_Wf_partOf 3 s ([.ref (wf), .int (r0), .int (q0)]).toArray TT "WallFractions" := ⟨hx, hb, hml, hown, hT⟩
  have hl := lv_entry ([.ref (wf), .int (r0), .int (q0)]) (n := 3) (Nat.le_of_ble_eq_true rfl)
  rw [lg_entry_eq]
  generalize (lg_sl ([.ref (wf), .int (r0), .int (q0)]) ++ List.replicate (3 - (lg_sl ([.ref (wf), .int (r0), .int (q0)])).length) Slot.unset).toArray = ls at hl ⊢
  have hl : lv_has ls 3 [(0, .ref (wf)), (1, .int (r0)), (2, .int (q0))] := hl
  have hY := hg.1
  have hF : Fm o r fr ad al ab am ak ah aw ar rg wf f f := Fm.refl
  have hs : ∀ z, z < 32 → x z = x z := fun _ _ => rfl
  have ht : ∀ k, k < 16 → sg k = sg k := fun _ _ => rfl
  refine lv_iload_n hx hb d_Wf_partOf_0 rfl (lv_at hl 1 rfl) ?_
  rcases hB0 : vr r0 with _ | _
  · refine hw_xS (As := [.int (r0)]) (rest := []) S hI m_Wf_requireRegister w_205 (c_Wf_requireRegister_bad l hlt D t0 L _ _ r0 (vr_no hB0)) hl.1 rfl rfl (Nat.le_of_ble_eq_true rfl) d_Wf_partOf_1 ⟨Nat.le_of_ble_eq_true rfl, Nat.le_of_ble_eq_true rfl⟩ ⟨Nat.le_of_ble_eq_true rfl, Nat.le_of_ble_eq_true rfl⟩ (fun v9 L9 f31 H locs hp hI => hp.elim) (fun E9 ce9 q9 L9 f31 H locs hp hI hc9 hv9 hl9 => ?_)
    obtain ⟨rfl, rfl, rfl⟩ := hp
    exact hw_on hI hout hlocks hc9 hv9 hl9 (⟨rfl, rfl, rfl⟩) ⟨Nat.le_of_ble_eq_true rfl, Nat.le_of_ble_eq_true rfl⟩
  · obtain ⟨j0, hj0, rfl⟩ := vr_of hB0
    refine hw_cS (As := [.int (nI j0)]) (rest := []) S hI m_Wf_requireRegister w_205 (c_Wf_requireRegister_ok l D t0 L _ _ j0 hj0) hl.1 rfl rfl (Nat.le_of_ble_eq_true rfl) d_Wf_partOf_1 ⟨Nat.le_of_ble_eq_true rfl, Nat.le_of_ble_eq_true rfl⟩ ⟨Nat.le_of_ble_eq_true rfl, Nat.le_of_ble_eq_true rfl⟩ (fun v9 L9 f32 H locs hp hI => ?_)
    refine W.cs (cells' := 0) (slots' := 0) rfl rfl ?_
    obtain ⟨hv9, rfl, rfl⟩ := hp
    cases hv9
    refine hw_stk (st' := []) rfl ?_
    have hB1 : inR q0 0 1 = false := by rw [hB0] at hbad; exact hbad
    refine lv_iload_n hx hb d_Wf_partOf_4 rfl (lv_at hl 2 rfl) ?_
    refine lv_i2l hx hb d_Wf_partOf_5 rfl ?_
    refine lv_lconst (v := lN 0) hx hb d_Wf_partOf_6 rfl ?_
    refine lv_lconst (v := lN 1) hx hb d_Wf_partOf_7 rfl ?_
    refine hw_xS (As := [.long ((q0).toInt64), .long (lN 0), .long (lN 1)]) (rest := []) S hI m_Wf_requireWithin w_279 (c_Wf_requireWithin_bad l hlt D t0 L _ _ q0.toInt64 (lN 0) (lN 1) (inR_no (by decide) (by decide) hB1)) hl.1 rfl rfl (Nat.le_of_ble_eq_true rfl) d_Wf_partOf_8 ⟨Nat.le_of_ble_eq_true rfl, Nat.le_of_ble_eq_true rfl⟩ ⟨Nat.le_of_ble_eq_true rfl, Nat.le_of_ble_eq_true rfl⟩ (fun v9 L9 f33 H locs hp hI => hp.elim) (fun E9 ce9 q9 L9 f33 H locs hp hI hc9 hv9 hl9 => ?_)
    obtain ⟨rfl, rfl, rfl⟩ := hp
    exact hw_on hI hout hlocks hc9 hv9 hl9 (⟨rfl, rfl, rfl⟩) ⟨Nat.le_of_ble_eq_true rfl, Nat.le_of_ble_eq_true rfl⟩

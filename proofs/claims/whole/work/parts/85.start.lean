/-! THE CLAIM OUT OF ONE WALK OF THE LAW'S BODY. Your part is whole_start (and what it stands on); all else here is the same for every law, but numbers. -/
def R_law : String := "WallFractionsLaw"
def lw_P (b : Addr) (xs : List Int32) (args : Array Value) (s : State) : Prop := args = #[.ref b] ∧ s.IntsAt b xs ∧ xs.length ≤ 3072 ∧ (Jvm.Cond.and given_1 narrow_1).before args s = true
def lw_Q (_ : Array Value) (s : State) (o : Outcome) (t : State) : Prop := o = .returned (some (.int 1)) ∧ Framed s o t [] 601024 7293034
def lw_Z (below : List Frame) (a : Array Value) (s : State) : State → Prop := fun t => ∃ o, t.status = .running ∧ Ended t below o ∧ lw_Q a s o t
/-- the law's own end, with 1 on the stack, nothing written that was there before, its room as the claim has it -/
theorem lw_ret {p : Program} {l : Launch} {e : Env} {s : State} {m : MethodId} {below : List Frame} {meth : Method} {c : Code} {b : Nat} (hx : p.tables.exec = Jvm.exec) (hb : c.code = code) (hr : meth.sig.returnType = ret) (hlocks : meth.locks = false) {pc : Nat} {H : Heap} {ls : Array Slot} (hdg : decode code pc = .ok (.ireturn, 1)) : W p l e room_1 s m #[Value.ref b] below meth c H [] 601024 7293034 (lw_Z below #[Value.ref b] s) (F0 m pc ls [.int 1]) := by
  intro T hT X
  obtain ⟨fs, hret, hrun, hended, hW, hframe⟩ := X.leave (v := some (.int 1)) (hlocks := hlocks) (fun h => by rw [hr] at h; cases h)
  have hmeth' : T.vm.method? m = some meth := X.method'
  refine ⟨T.setFrames fs, ?_, .returned (some (.int 1)), hrun, hended, rfl, ⟨_, rfl⟩, hW, hframe⟩
  jvm_step X.here [X.here.top, hx, hb, hdg, hmeth', hr, ret, narrow_b1]
  (try refine ⟨rfl, ?_⟩); (try refine ⟨rfl, ?_⟩)
  first | (intro acts; rw [hret _ acts rfl rfl rfl]) | rw [hret _ _ rfl rfl rfl]
  exact Steps.refl _
/-- what holds at the law's entry: the machine, the code, the tables' words (any of lw_tbl by 'hts w (by decide +kernel)'), the script of L ints xs at the cell b, what the Statement gives of the start (any of its parts by flat_of_before) -/
def lw_At (p : Program) (s : State) (m : MethodId) (meth : Method) (c : Code) (b L : Nat) (xs : Nat → Int32) : Prop :=
  p.tables.exec = Jvm.exec ∧ c.code = code ∧ meth.sig.returnType = ret ∧ c.maxLocals = 7 ∧ s.vm.findClass R_law = some m.cls ∧ (∀ w ∈ lw_tbl, w.before #[Value.ref b] s = true) ∧ va_X b L xs s s.heap ∧ b < s.heap.size ∧ meth.locks = false ∧ (Jvm.Cond.and given_1 narrow_1).before #[Value.ref b] s = true
-- ===== YOUR PART BEGINS =====
set_option maxHeartbeats 8000000 in
set_option maxRecDepth 100000 in
theorem whole_start {p : Program} {e : Env} {s : State} {m : MethodId} {below : List Frame} {meth : Method} {c : Code} (l : Launch) (hlt : l.stackTraces = false) {b L : Nat} {xs : Nat → Int32} (hL : L ≤ 3072) (C0 : lw_At p s m meth c b L xs) : W p l e room_1 s m #[Value.ref b] below meth c s.heap [] 0 0 (lw_Z below #[Value.ref b] s) (entryFrame m ([Value.ref b] : List Value).toArray 7) := by
  obtain ⟨hx, hb, hr, hml, hown, hts, hX, hbl, hlocks, hgv⟩ := id C0
  obtain ⟨Ls, hLs⟩ : ∃ Ls, Ls = L := ⟨_, rfl⟩
  rw [← hLs] at hX hL
  have hbA : ¬ hw_A [] s.heap.size b := fun h => h.elim (fun q => absurd q List.not_mem_nil) (fun q => by omega)
  have hT : ∀ w ∈ TT, w.before #[Value.ref b] s = true := fun w h => hts w (List.mem_filter.mp h).1
  have S : CallFix p m c code 7 s #[Value.ref b] TT "WallFractionsLaw" := ⟨hx, hb, hml, hown, hT⟩
  obtain ⟨D, t0, hI⟩ := hw_entry hts hgv (fun _ => .inr (0, []))
  have hl := lv_entry ([.ref b]) (n := 7) (Nat.le_of_ble_eq_true rfl)
  rw [lg_entry_eq]
  generalize (lg_sl ([.ref b]) ++ List.replicate (7 - (lg_sl ([.ref b])).length) Slot.unset).toArray = ls at hl ⊢
  have hl : lv_has ls 7 [(0, .ref b)] := hl
  refine hw_new S hI (ci := 6) (C := R_Wf) (T := F_Wf) (N := 3) rfl i_Wf t_Wf t_Wf_ok w_18 w_19 w_1 (fs := [.null, .null, .null]) (by decide +kernel) (Nat.le_of_ble_eq_true rfl) (Nat.le_of_ble_eq_true rfl) d_La_law_0 (fun wf L1 f1 H hI hq1 hwf hk1 => ?_)
  refine W.cs (cells' := 1) (slots' := 3) rfl rfl ?_
  refine lv_dup hx hb d_La_law_3 rfl ?_
  refine hw_cI (As := []) (rest := [.ref (wf)]) S hI m_Wf_init w_20 (c_Wf_init l D t0 L1 f1 _ wf hwf) hl.1 rfl rfl (Nat.le_of_ble_eq_true rfl) d_La_law_4 ⟨Nat.le_of_ble_eq_true rfl, Nat.le_of_ble_eq_true rfl⟩ ⟨Nat.le_of_ble_eq_true rfl, Nat.le_of_ble_eq_true rfl⟩ (fun v9 L2 f2 H locs hp hI => ?_)
  obtain ⟨hv9, o, r, fr, ad, al, ab, am, ak, ah, aw, ar, rg, hGl, hS, -, hE1⟩ := hp
  cases hv9
  refine W.cs (cells' := 119) (slots' := 2177) rfl rfl ?_
  refine hw_stk (st' := [.ref (wf)]) rfl ?_
  refine lv_astore_n (lv' := [(1, .ref (wf)), (0, .ref (b))]) hx hb d_La_law_7 rfl hl (by decide) rfl (fun ls hl => ?_)
  refine hw_new S hI (ci := 7) (C := R_Mo) (T := F_Mo) (N := 6) rfl i_Mo t_Mo t_Mo_ok w_760 w_761 w_8 (fs := [.int (nI 0), .null, .null, .null, .null, .null]) (by decide +kernel) (Nat.le_of_ble_eq_true rfl) (Nat.le_of_ble_eq_true rfl) d_La_law_8 (fun mm L3 f3 H hI hq3 hmm hk3 => ?_)
  refine W.cs (cells' := 120) (slots' := 2183) rfl rfl ?_
  refine lv_dup hx hb d_La_law_11 rfl ?_
  refine hw_cI (As := []) (rest := [.ref (mm)]) S hI m_Mo_init w_762 (c_Mo_init l D t0 L3 f3 _ mm hmm) hl.1 rfl rfl (Nat.le_of_ble_eq_true rfl) d_La_law_12 ⟨Nat.le_of_ble_eq_true rfl, Nat.le_of_ble_eq_true rfl⟩ ⟨Nat.le_of_ble_eq_true rfl, Nat.le_of_ble_eq_true rfl⟩ (fun v9 L4 f4 H locs hp hI => ?_)
  obtain ⟨hv9, mc, ml, mg, mw, mr, n1, n2, n3, n4, n5, hM, hE2⟩ := hp
  cases hv9
  refine W.cs (cells' := 125) (slots' := 8669) rfl rfl ?_
  refine hw_stk (st' := [.ref (mm)]) rfl ?_
  have hK : ∀ z, z ∈ L2 → z ∈ L4 ∧ f4 z = f2 z := fun z hz => ⟨(hE2 z (hk3 z hz).1).1, ((hE2 z (hk3 z hz).1).2 (fun e => hq3 (e ▸ hz))).trans (hk3 z hz).2⟩
  have hnM : ∀ q, OwM mm mc ml mg mw mr q → q ∉ L2 := fun q hq h => by
    rcases hq with e | e | e | e | e | e
    · exact hq3 (e ▸ h)
    · exact n1 (e ▸ (hk3 _ h).1)
    · exact n2 (e ▸ (hk3 _ h).1)
    · exact n3 (e ▸ (hk3 _ h).1)
    · exact n4 (e ▸ (hk3 _ h).1)
    · exact n5 (e ▸ (hk3 _ h).1)
  have hA2 := hS.mem
  have hS := hS.keep (fun q hq => hK q (hS.mem q hq))
  refine lv_astore_n (lv' := [(2, .ref (mm)), (1, .ref (wf)), (0, .ref (b))]) hx hb d_La_law_15 rfl hl (by decide) rfl (fun ls hl => ?_)
  refine lv_iconst (v := nI 1) hx hb d_La_law_16 (by decide) ?_
  refine hw_newL S hI w_51 (by decide) (Nat.le_of_ble_eq_true rfl) (Nat.le_of_ble_eq_true rfl) d_La_law_17 (fun ao L5 f5 H hI hq5 hao hk5 => ?_)
  refine W.cs (cells' := 126) (slots' := 8670) rfl rfl ?_
  have hna := fun (q : Nat) hq => (fun (e : q = ao) => hq5 (e ▸ (hK q (hA2 q hq)).1) : q ≠ ao)
  have hnb : ¬ OwM mm mc ml mg mw mr ao := fun h => hq5 (hM.mem ao h)
  have hS := hS.keep (fun q hq => hk5 q (hS.mem q hq))
  have hM := hM.keep (fun q hq => hk5 q (hM.mem q hq))
  have hG : LG o r fr ad al ab am ak ah aw ar rg wf mm mc ml mg mw mr ao := ⟨hGl, fun q hq => ⟨fun h => hnM q h (hA2 q hq), hna q hq⟩, hnb⟩
  refine lv_astore_n (lv' := [(3, .ref (ao)), (2, .ref (mm)), (1, .ref (wf)), (0, .ref (b))]) hx hb d_La_law_19 rfl hl (by decide) rfl (fun ls hl => ?_)
  refine lv_iconst (v := nI 0) hx hb d_La_law_20 (by decide) ?_
  refine lv_istore (lv' := [(4, .int (nI 0)), (3, .ref (ao)), (2, .ref (mm)), (1, .ref (wf)), (0, .ref (b))]) hx hb d_La_law_21 hl (by decide) rfl (fun ls hl => ?_)
  have loop : ∀ (g k : Nat) (σ : Sg) (wt : Nat → Nat) (f : Nat → va_E) (H : Heap) (locs : List Loc) (ls : Array Slot), k + g = 513 → LI D t0 s L5 f H locs o r fr ad al ab am ak ah aw ar rg wf mm mc ml mg mw mr ao σ wt → lv_has ls 7 [(4, .int (nI (6 * k))), (3, .ref (ao)), (2, .ref (mm)), (1, .ref (wf)), (0, .ref (b))] → W p l e room_1 s m #[Value.ref b] below meth c H locs (126 + k) (8670 + 6 * k) (lw_Z below #[Value.ref b] s) (F0 m 23 ls []) := by
    intro g
    induction g with
    | zero =>
      intro k σ wt f H locs ls hkg h9 hl
      have hI := h9.1
      refine lv_iload hx hb d_La_law_23 (lv_at hl 0 rfl) ?_
      refine lv_aload_n hx hb d_La_law_25 rfl (lv_at hl 4 rfl) ?_
      refine va_slen hx hb hX hbl hbA hI.2.2.1 d_La_law_26 ?_
      refine lv_bipush (v := nI 6) hx hb d_La_law_27 (by decide) ?_
      refine lv_isub hx hb d_La_law_29 ?_
      refine lv_icmp_gt (tgt := 1346) hx hb d_La_law_30 (by decide) (fun c1 => ?_) (fun c1 => ?_)
      · have hlt6 := (gt6 (by omega) (by omega)).mp c1
        refine lv_iconst (v := nI 1) hx hb d_La_law_1346 (by decide) ?_
        refine va_forget (fun q hq => (hI.2.2.1.2.2 q hq).elim (fun h => absurd h List.not_mem_nil) id) ?_
        exact W.widen (k := 601024) (n := 7293034) (by omega) (by omega) (lw_ret hx hb hr hlocks d_La_law_1347)
      · have hge6 : ¬ Ls < 6 * k + 6 := fun h => c1 ((gt6 (by omega) (by omega)).mpr h)
        exact absurd hge6 (by omega)
    | succ g ih =>
      intro k σ wt f H locs ls hkg h9 hl
      have hI := h9.1
      refine lv_iload hx hb d_La_law_23 (lv_at hl 0 rfl) ?_
      refine lv_aload_n hx hb d_La_law_25 rfl (lv_at hl 4 rfl) ?_
      refine va_slen hx hb hX hbl hbA hI.2.2.1 d_La_law_26 ?_
      refine lv_bipush (v := nI 6) hx hb d_La_law_27 (by decide) ?_
      refine lv_isub hx hb d_La_law_29 ?_
      refine lv_icmp_gt (tgt := 1346) hx hb d_La_law_30 (by decide) (fun c1 => ?_) (fun c1 => ?_)
      · have hlt6 := (gt6 (by omega) (by omega)).mp c1
        refine lv_iconst (v := nI 1) hx hb d_La_law_1346 (by decide) ?_
        refine va_forget (fun q hq => (hI.2.2.1.2.2 q hq).elim (fun h => absurd h List.not_mem_nil) id) ?_
        exact W.widen (k := 601024) (n := 7293034) (by omega) (by omega) (lw_ret hx hb hr hlocks d_La_law_1347)
      · have hge6 : ¬ Ls < 6 * k + 6 := fun h => c1 ((gt6 (by omega) (by omega)).mpr h)
        refine lv_aload_n hx hb d_La_law_33 rfl (lv_at hl 4 rfl) ?_
        refine lv_iload hx hb d_La_law_34 (lv_at hl 0 rfl) ?_
        refine va_sld hx hb hX hbl hbA hI.2.2.1 (vp_in_nI (show 6 * k < Ls by omega) (by omega)) d_La_law_36 ?_
        refine hw_ti (show _ = xs (6 * k) from by rw [nI_clamp (by omega)]) ?_
        refine lv_bipush (v := nI 31) hx hb d_La_law_37 (by decide) ?_
        refine lv_iand hx hb d_La_law_39 ?_
        obtain ⟨v, hv, hve⟩ := and31 (xs (6 * k))
        refine hw_ti (show _ = nI v from hve) ?_
        have next : ∀ (f2 : Nat → va_E) (H2 : Heap) (locs2 : List Loc) (ls2 : Array Slot) (σ2 : Sg) (wt2 : Nat → Nat), LI D t0 s L5 f2 H2 locs2 o r fr ad al ab am ak ah aw ar rg wf mm mc ml mg mw mr ao σ2 wt2 → lv_has ls2 7 [(4, .int (nI (6 * k))), (3, .ref (ao)), (2, .ref (mm)), (1, .ref (wf)), (0, .ref (b))] → W p l e room_1 s m #[Value.ref b] below meth c H2 locs2 (126 + k + 1) (8670 + 6 * k + 6) (lw_Z below #[Value.ref b] s) (F0 m 1340 ls2 []) := by
          intro f2 H2 locs2 ls σ2 wt2 h9 hl
          refine lv_iinc (v := nI ((6 * k) + 6)) (lv' := [(4, .int (nI ((6 * k) + 6))), (3, .ref (ao)), (2, .ref (mm)), (1, .ref (wf)), (0, .ref (b))]) hx hb d_La_law_1340 hl (k := 0) rfl (nI_add _ 6) (by decide) rfl (fun ls hl => ?_)
          refine lv_goto (tgt := 23) hx hb d_La_law_1343 (by decide) ?_
          exact W.cs (cells' := 126 + (k + 1)) (slots' := 8670 + 6 * (k + 1)) (by omega) (by omega) (ih (k + 1) _ _ _ _ _ _ (by omega) h9 hl)
        rcases Nat.lt_or_ge v 18 with hv18 | hv18
        · rcases (show v = 0 ∨ v = 1 ∨ v = 2 ∨ v = 3 ∨ v = 4 ∨ v = 5 ∨ v = 6 ∨ v = 7 ∨ v = 8 ∨ v = 9 ∨ v = 10 ∨ v = 11 ∨ v = 12 ∨ v = 13 ∨ v = 14 ∨ v = 15 ∨ v = 16 ∨ v = 17 by omega) with rfl | rfl | rfl | rfl | rfl | rfl | rfl | rfl | rfl | rfl | rfl | rfl | rfl | rfl | rfl | rfl | rfl | rfl
          · exact lv_tableIn (tgt := 128) (off := 88) hx hb d_La_law_40 (by decide) (by decide) (by decide) (by decide) (k_set hlt S hX hbl hG h9 (by omega) hL (by omega) (by omega) hl next)
          · exact lv_tableIn (tgt := 252) (off := 212) hx hb d_La_law_40 (by decide) (by decide) (by decide) (by decide) (k_more hlt S hX hbl hG h9 (by omega) hL (by omega) (by omega) hl next)
          · exact lv_tableIn (tgt := 300) (off := 260) hx hb d_La_law_40 (by decide) (by decide) (by decide) (by decide) (k_add hlt S hX hbl hG h9 (by omega) hL (by omega) (by omega) hl next)
          · exact lv_tableIn (tgt := 360) (off := 320) hx hb d_La_law_40 (by decide) (by decide) (by decide) (by decide) (k_subtract hlt S hX hbl hG h9 (by omega) hL (by omega) (by omega) hl next)
          · exact lv_tableIn (tgt := 420) (off := 380) hx hb d_La_law_40 (by decide) (by decide) (by decide) (by decide) (k_multiply hlt S hX hbl hG h9 (by omega) hL (by omega) (by omega) hl next)
          · exact lv_tableIn (tgt := 480) (off := 440) hx hb d_La_law_40 (by decide) (by decide) (by decide) (by decide) (k_divide hlt S hX hbl hG h9 (by omega) hL (by omega) (by omega) hl next)
          · exact lv_tableIn (tgt := 540) (off := 500) hx hb d_La_law_40 (by decide) (by decide) (by decide) (by decide) (k_power hlt S hX hbl hG h9 (by omega) hL (by omega) (by omega) hl next)
          · exact lv_tableIn (tgt := 600) (off := 560) hx hb d_La_law_40 (by decide) (by decide) (by decide) (by decide) (k_binomial hlt S hX hbl hG h9 (by omega) hL (by omega) (by omega) hl next)
          · exact lv_tableIn (tgt := 660) (off := 620) hx hb d_La_law_40 (by decide) (by decide) (by decide) (by decide) (k_round hlt S hX hbl hG h9 (by omega) hL (by omega) (by omega) hl next)
          · exact lv_tableIn (tgt := 732) (off := 692) hx hb d_La_law_40 (by decide) (by decide) (by decide) (by decide) (k_root hlt S hX hbl hG h9 (by omega) hL (by omega) (by omega) hl next)
          · exact lv_tableIn (tgt := 792) (off := 752) hx hb d_La_law_40 (by decide) (by decide) (by decide) (by decide) (k_compare hlt S hX hbl hG h9 (by omega) hL (by omega) (by omega) hl next)
          · exact lv_tableIn (tgt := 860) (off := 820) hx hb d_La_law_40 (by decide) (by decide) (by decide) (by decide) (k_sign hlt S hX hbl hG h9 (by omega) hL (by omega) (by omega) hl next)
          · exact lv_tableIn (tgt := 916) (off := 876) hx hb d_La_law_40 (by decide) (by decide) (by decide) (by decide) (k_digits hlt S hX hbl hG h9 (by omega) hL (by omega) (by omega) hl next)
          · exact lv_tableIn (tgt := 984) (off := 944) hx hb d_La_law_40 (by decide) (by decide) (by decide) (by decide) (k_digit hlt S hX hbl hG h9 (by omega) hL (by omega) (by omega) hl next)
          · exact lv_tableIn (tgt := 1064) (off := 1024) hx hb d_La_law_40 (by decide) (by decide) (by decide) (by decide) (k_behind hlt S hX hbl hG h9 (by omega) hL (by omega) (by omega) hl next)
          · exact lv_tableIn (tgt := 1132) (off := 1092) hx hb d_La_law_40 (by decide) (by decide) (by decide) (by decide) (k_modulo hlt S hX hbl hG h9 (by omega) hL (by omega) (by omega) hl next)
          · exact lv_tableIn (tgt := 1212) (off := 1172) hx hb d_La_law_40 (by decide) (by decide) (by decide) (by decide) (k_weight hlt S hX hbl hG h9 (by omega) hL (by omega) (by omega) hl next)
          · exact lv_tableIn (tgt := 1280) (off := 1240) hx hb d_La_law_40 (by decide) (by decide) (by decide) (by decide) (k_share hlt S hX hbl hG h9 (by omega) hL (by omega) (by omega) hl next)
        · refine lv_tableOut (tgt := 1340) hx hb d_La_law_40 (Or.inr (by rw [nI_toInt (by omega)]; omega)) (by decide) ?_
          exact W.widen (k := 126 + k + 1) (n := 8670 + 6 * k + 6) (by omega) (by omega) (next _ _ _ _ _ _ h9 hl)
  exact loop 513 0 σ0 (fun _ => 0) _ _ _ _ (by decide) ⟨hI, hS, ⟨_, hM⟩, ⟨_, hao⟩, σ0_ok⟩ hl
-- ===== YOUR PART ENDS =====
set_option maxHeartbeats 4000000 in
theorem lw_walk (l : Launch) (hlt : l.stackTraces = false) (b : Addr) (xs : List Int32) : MetFree l x (headSpec (Jvm.Cond.code x code maxLocals ret :: tables_1) room_1) (lw_P b xs) (fun _ _ _ _ _ => True) lw_Q := by
  refine MetFree.of_bodyS (code := code) (maxLocals := maxLocals) (ret := ret) (by decide) ?_ ?_
  · intro args s m h hn
    obtain ⟨meth, c, h1, h2, h3, h4, h5, h6, -, -⟩ := Cond.code_spec hn (atoms_spec (ws := Jvm.Cond.code x code maxLocals ret :: tables_1) h _ List.mem_cons_self)
    exact ⟨meth, c, h1, h2, h3, h4, h5, h6⟩
  · intro p e s m args below meth c s₁ B hml0 hP _
    obtain ⟨rfl, hx, hbd, hgv⟩ := hP
    obtain ⟨scr, harrAt, hlist, hof, hsmall⟩ := hx
    obtain ⟨hcb, hkn, -, -⟩ := State.arrayAt?_spec harrAt
    have hown : s.vm.findClass R_law = some m.cls := findClass_of_methodNamed B.named
    have hts0 : ∀ c ∈ (Jvm.Cond.code x code maxLocals ret :: tables_1), c.before #[Value.ref b] s = true := atoms_spec (ws := Jvm.Cond.code x code maxLocals ret :: tables_1) B.pre
    have hts : ∀ w ∈ lw_tbl, w.before #[Value.ref b] s = true := k2_hts_sels lw_privs (fun w hw => hts0 w (List.mem_cons_of_mem _ hw)) lw_privs_ok
    have hml : c.maxLocals = 7 := B.maxLocals_eq (hts0 _ List.mem_cons_self)
    have X₀ : Stand p l e room_1 s m #[Value.ref b] below meth c s₁ [] 0 0 := Stand.of_body B
    have hh0 : s₁.heap = s.heap := by rw [B.state]; rfl
    have hsz : scr.slots.size = xs.length := by rw [← Array.length_toList, hlist, List.length_map]
    have hval : ∀ j : Nat, j < xs.length → scr.slots[j]? = some (.int (xs.getD j 0)) := fun j hj => by
      rw [← Array.getElem?_toList, hlist]
      simp [hj]
    have hbl : b < s.heap.size := (Array.getElem?_eq_some_iff.mp hcb).1
    have hX : va_X b xs.length (fun j => xs.getD j 0) s s.heap := ⟨scr, hcb, hof, hkn, hsz, hval⟩
    have K : W p l e room_1 s m #[Value.ref b] below meth c s₁.heap [] 0 0 (lw_Z below #[Value.ref b] s) (entryFrame m ([Value.ref b] : List Value).toArray 7) := by
      rw [hh0]
      exact whole_start l hlt hbd ⟨B.exec, B.bytes, B.returns, hml, hown, hts, hX, hbl, B.notSynchronized, hgv⟩
    obtain ⟨t, a1, o, b1, b2, b3⟩ := K s₁ rfl X₀
    exact ⟨t, o, a1, b1, b2, b3⟩
theorem lw_pre_spec {args : Array Value} {s : State} (h : (Jvm.Cond.and given_1 narrow_1).before args s = true) (hr : rest_1_c.before args s = true) : ∃ (b : Addr) (xs : List Int32), lw_P b xs args s := by
  have hs := flat_of_before _ h
  have hq := flat_of_before _ hr
  have hc : (Cond.count 1).before args s = true := hs _ (by decide +kernel)
  have harr : (Cond.arrayOf (.arg 0) .int).before args s = true := hs _ (by decide +kernel)
  have hle : (Cond.le (.length (.arg 0)) (.int 3072)).before args s = true := hs _ (by decide +kernel)
  have hlen : (Cond.isInt (.length (.arg 0))).before args s = true := hq _ (by decide +kernel)
  have hall : (Cond.all (.arg 0) (.isInt (.elem (.arg 0) (.index 0)))).before args s = true := hq _ (by decide +kernel)
  obtain ⟨b, xs, hb, hx⟩ := State.ints_of_pre rfl harr hlen hall
  have hsm : xs.length < 2 ^ 31 := hx.choose_spec.2.2.2
  have hev : (Term.length (.arg 0)).eval args s none [] s = some (.int xs.length.toInt32) := hx.length_eval hb
  have hv := Cond.le_ints hev (show (Term.int 3072).eval args s none [] s = some (.int 3072) from rfl)
  have hd : xs.length.toInt32 ≤ 3072 := by
    simpa [Cond.before, Cond.holds, hv] using hle
  have hN : xs.length ≤ 3072 := (Int32.ofNat_le_ofNat hsm (by decide)).mp (show Int32.ofNat xs.length ≤ Int32.ofNat 3072 from hd)
  exact ⟨b, xs, Cond.one_arg hc (show args[0]? = some (.ref b) from hb), hx, hN, h⟩
theorem lw_comes (l : Launch) (hlt : l.stackTraces = false) : Comes l x (Jvm.Cond.code x code maxLocals ret :: tables_1) room_1 (fun tb e args s => Calls_1 tb e args s ∧ rest_1 tb e args s ∧ Pre_1 tb e args s)
    (fun _ _ args s o t => lw_Q args s o t) := by
  intro p e ha hc hk s m args below hf hfit hheap happ hpre
  obtain ⟨b, xs, hP⟩ := lw_pre_spec hpre.2.2 hpre.2.1
  obtain ⟨k, o, h1, h2, h3, hQ⟩ := lw_walk l hlt b xs p e ha hc hk s m args below hf ((Spec.applies_iff_loose hf).mp happ).1 hP trivial
  exact ⟨k, o, h1, h2, h3, hQ⟩
theorem lw_frame {s t : State} {o : Outcome} {args : Array Value} (h : Framed s o t [] 601024 7293034) :
    Framed s o t (fieldLocs frame_1_writes args s ++ arrayLocs frame_1_arrays args s ++ staticLocs frame_1_statics s) 601024 7293034 := h
theorem lw_limb (L : Cond) (hL : ∀ (args : Array Value) (s t : State), L.after args s (.returned (some (.int 1))) t = true) :
    ArmFor flags0 classFile x code maxLocals ret World_1 tables_1 room_1 Calls_1 rest_1 Pre_1
      (fun tb e a s o t => postC L tb e a s o t ∧ Framed s o t (fieldLocs frame_1_writes a s ++ arrayLocs frame_1_arrays a s ++ staticLocs frame_1_statics s) 601024 7293034) := by
  intro l hfl _ _ p e ha hc hk s m args below hf hfit hheap happ hpre
  have hlt : l.stackTraces = false := by unfold Launch.stackTraces; rw [hfl]; decide
  obtain ⟨k, o, h1, h2, h3, rfl, hF⟩ := lw_comes l hlt p e ha hc hk s m args below hf hfit hheap happ hpre
  exact ⟨k, _, h1, h2, h3, hL args s _, lw_frame hF⟩
theorem i_vc : Claimed_1_1 ∧ Claimed_1_2 := ⟨lw_limb limb_1_1 (fun args s t => by simp [limb_1_1, Cond.after, Cond.holds, Cond.value]), lw_limb limb_1_2 (fun args s t => Cond.after_iff.mpr (by
  first | (rw [show limb_1_2 = Cond.eq .result (.int 1) from rfl, Cond.eq_ints (x := 1) (y := 1) rfl rfl]; simp; done) | (simp [limb_1_2, Cond.value, Term.eval]; done)))⟩

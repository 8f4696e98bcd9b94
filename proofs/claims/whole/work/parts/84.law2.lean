theorem aDgt_0 {σ : Sg} {a p k : Int32} (h : nI (aDgt σ a p k).1 = 0) : (aDgt σ a p k).1 = 0 := by
  revert h
  unfold aDgt
  split
  · split
    · intro h; exact absurd h (by decide)
    · intro _; rfl
  · intro h; exact absurd h (by decide)
set_option maxHeartbeats 4000000 in
set_option maxRecDepth 100000 in
theorem k_set {p : Program} {l : Launch} {e : Env} {s : State} {m : MethodId} {below : List Frame} {meth : Method} {c : Code} {b Ls : Nat} {xs : Nat → Int32} {D : va_G} {t0 : Nat} {L : List Nat} {f : Nat → va_E} {H : Heap} {locs : List Loc} {cells slots : Nat} {Q : State → Prop} {ls : Array Slot} {o r fr : Nat → Nat} {ad al ab am ak ah aw ar rg wf mm mc ml mg mw mr ao : Nat} {σ : Sg} {wt : Nat → Nat} {i : Nat} (hlt : l.stackTraces = false) (S : CallFix p m c code 7 s #[Value.ref b] TT "WallFractionsLaw") (hX : va_X b Ls xs s s.heap) (hbl : b < s.heap.size) (hG : LG o r fr ad al ab am ak ah aw ar rg wf mm mc ml mg mw mr ao) (h9 : LI D t0 s L f H locs o r fr ad al ab am ak ah aw ar rg wf mm mc ml mg mw mr ao σ wt) (hi : i + 6 ≤ Ls) (hLs : Ls ≤ 3072) (hc : cells + 1 ≤ 601024) (hs : slots + 6 ≤ 7293034) (hl : lv_has ls 7 [(4, .int (nI i)), (3, .ref (ao)), (2, .ref (mm)), (1, .ref (wf)), (0, .ref (b))]) (kk : ∀ (f2 : Nat → va_E) (H2 : Heap) (locs2 : List Loc) (ls2 : Array Slot) (σ2 : Sg) (wt2 : Nat → Nat), LI D t0 s L f2 H2 locs2 o r fr ad al ab am ak ah aw ar rg wf mm mc ml mg mw mr ao σ2 wt2 → lv_has ls2 7 [(4, .int (nI i)), (3, .ref (ao)), (2, .ref (mm)), (1, .ref (wf)), (0, .ref (b))] → W p l e room_1 s m #[Value.ref b] below meth c H2 locs2 (cells + 1) (slots + 6) Q (F0 m 1340 ls2 [])) : W p l e room_1 s m #[Value.ref b] below meth c H locs cells slots Q (F0 m 128 ls []) := by
  have hx := S.1
  have hb := S.2.1
  have hown := S.2.2.2.1
  have hT := S.2.2.2.2
  obtain ⟨hI, hS, ⟨th, hM⟩, ⟨g, hao⟩, hok⟩ := h9
  have hbA : ¬ hw_A [] s.heap.size b := fun h => h.elim (fun q => absurd q List.not_mem_nil) (fun q => by omega)
  have hna : ¬ Al o r fr ad al ab am ak ah aw ar rg wf ao := fun h => (hG.2.1 ao h).2 rfl
  have hno : ¬ Own o r fr ad al ab am ak ah aw ar rg wf ao := fun h => hna (Or.inl h)
  obtain ⟨q1, hq1⟩ : ∃ z : Int, z = Int64.toInt ((Int32.toInt64 (xs (i + 2))) <<< (Int32.toInt64 (nI 32) &&& 63) ||| ((Int32.toInt64 (xs (i + 3))) &&& lN 4294967295)) := ⟨_, rfl⟩
  have bq1 : -2 ^ 63 ≤ q1 ∧ q1 < 2 ^ 63 := by rw [hq1]; exact ⟨Int64.le_toInt _, Int64.toInt_lt _⟩
  have zq1 : (Int32.toInt64 (xs (i + 2))) <<< (Int32.toInt64 (nI 32) &&& 63) ||| ((Int32.toInt64 (xs (i + 3))) &&& lN 4294967295) = zL q1 := by rw [hq1]; exact (Int64.ofInt_toInt _).symm
  obtain ⟨q2, hq2⟩ : ∃ z : Int, z = Int64.toInt ((Int32.toInt64 (xs (i + 4))) <<< (Int32.toInt64 (nI 32) &&& 63) ||| ((Int32.toInt64 (xs (i + 5))) &&& lN 4294967295)) := ⟨_, rfl⟩
  have bq2 : -2 ^ 63 ≤ q2 ∧ q2 < 2 ^ 63 := by rw [hq2]; exact ⟨Int64.le_toInt _, Int64.toInt_lt _⟩
  have zq2 : (Int32.toInt64 (xs (i + 4))) <<< (Int32.toInt64 (nI 32) &&& 63) ||| ((Int32.toInt64 (xs (i + 5))) &&& lN 4294967295) = zL q2 := by rw [hq2]; exact (Int64.ofInt_toInt _).symm
  refine lv_aload_n hx hb d_La_law_128 rfl (lv_at hl 3 rfl) ?_
  refine lv_aload_n hx hb d_La_law_129 rfl (lv_at hl 4 rfl) ?_
  refine lv_iload hx hb d_La_law_130 (lv_at hl 0 rfl) ?_
  refine lv_iconst (v := nI 1) hx hb d_La_law_132 (by decide) ?_
  refine lv_iadd hx hb d_La_law_133 ?_
  refine hw_ti (nI_add _ _) ?_
  refine va_sld hx hb hX hbl hbA hI.2.2.1 (vp_in_nI (show i + 1 < Ls by omega) (by omega)) d_La_law_134 ?_
  refine hw_ti (show _ = xs (i + 1) from by rw [nI_clamp (by omega)]) ?_
  refine lv_aload_n hx hb d_La_law_135 rfl (lv_at hl 4 rfl) ?_
  refine lv_iload hx hb d_La_law_136 (lv_at hl 0 rfl) ?_
  refine lv_iconst (v := nI 2) hx hb d_La_law_138 (by decide) ?_
  refine lv_iadd hx hb d_La_law_139 ?_
  refine hw_ti (nI_add _ _) ?_
  refine va_sld hx hb hX hbl hbA hI.2.2.1 (vp_in_nI (show i + 2 < Ls by omega) (by omega)) d_La_law_140 ?_
  refine hw_ti (show _ = xs (i + 2) from by rw [nI_clamp (by omega)]) ?_
  refine lv_i2l hx hb d_La_law_141 rfl ?_
  refine lv_bipush (v := nI 32) hx hb d_La_law_142 (by decide) ?_
  refine lv_lshl (v := ((xs (i + 2)).toInt64) <<< (Int32.toInt64 (nI 32) &&& 63)) hx hb d_La_law_144 rfl ?_
  refine lv_aload_n hx hb d_La_law_145 rfl (lv_at hl 4 rfl) ?_
  refine lv_iload hx hb d_La_law_146 (lv_at hl 0 rfl) ?_
  refine lv_iconst (v := nI 3) hx hb d_La_law_148 (by decide) ?_
  refine lv_iadd hx hb d_La_law_149 ?_
  refine hw_ti (nI_add _ _) ?_
  refine va_sld hx hb hX hbl hbA hI.2.2.1 (vp_in_nI (show i + 3 < Ls by omega) (by omega)) d_La_law_150 ?_
  refine hw_ti (show _ = xs (i + 3) from by rw [nI_clamp (by omega)]) ?_
  refine lv_i2l hx hb d_La_law_151 rfl ?_
  refine hw_ldc2 (v := lN 4294967295) hx hb hown (hT _ w_973) d_La_law_152 ?_
  refine lv_land hx hb d_La_law_155 ?_
  refine lv_lor hx hb d_La_law_156 ?_
  refine hw_tl (show _ = zL q1 from zq1) ?_
  refine lv_aload_n hx hb d_La_law_157 rfl (lv_at hl 4 rfl) ?_
  refine lv_iload hx hb d_La_law_158 (lv_at hl 0 rfl) ?_
  refine lv_iconst (v := nI 4) hx hb d_La_law_160 (by decide) ?_
  refine lv_iadd hx hb d_La_law_161 ?_
  refine hw_ti (nI_add _ _) ?_
  refine va_sld hx hb hX hbl hbA hI.2.2.1 (vp_in_nI (show i + 4 < Ls by omega) (by omega)) d_La_law_162 ?_
  refine hw_ti (show _ = xs (i + 4) from by rw [nI_clamp (by omega)]) ?_
  refine lv_i2l hx hb d_La_law_163 rfl ?_
  refine lv_bipush (v := nI 32) hx hb d_La_law_164 (by decide) ?_
  refine lv_lshl (v := ((xs (i + 4)).toInt64) <<< (Int32.toInt64 (nI 32) &&& 63)) hx hb d_La_law_166 rfl ?_
  refine lv_aload_n hx hb d_La_law_167 rfl (lv_at hl 4 rfl) ?_
  refine lv_iload hx hb d_La_law_168 (lv_at hl 0 rfl) ?_
  refine lv_iconst (v := nI 5) hx hb d_La_law_170 (by decide) ?_
  refine lv_iadd hx hb d_La_law_171 ?_
  refine hw_ti (nI_add _ _) ?_
  refine va_sld hx hb hX hbl hbA hI.2.2.1 (vp_in_nI (show i + 5 < Ls by omega) (by omega)) d_La_law_172 ?_
  refine hw_ti (show _ = xs (i + 5) from by rw [nI_clamp (by omega)]) ?_
  refine lv_i2l hx hb d_La_law_173 rfl ?_
  refine hw_ldc2 (v := lN 4294967295) hx hb hown (hT _ w_973) d_La_law_174 ?_
  refine lv_land hx hb d_La_law_177 ?_
  refine lv_lor hx hb d_La_law_178 ?_
  refine hw_tl (show _ = zL q2 from zq2) ?_
  refine hw_xW (As := [.ref (wf), .int (xs (i + 1)), .long (zL q1), .long (zL q2)]) (rest := []) S hI m_La_set w_196 (c_La_set l hlt D t0 L _ _ o r fr ad al ab am ak ah aw ar rg wf σ wt (xs (i + 1)) q1 q2  hG.1 hS hok bq1 bq2) hl.1 rfl rfl (Nat.le_of_ble_eq_true rfl) d_La_law_179 ⟨Nat.le_of_ble_eq_true rfl, Nat.le_of_ble_eq_true rfl⟩ ⟨hc, hs⟩ (fun v9 L9 f101 H locs hp hI => ?_)
  refine W.cs (cells' := cells + 1) (slots' := slots + 6) rfl rfl ?_
  obtain ⟨hv9, rfl, hS, hF⟩ := hp
  cases hv9
  refine hw_stk (st' := [.int (nI (opSet σ (xs (i + 1)) q1 q2).1)]) rfl ?_
  have hM := hM.keep (f' := f101) (fun q hq => ⟨hM.mem q hq, hF q (fun h => (hG.2.1 q (Or.inl h)).1 hq)⟩)
  have hao := hw_c.fr hao (hF ao hno)
  refine lv_istore (lv' := [(5, .int (nI (opSet σ (xs (i + 1)) q1 q2).1)), (4, .int (nI i)), (3, .ref (ao)), (2, .ref (mm)), (1, .ref (wf)), (0, .ref (b))]) hx hb d_La_law_182 hl (by decide) rfl (fun ls hl => ?_)
  refine lv_aload_n hx hb d_La_law_184 rfl (lv_at hl 3 rfl) ?_
  refine lv_aload_n hx hb d_La_law_185 rfl (lv_at hl 5 rfl) ?_
  refine lv_iload hx hb d_La_law_186 (lv_at hl 1 rfl) ?_
  refine lv_iconst (v := nI 1) hx hb d_La_law_188 (by decide) ?_
  refine lv_iadd hx hb d_La_law_189 ?_
  refine hw_ti (nI_add _ _) ?_
  refine va_sld hx hb hX hbl hbA hI.2.2.1 (vp_in_nI (show i + 1 < Ls by omega) (by omega)) d_La_law_190 ?_
  refine hw_ti (show _ = xs (i + 1) from by rw [nI_clamp (by omega)]) ?_
  refine lv_aload_n hx hb d_La_law_191 rfl (lv_at hl 5 rfl) ?_
  refine lv_iload hx hb d_La_law_192 (lv_at hl 1 rfl) ?_
  refine lv_iconst (v := nI 2) hx hb d_La_law_194 (by decide) ?_
  refine lv_iadd hx hb d_La_law_195 ?_
  refine hw_ti (nI_add _ _) ?_
  refine va_sld hx hb hX hbl hbA hI.2.2.1 (vp_in_nI (show i + 2 < Ls by omega) (by omega)) d_La_law_196 ?_
  refine hw_ti (show _ = xs (i + 2) from by rw [nI_clamp (by omega)]) ?_
  refine lv_i2l hx hb d_La_law_197 rfl ?_
  refine lv_bipush (v := nI 32) hx hb d_La_law_198 (by decide) ?_
  refine lv_lshl (v := ((xs (i + 2)).toInt64) <<< (Int32.toInt64 (nI 32) &&& 63)) hx hb d_La_law_200 rfl ?_
  refine lv_aload_n hx hb d_La_law_201 rfl (lv_at hl 5 rfl) ?_
  refine lv_iload hx hb d_La_law_202 (lv_at hl 1 rfl) ?_
  refine lv_iconst (v := nI 3) hx hb d_La_law_204 (by decide) ?_
  refine lv_iadd hx hb d_La_law_205 ?_
  refine hw_ti (nI_add _ _) ?_
  refine va_sld hx hb hX hbl hbA hI.2.2.1 (vp_in_nI (show i + 3 < Ls by omega) (by omega)) d_La_law_206 ?_
  refine hw_ti (show _ = xs (i + 3) from by rw [nI_clamp (by omega)]) ?_
  refine lv_i2l hx hb d_La_law_207 rfl ?_
  refine hw_ldc2 (v := lN 4294967295) hx hb hown (hT _ w_973) d_La_law_208 ?_
  refine lv_land hx hb d_La_law_211 ?_
  refine lv_lor hx hb d_La_law_212 ?_
  refine hw_tl (show _ = zL q1 from zq1) ?_
  refine lv_aload_n hx hb d_La_law_213 rfl (lv_at hl 5 rfl) ?_
  refine lv_iload hx hb d_La_law_214 (lv_at hl 1 rfl) ?_
  refine lv_iconst (v := nI 4) hx hb d_La_law_216 (by decide) ?_
  refine lv_iadd hx hb d_La_law_217 ?_
  refine hw_ti (nI_add _ _) ?_
  refine va_sld hx hb hX hbl hbA hI.2.2.1 (vp_in_nI (show i + 4 < Ls by omega) (by omega)) d_La_law_218 ?_
  refine hw_ti (show _ = xs (i + 4) from by rw [nI_clamp (by omega)]) ?_
  refine lv_i2l hx hb d_La_law_219 rfl ?_
  refine lv_bipush (v := nI 32) hx hb d_La_law_220 (by decide) ?_
  refine lv_lshl (v := ((xs (i + 4)).toInt64) <<< (Int32.toInt64 (nI 32) &&& 63)) hx hb d_La_law_222 rfl ?_
  refine lv_aload_n hx hb d_La_law_223 rfl (lv_at hl 5 rfl) ?_
  refine lv_iload hx hb d_La_law_224 (lv_at hl 1 rfl) ?_
  refine lv_iconst (v := nI 5) hx hb d_La_law_226 (by decide) ?_
  refine lv_iadd hx hb d_La_law_227 ?_
  refine hw_ti (nI_add _ _) ?_
  refine va_sld hx hb hX hbl hbA hI.2.2.1 (vp_in_nI (show i + 5 < Ls by omega) (by omega)) d_La_law_228 ?_
  refine hw_ti (show _ = xs (i + 5) from by rw [nI_clamp (by omega)]) ?_
  refine lv_i2l hx hb d_La_law_229 rfl ?_
  refine hw_ldc2 (v := lN 4294967295) hx hb hown (hT _ w_973) d_La_law_230 ?_
  refine lv_land hx hb d_La_law_233 ?_
  refine lv_lor hx hb d_La_law_234 ?_
  refine hw_tl (show _ = zL q2 from zq2) ?_
  refine hw_cV (As := [.int (xs (i + 1)), .long (zL q1), .long (zL q2)]) (rest := []) S hI m_Mo_set w_794 (c_Mo_set l D t0 L _ _ mm mc ml mg mw mr th σ wt (xs (i + 1)) q1 q2 hM hok bq1.1 bq1.2 bq2.1 bq2.2) hM.mmc rfl hl.1 rfl rfl (Nat.le_of_ble_eq_true rfl) d_La_law_235 ⟨Nat.le_of_ble_eq_true rfl, Nat.le_of_ble_eq_true rfl⟩ ⟨hc, hs⟩ (fun v9 L9 f102 H locs hp hI => ?_)
  refine W.cs (cells' := cells + 1) (slots' := slots + 6) rfl rfl ?_
  obtain ⟨hv9, rfl, hM, hF2⟩ := hp
  cases hv9
  refine hw_stk (st' := []) rfl ?_
  have hS := hS.keep (f' := f102) (fun q hq => ⟨hS.mem q hq, hF2 q (hG.2.1 q hq).1⟩)
  have hao := hw_c.fr hao (hF2 ao hG.2.2)
  refine lv_aload_n hx hb d_La_law_238 rfl (lv_at hl 3 rfl) ?_
  refine hw_cV (As := []) (rest := []) S hI m_Mo_thrown w_790 (c_Mo_thrown l D t0 L _ _ mm mc ml mg mw mr _ _ wt hM) hM.mmc rfl hl.1 rfl rfl (Nat.le_of_ble_eq_true rfl) d_La_law_239 ⟨Nat.le_of_ble_eq_true rfl, Nat.le_of_ble_eq_true rfl⟩ ⟨hc, hs⟩ (fun v9 L9 f103 H locs hp hI => ?_)
  refine W.cs (cells' := cells + 1) (slots' := slots + 6) rfl rfl ?_
  obtain ⟨hv9, rfl, rfl⟩ := hp
  cases hv9
  refine hw_stk (st' := [.int (nI (opSet σ (xs (i + 1)) q1 q2).1)]) rfl ?_
  refine lv_iload hx hb d_La_law_242 (lv_at hl 0 rfl) ?_
  refine lv_icmp_eq (tgt := 249) hx hb d_La_law_244 (by decide) (fun _ => ?_) (fun c9 => absurd rfl c9)
  refine lv_goto (tgt := 1340) hx hb d_La_law_249 (by decide) ?_
  exact kk _ _ _ _ _ _ ⟨hI, hS, ⟨_, hM⟩, ⟨_, hao⟩, opSet_ok hok⟩ (lv_sub hl [1, 2, 3, 4, 5] rfl)
set_option maxHeartbeats 4000000 in
set_option maxRecDepth 100000 in
theorem k_more {p : Program} {l : Launch} {e : Env} {s : State} {m : MethodId} {below : List Frame} {meth : Method} {c : Code} {b Ls : Nat} {xs : Nat → Int32} {D : va_G} {t0 : Nat} {L : List Nat} {f : Nat → va_E} {H : Heap} {locs : List Loc} {cells slots : Nat} {Q : State → Prop} {ls : Array Slot} {o r fr : Nat → Nat} {ad al ab am ak ah aw ar rg wf mm mc ml mg mw mr ao : Nat} {σ : Sg} {wt : Nat → Nat} {i : Nat} (hlt : l.stackTraces = false) (S : CallFix p m c code 7 s #[Value.ref b] TT "WallFractionsLaw") (hX : va_X b Ls xs s s.heap) (hbl : b < s.heap.size) (hG : LG o r fr ad al ab am ak ah aw ar rg wf mm mc ml mg mw mr ao) (h9 : LI D t0 s L f H locs o r fr ad al ab am ak ah aw ar rg wf mm mc ml mg mw mr ao σ wt) (hi : i + 6 ≤ Ls) (hLs : Ls ≤ 3072) (hc : cells + 1 ≤ 601024) (hs : slots + 6 ≤ 7293034) (hl : lv_has ls 7 [(4, .int (nI i)), (3, .ref (ao)), (2, .ref (mm)), (1, .ref (wf)), (0, .ref (b))]) (kk : ∀ (f2 : Nat → va_E) (H2 : Heap) (locs2 : List Loc) (ls2 : Array Slot) (σ2 : Sg) (wt2 : Nat → Nat), LI D t0 s L f2 H2 locs2 o r fr ad al ab am ak ah aw ar rg wf mm mc ml mg mw mr ao σ2 wt2 → lv_has ls2 7 [(4, .int (nI i)), (3, .ref (ao)), (2, .ref (mm)), (1, .ref (wf)), (0, .ref (b))] → W p l e room_1 s m #[Value.ref b] below meth c H2 locs2 (cells + 1) (slots + 6) Q (F0 m 1340 ls2 [])) : W p l e room_1 s m #[Value.ref b] below meth c H locs cells slots Q (F0 m 252 ls []) := by
  have hx := S.1
  have hb := S.2.1
  have hown := S.2.2.2.1
  have hT := S.2.2.2.2
  obtain ⟨hI, hS, ⟨th, hM⟩, ⟨g, hao⟩, hok⟩ := h9
  have hbA : ¬ hw_A [] s.heap.size b := fun h => h.elim (fun q => absurd q List.not_mem_nil) (fun q => by omega)
  have hna : ¬ Al o r fr ad al ab am ak ah aw ar rg wf ao := fun h => (hG.2.1 ao h).2 rfl
  have hno : ¬ Own o r fr ad al ab am ak ah aw ar rg wf ao := fun h => hna (Or.inl h)
  refine lv_aload_n hx hb d_La_law_252 rfl (lv_at hl 3 rfl) ?_
  refine lv_aload_n hx hb d_La_law_253 rfl (lv_at hl 4 rfl) ?_
  refine lv_iload hx hb d_La_law_254 (lv_at hl 0 rfl) ?_
  refine lv_iconst (v := nI 1) hx hb d_La_law_256 (by decide) ?_
  refine lv_iadd hx hb d_La_law_257 ?_
  refine hw_ti (nI_add _ _) ?_
  refine va_sld hx hb hX hbl hbA hI.2.2.1 (vp_in_nI (show i + 1 < Ls by omega) (by omega)) d_La_law_258 ?_
  refine hw_ti (show _ = xs (i + 1) from by rw [nI_clamp (by omega)]) ?_
  refine lv_aload_n hx hb d_La_law_259 rfl (lv_at hl 4 rfl) ?_
  refine lv_iload hx hb d_La_law_260 (lv_at hl 0 rfl) ?_
  refine lv_iconst (v := nI 2) hx hb d_La_law_262 (by decide) ?_
  refine lv_iadd hx hb d_La_law_263 ?_
  refine hw_ti (nI_add _ _) ?_
  refine va_sld hx hb hX hbl hbA hI.2.2.1 (vp_in_nI (show i + 2 < Ls by omega) (by omega)) d_La_law_264 ?_
  refine hw_ti (show _ = xs (i + 2) from by rw [nI_clamp (by omega)]) ?_
  refine hw_xW (As := [.ref (wf), .int (xs (i + 1)), .int (xs (i + 2))]) (rest := []) S hI m_La_more w_356 (c_La_more l hlt D t0 L _ _ o r fr ad al ab am ak ah aw ar rg wf σ wt (xs (i + 1)) (xs (i + 2))  hG.1 hS hok) hl.1 rfl rfl (Nat.le_of_ble_eq_true rfl) d_La_law_265 ⟨Nat.le_of_ble_eq_true rfl, Nat.le_of_ble_eq_true rfl⟩ ⟨hc, hs⟩ (fun v9 L9 f104 H locs hp hI => ?_)
  refine W.cs (cells' := cells + 1) (slots' := slots + 6) rfl rfl ?_
  obtain ⟨hv9, rfl, hS, hF⟩ := hp
  cases hv9
  refine hw_stk (st' := [.int (nI (opMore σ (xs (i + 1)) (xs (i + 2))).1)]) rfl ?_
  have hM := hM.keep (f' := f104) (fun q hq => ⟨hM.mem q hq, hF q (fun h => (hG.2.1 q (Or.inl h)).1 hq)⟩)
  have hao := hw_c.fr hao (hF ao hno)
  refine lv_istore (lv' := [(5, .int (nI (opMore σ (xs (i + 1)) (xs (i + 2))).1)), (4, .int (nI i)), (3, .ref (ao)), (2, .ref (mm)), (1, .ref (wf)), (0, .ref (b))]) hx hb d_La_law_268 hl (by decide) rfl (fun ls hl => ?_)
  refine lv_aload_n hx hb d_La_law_270 rfl (lv_at hl 3 rfl) ?_
  refine lv_aload_n hx hb d_La_law_271 rfl (lv_at hl 5 rfl) ?_
  refine lv_iload hx hb d_La_law_272 (lv_at hl 1 rfl) ?_
  refine lv_iconst (v := nI 1) hx hb d_La_law_274 (by decide) ?_
  refine lv_iadd hx hb d_La_law_275 ?_
  refine hw_ti (nI_add _ _) ?_
  refine va_sld hx hb hX hbl hbA hI.2.2.1 (vp_in_nI (show i + 1 < Ls by omega) (by omega)) d_La_law_276 ?_
  refine hw_ti (show _ = xs (i + 1) from by rw [nI_clamp (by omega)]) ?_
  refine lv_aload_n hx hb d_La_law_277 rfl (lv_at hl 5 rfl) ?_
  refine lv_iload hx hb d_La_law_278 (lv_at hl 1 rfl) ?_
  refine lv_iconst (v := nI 2) hx hb d_La_law_280 (by decide) ?_
  refine lv_iadd hx hb d_La_law_281 ?_
  refine hw_ti (nI_add _ _) ?_
  refine va_sld hx hb hX hbl hbA hI.2.2.1 (vp_in_nI (show i + 2 < Ls by omega) (by omega)) d_La_law_282 ?_
  refine hw_ti (show _ = xs (i + 2) from by rw [nI_clamp (by omega)]) ?_
  refine hw_cV (As := [.int (xs (i + 1)), .int (xs (i + 2))]) (rest := []) S hI m_Mo_more w_838 (c_Mo_more l D t0 L _ _ mm mc ml mg mw mr th σ wt (xs (i + 1)) (xs (i + 2)) hM hok) hM.mmc rfl hl.1 rfl rfl (Nat.le_of_ble_eq_true rfl) d_La_law_283 ⟨Nat.le_of_ble_eq_true rfl, Nat.le_of_ble_eq_true rfl⟩ ⟨hc, hs⟩ (fun v9 L9 f105 H locs hp hI => ?_)
  refine W.cs (cells' := cells + 1) (slots' := slots + 6) rfl rfl ?_
  obtain ⟨hv9, rfl, hM, hF2⟩ := hp
  cases hv9
  refine hw_stk (st' := []) rfl ?_
  have hS := hS.keep (f' := f105) (fun q hq => ⟨hS.mem q hq, hF2 q (hG.2.1 q hq).1⟩)
  have hao := hw_c.fr hao (hF2 ao hG.2.2)
  refine lv_aload_n hx hb d_La_law_286 rfl (lv_at hl 3 rfl) ?_
  refine hw_cV (As := []) (rest := []) S hI m_Mo_thrown w_790 (c_Mo_thrown l D t0 L _ _ mm mc ml mg mw mr _ _ wt hM) hM.mmc rfl hl.1 rfl rfl (Nat.le_of_ble_eq_true rfl) d_La_law_287 ⟨Nat.le_of_ble_eq_true rfl, Nat.le_of_ble_eq_true rfl⟩ ⟨hc, hs⟩ (fun v9 L9 f106 H locs hp hI => ?_)
  refine W.cs (cells' := cells + 1) (slots' := slots + 6) rfl rfl ?_
  obtain ⟨hv9, rfl, rfl⟩ := hp
  cases hv9
  refine hw_stk (st' := [.int (nI (opMore σ (xs (i + 1)) (xs (i + 2))).1)]) rfl ?_
  refine lv_iload hx hb d_La_law_290 (lv_at hl 0 rfl) ?_
  refine lv_icmp_eq (tgt := 297) hx hb d_La_law_292 (by decide) (fun _ => ?_) (fun c9 => absurd rfl c9)
  refine lv_goto (tgt := 1340) hx hb d_La_law_297 (by decide) ?_
  exact kk _ _ _ _ _ _ ⟨hI, hS, ⟨_, hM⟩, ⟨_, hao⟩, opMore_ok hok⟩ (lv_sub hl [1, 2, 3, 4, 5] rfl)
set_option maxHeartbeats 4000000 in
set_option maxRecDepth 100000 in
theorem k_add {p : Program} {l : Launch} {e : Env} {s : State} {m : MethodId} {below : List Frame} {meth : Method} {c : Code} {b Ls : Nat} {xs : Nat → Int32} {D : va_G} {t0 : Nat} {L : List Nat} {f : Nat → va_E} {H : Heap} {locs : List Loc} {cells slots : Nat} {Q : State → Prop} {ls : Array Slot} {o r fr : Nat → Nat} {ad al ab am ak ah aw ar rg wf mm mc ml mg mw mr ao : Nat} {σ : Sg} {wt : Nat → Nat} {i : Nat} (hlt : l.stackTraces = false) (S : CallFix p m c code 7 s #[Value.ref b] TT "WallFractionsLaw") (hX : va_X b Ls xs s s.heap) (hbl : b < s.heap.size) (hG : LG o r fr ad al ab am ak ah aw ar rg wf mm mc ml mg mw mr ao) (h9 : LI D t0 s L f H locs o r fr ad al ab am ak ah aw ar rg wf mm mc ml mg mw mr ao σ wt) (hi : i + 6 ≤ Ls) (hLs : Ls ≤ 3072) (hc : cells + 1 ≤ 601024) (hs : slots + 6 ≤ 7293034) (hl : lv_has ls 7 [(4, .int (nI i)), (3, .ref (ao)), (2, .ref (mm)), (1, .ref (wf)), (0, .ref (b))]) (kk : ∀ (f2 : Nat → va_E) (H2 : Heap) (locs2 : List Loc) (ls2 : Array Slot) (σ2 : Sg) (wt2 : Nat → Nat), LI D t0 s L f2 H2 locs2 o r fr ad al ab am ak ah aw ar rg wf mm mc ml mg mw mr ao σ2 wt2 → lv_has ls2 7 [(4, .int (nI i)), (3, .ref (ao)), (2, .ref (mm)), (1, .ref (wf)), (0, .ref (b))] → W p l e room_1 s m #[Value.ref b] below meth c H2 locs2 (cells + 1) (slots + 6) Q (F0 m 1340 ls2 [])) : W p l e room_1 s m #[Value.ref b] below meth c H locs cells slots Q (F0 m 300 ls []) := by
  have hx := S.1
  have hb := S.2.1
  have hown := S.2.2.2.1
  have hT := S.2.2.2.2
  obtain ⟨hI, hS, ⟨th, hM⟩, ⟨g, hao⟩, hok⟩ := h9
  have hbA : ¬ hw_A [] s.heap.size b := fun h => h.elim (fun q => absurd q List.not_mem_nil) (fun q => by omega)
  have hna : ¬ Al o r fr ad al ab am ak ah aw ar rg wf ao := fun h => (hG.2.1 ao h).2 rfl
  have hno : ¬ Own o r fr ad al ab am ak ah aw ar rg wf ao := fun h => hna (Or.inl h)
  refine lv_aload_n hx hb d_La_law_300 rfl (lv_at hl 3 rfl) ?_
  refine lv_aload_n hx hb d_La_law_301 rfl (lv_at hl 4 rfl) ?_
  refine lv_iload hx hb d_La_law_302 (lv_at hl 0 rfl) ?_
  refine lv_iconst (v := nI 1) hx hb d_La_law_304 (by decide) ?_
  refine lv_iadd hx hb d_La_law_305 ?_
  refine hw_ti (nI_add _ _) ?_
  refine va_sld hx hb hX hbl hbA hI.2.2.1 (vp_in_nI (show i + 1 < Ls by omega) (by omega)) d_La_law_306 ?_
  refine hw_ti (show _ = xs (i + 1) from by rw [nI_clamp (by omega)]) ?_
  refine lv_aload_n hx hb d_La_law_307 rfl (lv_at hl 4 rfl) ?_
  refine lv_iload hx hb d_La_law_308 (lv_at hl 0 rfl) ?_
  refine lv_iconst (v := nI 2) hx hb d_La_law_310 (by decide) ?_
  refine lv_iadd hx hb d_La_law_311 ?_
  refine hw_ti (nI_add _ _) ?_
  refine va_sld hx hb hX hbl hbA hI.2.2.1 (vp_in_nI (show i + 2 < Ls by omega) (by omega)) d_La_law_312 ?_
  refine hw_ti (show _ = xs (i + 2) from by rw [nI_clamp (by omega)]) ?_
  refine lv_aload_n hx hb d_La_law_313 rfl (lv_at hl 4 rfl) ?_
  refine lv_iload hx hb d_La_law_314 (lv_at hl 0 rfl) ?_
  refine lv_iconst (v := nI 3) hx hb d_La_law_316 (by decide) ?_
  refine lv_iadd hx hb d_La_law_317 ?_
  refine hw_ti (nI_add _ _) ?_
  refine va_sld hx hb hX hbl hbA hI.2.2.1 (vp_in_nI (show i + 3 < Ls by omega) (by omega)) d_La_law_318 ?_
  refine hw_ti (show _ = xs (i + 3) from by rw [nI_clamp (by omega)]) ?_
  refine hw_xW (As := [.ref (wf), .int (xs (i + 1)), .int (xs (i + 2)), .int (xs (i + 3))]) (rest := []) S hI m_La_add w_393 (c_La_add l hlt D t0 L _ _ o r fr ad al ab am ak ah aw ar rg wf σ wt (xs (i + 1)) (xs (i + 2)) (xs (i + 3))  hG.1 hS hok) hl.1 rfl rfl (Nat.le_of_ble_eq_true rfl) d_La_law_319 ⟨Nat.le_of_ble_eq_true rfl, Nat.le_of_ble_eq_true rfl⟩ ⟨hc, hs⟩ (fun v9 L9 f107 H locs hp hI => ?_)
  refine W.cs (cells' := cells + 1) (slots' := slots + 6) rfl rfl ?_
  obtain ⟨hv9, rfl, hS, hF⟩ := hp
  cases hv9
  refine hw_stk (st' := [.int (nI (opAdd σ (xs (i + 1)) (xs (i + 2)) (xs (i + 3))).1)]) rfl ?_
  have hM := hM.keep (f' := f107) (fun q hq => ⟨hM.mem q hq, hF q (fun h => (hG.2.1 q (Or.inl h)).1 hq)⟩)
  have hao := hw_c.fr hao (hF ao hno)
  refine lv_istore (lv' := [(5, .int (nI (opAdd σ (xs (i + 1)) (xs (i + 2)) (xs (i + 3))).1)), (4, .int (nI i)), (3, .ref (ao)), (2, .ref (mm)), (1, .ref (wf)), (0, .ref (b))]) hx hb d_La_law_322 hl (by decide) rfl (fun ls hl => ?_)
  refine lv_aload_n hx hb d_La_law_324 rfl (lv_at hl 3 rfl) ?_
  refine lv_aload_n hx hb d_La_law_325 rfl (lv_at hl 5 rfl) ?_
  refine lv_iload hx hb d_La_law_326 (lv_at hl 1 rfl) ?_
  refine lv_iconst (v := nI 1) hx hb d_La_law_328 (by decide) ?_
  refine lv_iadd hx hb d_La_law_329 ?_
  refine hw_ti (nI_add _ _) ?_
  refine va_sld hx hb hX hbl hbA hI.2.2.1 (vp_in_nI (show i + 1 < Ls by omega) (by omega)) d_La_law_330 ?_
  refine hw_ti (show _ = xs (i + 1) from by rw [nI_clamp (by omega)]) ?_
  refine lv_aload_n hx hb d_La_law_331 rfl (lv_at hl 5 rfl) ?_
  refine lv_iload hx hb d_La_law_332 (lv_at hl 1 rfl) ?_
  refine lv_iconst (v := nI 2) hx hb d_La_law_334 (by decide) ?_
  refine lv_iadd hx hb d_La_law_335 ?_
  refine hw_ti (nI_add _ _) ?_
  refine va_sld hx hb hX hbl hbA hI.2.2.1 (vp_in_nI (show i + 2 < Ls by omega) (by omega)) d_La_law_336 ?_
  refine hw_ti (show _ = xs (i + 2) from by rw [nI_clamp (by omega)]) ?_
  refine lv_aload_n hx hb d_La_law_337 rfl (lv_at hl 5 rfl) ?_
  refine lv_iload hx hb d_La_law_338 (lv_at hl 1 rfl) ?_
  refine lv_iconst (v := nI 3) hx hb d_La_law_340 (by decide) ?_
  refine lv_iadd hx hb d_La_law_341 ?_
  refine hw_ti (nI_add _ _) ?_
  refine va_sld hx hb hX hbl hbA hI.2.2.1 (vp_in_nI (show i + 3 < Ls by omega) (by omega)) d_La_law_342 ?_
  refine hw_ti (show _ = xs (i + 3) from by rw [nI_clamp (by omega)]) ?_
  refine hw_cV (As := [.int (xs (i + 1)), .int (xs (i + 2)), .int (xs (i + 3))]) (rest := []) S hI m_Mo_add w_855 (c_Mo_add l D t0 L _ _ mm mc ml mg mw mr th σ wt (xs (i + 1)) (xs (i + 2)) (xs (i + 3)) hM hok) hM.mmc rfl hl.1 rfl rfl (Nat.le_of_ble_eq_true rfl) d_La_law_343 ⟨Nat.le_of_ble_eq_true rfl, Nat.le_of_ble_eq_true rfl⟩ ⟨hc, hs⟩ (fun v9 L9 f108 H locs hp hI => ?_)
  refine W.cs (cells' := cells + 1) (slots' := slots + 6) rfl rfl ?_
  obtain ⟨hv9, rfl, hM, hF2⟩ := hp
  cases hv9
  refine hw_stk (st' := []) rfl ?_
  have hS := hS.keep (f' := f108) (fun q hq => ⟨hS.mem q hq, hF2 q (hG.2.1 q hq).1⟩)
  have hao := hw_c.fr hao (hF2 ao hG.2.2)
  refine lv_aload_n hx hb d_La_law_346 rfl (lv_at hl 3 rfl) ?_
  refine hw_cV (As := []) (rest := []) S hI m_Mo_thrown w_790 (c_Mo_thrown l D t0 L _ _ mm mc ml mg mw mr _ _ wt hM) hM.mmc rfl hl.1 rfl rfl (Nat.le_of_ble_eq_true rfl) d_La_law_347 ⟨Nat.le_of_ble_eq_true rfl, Nat.le_of_ble_eq_true rfl⟩ ⟨hc, hs⟩ (fun v9 L9 f109 H locs hp hI => ?_)
  refine W.cs (cells' := cells + 1) (slots' := slots + 6) rfl rfl ?_
  obtain ⟨hv9, rfl, rfl⟩ := hp
  cases hv9
  refine hw_stk (st' := [.int (nI (opAdd σ (xs (i + 1)) (xs (i + 2)) (xs (i + 3))).1)]) rfl ?_
  refine lv_iload hx hb d_La_law_350 (lv_at hl 0 rfl) ?_
  refine lv_icmp_eq (tgt := 357) hx hb d_La_law_352 (by decide) (fun _ => ?_) (fun c9 => absurd rfl c9)
  refine lv_goto (tgt := 1340) hx hb d_La_law_357 (by decide) ?_
  exact kk _ _ _ _ _ _ ⟨hI, hS, ⟨_, hM⟩, ⟨_, hao⟩, opAdd_ok hok⟩ (lv_sub hl [1, 2, 3, 4, 5] rfl)
set_option maxHeartbeats 4000000 in
set_option maxRecDepth 100000 in
theorem k_subtract {p : Program} {l : Launch} {e : Env} {s : State} {m : MethodId} {below : List Frame} {meth : Method} {c : Code} {b Ls : Nat} {xs : Nat → Int32} {D : va_G} {t0 : Nat} {L : List Nat} {f : Nat → va_E} {H : Heap} {locs : List Loc} {cells slots : Nat} {Q : State → Prop} {ls : Array Slot} {o r fr : Nat → Nat} {ad al ab am ak ah aw ar rg wf mm mc ml mg mw mr ao : Nat} {σ : Sg} {wt : Nat → Nat} {i : Nat} (hlt : l.stackTraces = false) (S : CallFix p m c code 7 s #[Value.ref b] TT "WallFractionsLaw") (hX : va_X b Ls xs s s.heap) (hbl : b < s.heap.size) (hG : LG o r fr ad al ab am ak ah aw ar rg wf mm mc ml mg mw mr ao) (h9 : LI D t0 s L f H locs o r fr ad al ab am ak ah aw ar rg wf mm mc ml mg mw mr ao σ wt) (hi : i + 6 ≤ Ls) (hLs : Ls ≤ 3072) (hc : cells + 1 ≤ 601024) (hs : slots + 6 ≤ 7293034) (hl : lv_has ls 7 [(4, .int (nI i)), (3, .ref (ao)), (2, .ref (mm)), (1, .ref (wf)), (0, .ref (b))]) (kk : ∀ (f2 : Nat → va_E) (H2 : Heap) (locs2 : List Loc) (ls2 : Array Slot) (σ2 : Sg) (wt2 : Nat → Nat), LI D t0 s L f2 H2 locs2 o r fr ad al ab am ak ah aw ar rg wf mm mc ml mg mw mr ao σ2 wt2 → lv_has ls2 7 [(4, .int (nI i)), (3, .ref (ao)), (2, .ref (mm)), (1, .ref (wf)), (0, .ref (b))] → W p l e room_1 s m #[Value.ref b] below meth c H2 locs2 (cells + 1) (slots + 6) Q (F0 m 1340 ls2 [])) : W p l e room_1 s m #[Value.ref b] below meth c H locs cells slots Q (F0 m 360 ls []) := by
  have hx := S.1
  have hb := S.2.1
  have hown := S.2.2.2.1
  have hT := S.2.2.2.2
  obtain ⟨hI, hS, ⟨th, hM⟩, ⟨g, hao⟩, hok⟩ := h9
  have hbA : ¬ hw_A [] s.heap.size b := fun h => h.elim (fun q => absurd q List.not_mem_nil) (fun q => by omega)
  have hna : ¬ Al o r fr ad al ab am ak ah aw ar rg wf ao := fun h => (hG.2.1 ao h).2 rfl
  have hno : ¬ Own o r fr ad al ab am ak ah aw ar rg wf ao := fun h => hna (Or.inl h)
  refine lv_aload_n hx hb d_La_law_360 rfl (lv_at hl 3 rfl) ?_
  refine lv_aload_n hx hb d_La_law_361 rfl (lv_at hl 4 rfl) ?_
  refine lv_iload hx hb d_La_law_362 (lv_at hl 0 rfl) ?_
  refine lv_iconst (v := nI 1) hx hb d_La_law_364 (by decide) ?_
  refine lv_iadd hx hb d_La_law_365 ?_
  refine hw_ti (nI_add _ _) ?_
  refine va_sld hx hb hX hbl hbA hI.2.2.1 (vp_in_nI (show i + 1 < Ls by omega) (by omega)) d_La_law_366 ?_
  refine hw_ti (show _ = xs (i + 1) from by rw [nI_clamp (by omega)]) ?_
  refine lv_aload_n hx hb d_La_law_367 rfl (lv_at hl 4 rfl) ?_
  refine lv_iload hx hb d_La_law_368 (lv_at hl 0 rfl) ?_
  refine lv_iconst (v := nI 2) hx hb d_La_law_370 (by decide) ?_
  refine lv_iadd hx hb d_La_law_371 ?_
  refine hw_ti (nI_add _ _) ?_
  refine va_sld hx hb hX hbl hbA hI.2.2.1 (vp_in_nI (show i + 2 < Ls by omega) (by omega)) d_La_law_372 ?_
  refine hw_ti (show _ = xs (i + 2) from by rw [nI_clamp (by omega)]) ?_
  refine lv_aload_n hx hb d_La_law_373 rfl (lv_at hl 4 rfl) ?_
  refine lv_iload hx hb d_La_law_374 (lv_at hl 0 rfl) ?_
  refine lv_iconst (v := nI 3) hx hb d_La_law_376 (by decide) ?_
  refine lv_iadd hx hb d_La_law_377 ?_
  refine hw_ti (nI_add _ _) ?_
  refine va_sld hx hb hX hbl hbA hI.2.2.1 (vp_in_nI (show i + 3 < Ls by omega) (by omega)) d_La_law_378 ?_
  refine hw_ti (show _ = xs (i + 3) from by rw [nI_clamp (by omega)]) ?_
  refine hw_xW (As := [.ref (wf), .int (xs (i + 1)), .int (xs (i + 2)), .int (xs (i + 3))]) (rest := []) S hI m_La_subtract w_522 (c_La_subtract l hlt D t0 L _ _ o r fr ad al ab am ak ah aw ar rg wf σ wt (xs (i + 1)) (xs (i + 2)) (xs (i + 3))  hG.1 hS hok) hl.1 rfl rfl (Nat.le_of_ble_eq_true rfl) d_La_law_379 ⟨Nat.le_of_ble_eq_true rfl, Nat.le_of_ble_eq_true rfl⟩ ⟨hc, hs⟩ (fun v9 L9 f110 H locs hp hI => ?_)
  refine W.cs (cells' := cells + 1) (slots' := slots + 6) rfl rfl ?_
  obtain ⟨hv9, rfl, hS, hF⟩ := hp
  cases hv9
  refine hw_stk (st' := [.int (nI (opSub σ (xs (i + 1)) (xs (i + 2)) (xs (i + 3))).1)]) rfl ?_
  have hM := hM.keep (f' := f110) (fun q hq => ⟨hM.mem q hq, hF q (fun h => (hG.2.1 q (Or.inl h)).1 hq)⟩)
  have hao := hw_c.fr hao (hF ao hno)
  refine lv_istore (lv' := [(5, .int (nI (opSub σ (xs (i + 1)) (xs (i + 2)) (xs (i + 3))).1)), (4, .int (nI i)), (3, .ref (ao)), (2, .ref (mm)), (1, .ref (wf)), (0, .ref (b))]) hx hb d_La_law_382 hl (by decide) rfl (fun ls hl => ?_)
  refine lv_aload_n hx hb d_La_law_384 rfl (lv_at hl 3 rfl) ?_
  refine lv_aload_n hx hb d_La_law_385 rfl (lv_at hl 5 rfl) ?_
  refine lv_iload hx hb d_La_law_386 (lv_at hl 1 rfl) ?_
  refine lv_iconst (v := nI 1) hx hb d_La_law_388 (by decide) ?_
  refine lv_iadd hx hb d_La_law_389 ?_
  refine hw_ti (nI_add _ _) ?_
  refine va_sld hx hb hX hbl hbA hI.2.2.1 (vp_in_nI (show i + 1 < Ls by omega) (by omega)) d_La_law_390 ?_
  refine hw_ti (show _ = xs (i + 1) from by rw [nI_clamp (by omega)]) ?_
  refine lv_aload_n hx hb d_La_law_391 rfl (lv_at hl 5 rfl) ?_
  refine lv_iload hx hb d_La_law_392 (lv_at hl 1 rfl) ?_
  refine lv_iconst (v := nI 2) hx hb d_La_law_394 (by decide) ?_
  refine lv_iadd hx hb d_La_law_395 ?_
  refine hw_ti (nI_add _ _) ?_
  refine va_sld hx hb hX hbl hbA hI.2.2.1 (vp_in_nI (show i + 2 < Ls by omega) (by omega)) d_La_law_396 ?_
  refine hw_ti (show _ = xs (i + 2) from by rw [nI_clamp (by omega)]) ?_
  refine lv_aload_n hx hb d_La_law_397 rfl (lv_at hl 5 rfl) ?_
  refine lv_iload hx hb d_La_law_398 (lv_at hl 1 rfl) ?_
  refine lv_iconst (v := nI 3) hx hb d_La_law_400 (by decide) ?_
  refine lv_iadd hx hb d_La_law_401 ?_
  refine hw_ti (nI_add _ _) ?_
  refine va_sld hx hb hX hbl hbA hI.2.2.1 (vp_in_nI (show i + 3 < Ls by omega) (by omega)) d_La_law_402 ?_
  refine hw_ti (show _ = xs (i + 3) from by rw [nI_clamp (by omega)]) ?_
  refine hw_cV (As := [.int (xs (i + 1)), .int (xs (i + 2)), .int (xs (i + 3))]) (rest := []) S hI m_Mo_subtract w_882 (c_Mo_subtract l D t0 L _ _ mm mc ml mg mw mr th σ wt (xs (i + 1)) (xs (i + 2)) (xs (i + 3)) hM hok) hM.mmc rfl hl.1 rfl rfl (Nat.le_of_ble_eq_true rfl) d_La_law_403 ⟨Nat.le_of_ble_eq_true rfl, Nat.le_of_ble_eq_true rfl⟩ ⟨hc, hs⟩ (fun v9 L9 f111 H locs hp hI => ?_)
  refine W.cs (cells' := cells + 1) (slots' := slots + 6) rfl rfl ?_
  obtain ⟨hv9, rfl, hM, hF2⟩ := hp
  cases hv9
  refine hw_stk (st' := []) rfl ?_
  have hS := hS.keep (f' := f111) (fun q hq => ⟨hS.mem q hq, hF2 q (hG.2.1 q hq).1⟩)
  have hao := hw_c.fr hao (hF2 ao hG.2.2)
  refine lv_aload_n hx hb d_La_law_406 rfl (lv_at hl 3 rfl) ?_
  refine hw_cV (As := []) (rest := []) S hI m_Mo_thrown w_790 (c_Mo_thrown l D t0 L _ _ mm mc ml mg mw mr _ _ wt hM) hM.mmc rfl hl.1 rfl rfl (Nat.le_of_ble_eq_true rfl) d_La_law_407 ⟨Nat.le_of_ble_eq_true rfl, Nat.le_of_ble_eq_true rfl⟩ ⟨hc, hs⟩ (fun v9 L9 f112 H locs hp hI => ?_)
  refine W.cs (cells' := cells + 1) (slots' := slots + 6) rfl rfl ?_
  obtain ⟨hv9, rfl, rfl⟩ := hp
  cases hv9
  refine hw_stk (st' := [.int (nI (opSub σ (xs (i + 1)) (xs (i + 2)) (xs (i + 3))).1)]) rfl ?_
  refine lv_iload hx hb d_La_law_410 (lv_at hl 0 rfl) ?_
  refine lv_icmp_eq (tgt := 417) hx hb d_La_law_412 (by decide) (fun _ => ?_) (fun c9 => absurd rfl c9)
  refine lv_goto (tgt := 1340) hx hb d_La_law_417 (by decide) ?_
  exact kk _ _ _ _ _ _ ⟨hI, hS, ⟨_, hM⟩, ⟨_, hao⟩, opSub_ok hok⟩ (lv_sub hl [1, 2, 3, 4, 5] rfl)
set_option maxHeartbeats 4000000 in
set_option maxRecDepth 100000 in
theorem k_multiply {p : Program} {l : Launch} {e : Env} {s : State} {m : MethodId} {below : List Frame} {meth : Method} {c : Code} {b Ls : Nat} {xs : Nat → Int32} {D : va_G} {t0 : Nat} {L : List Nat} {f : Nat → va_E} {H : Heap} {locs : List Loc} {cells slots : Nat} {Q : State → Prop} {ls : Array Slot} {o r fr : Nat → Nat} {ad al ab am ak ah aw ar rg wf mm mc ml mg mw mr ao : Nat} {σ : Sg} {wt : Nat → Nat} {i : Nat} (hlt : l.stackTraces = false) (S : CallFix p m c code 7 s #[Value.ref b] TT "WallFractionsLaw") (hX : va_X b Ls xs s s.heap) (hbl : b < s.heap.size) (hG : LG o r fr ad al ab am ak ah aw ar rg wf mm mc ml mg mw mr ao) (h9 : LI D t0 s L f H locs o r fr ad al ab am ak ah aw ar rg wf mm mc ml mg mw mr ao σ wt) (hi : i + 6 ≤ Ls) (hLs : Ls ≤ 3072) (hc : cells + 1 ≤ 601024) (hs : slots + 6 ≤ 7293034) (hl : lv_has ls 7 [(4, .int (nI i)), (3, .ref (ao)), (2, .ref (mm)), (1, .ref (wf)), (0, .ref (b))]) (kk : ∀ (f2 : Nat → va_E) (H2 : Heap) (locs2 : List Loc) (ls2 : Array Slot) (σ2 : Sg) (wt2 : Nat → Nat), LI D t0 s L f2 H2 locs2 o r fr ad al ab am ak ah aw ar rg wf mm mc ml mg mw mr ao σ2 wt2 → lv_has ls2 7 [(4, .int (nI i)), (3, .ref (ao)), (2, .ref (mm)), (1, .ref (wf)), (0, .ref (b))] → W p l e room_1 s m #[Value.ref b] below meth c H2 locs2 (cells + 1) (slots + 6) Q (F0 m 1340 ls2 [])) : W p l e room_1 s m #[Value.ref b] below meth c H locs cells slots Q (F0 m 420 ls []) := by
  have hx := S.1
  have hb := S.2.1
  have hown := S.2.2.2.1
  have hT := S.2.2.2.2
  obtain ⟨hI, hS, ⟨th, hM⟩, ⟨g, hao⟩, hok⟩ := h9
  have hbA : ¬ hw_A [] s.heap.size b := fun h => h.elim (fun q => absurd q List.not_mem_nil) (fun q => by omega)
  have hna : ¬ Al o r fr ad al ab am ak ah aw ar rg wf ao := fun h => (hG.2.1 ao h).2 rfl
  have hno : ¬ Own o r fr ad al ab am ak ah aw ar rg wf ao := fun h => hna (Or.inl h)
  refine lv_aload_n hx hb d_La_law_420 rfl (lv_at hl 3 rfl) ?_
  refine lv_aload_n hx hb d_La_law_421 rfl (lv_at hl 4 rfl) ?_
  refine lv_iload hx hb d_La_law_422 (lv_at hl 0 rfl) ?_
  refine lv_iconst (v := nI 1) hx hb d_La_law_424 (by decide) ?_
  refine lv_iadd hx hb d_La_law_425 ?_
  refine hw_ti (nI_add _ _) ?_
  refine va_sld hx hb hX hbl hbA hI.2.2.1 (vp_in_nI (show i + 1 < Ls by omega) (by omega)) d_La_law_426 ?_
  refine hw_ti (show _ = xs (i + 1) from by rw [nI_clamp (by omega)]) ?_
  refine lv_aload_n hx hb d_La_law_427 rfl (lv_at hl 4 rfl) ?_
  refine lv_iload hx hb d_La_law_428 (lv_at hl 0 rfl) ?_
  refine lv_iconst (v := nI 2) hx hb d_La_law_430 (by decide) ?_
  refine lv_iadd hx hb d_La_law_431 ?_
  refine hw_ti (nI_add _ _) ?_
  refine va_sld hx hb hX hbl hbA hI.2.2.1 (vp_in_nI (show i + 2 < Ls by omega) (by omega)) d_La_law_432 ?_
  refine hw_ti (show _ = xs (i + 2) from by rw [nI_clamp (by omega)]) ?_
  refine lv_aload_n hx hb d_La_law_433 rfl (lv_at hl 4 rfl) ?_
  refine lv_iload hx hb d_La_law_434 (lv_at hl 0 rfl) ?_
  refine lv_iconst (v := nI 3) hx hb d_La_law_436 (by decide) ?_
  refine lv_iadd hx hb d_La_law_437 ?_
  refine hw_ti (nI_add _ _) ?_
  refine va_sld hx hb hX hbl hbA hI.2.2.1 (vp_in_nI (show i + 3 < Ls by omega) (by omega)) d_La_law_438 ?_
  refine hw_ti (show _ = xs (i + 3) from by rw [nI_clamp (by omega)]) ?_
  refine hw_xW (As := [.ref (wf), .int (xs (i + 1)), .int (xs (i + 2)), .int (xs (i + 3))]) (rest := []) S hI m_La_multiply w_529 (c_La_multiply l hlt D t0 L _ _ o r fr ad al ab am ak ah aw ar rg wf σ wt (xs (i + 1)) (xs (i + 2)) (xs (i + 3))  hG.1 hS hok) hl.1 rfl rfl (Nat.le_of_ble_eq_true rfl) d_La_law_439 ⟨Nat.le_of_ble_eq_true rfl, Nat.le_of_ble_eq_true rfl⟩ ⟨hc, hs⟩ (fun v9 L9 f113 H locs hp hI => ?_)
  refine W.cs (cells' := cells + 1) (slots' := slots + 6) rfl rfl ?_
  obtain ⟨hv9, rfl, hS, hF⟩ := hp
  cases hv9
  refine hw_stk (st' := [.int (nI (opMul σ (xs (i + 1)) (xs (i + 2)) (xs (i + 3))).1)]) rfl ?_
  have hM := hM.keep (f' := f113) (fun q hq => ⟨hM.mem q hq, hF q (fun h => (hG.2.1 q (Or.inl h)).1 hq)⟩)
  have hao := hw_c.fr hao (hF ao hno)
  refine lv_istore (lv' := [(5, .int (nI (opMul σ (xs (i + 1)) (xs (i + 2)) (xs (i + 3))).1)), (4, .int (nI i)), (3, .ref (ao)), (2, .ref (mm)), (1, .ref (wf)), (0, .ref (b))]) hx hb d_La_law_442 hl (by decide) rfl (fun ls hl => ?_)
  refine lv_aload_n hx hb d_La_law_444 rfl (lv_at hl 3 rfl) ?_
  refine lv_aload_n hx hb d_La_law_445 rfl (lv_at hl 5 rfl) ?_
  refine lv_iload hx hb d_La_law_446 (lv_at hl 1 rfl) ?_
  refine lv_iconst (v := nI 1) hx hb d_La_law_448 (by decide) ?_
  refine lv_iadd hx hb d_La_law_449 ?_
  refine hw_ti (nI_add _ _) ?_
  refine va_sld hx hb hX hbl hbA hI.2.2.1 (vp_in_nI (show i + 1 < Ls by omega) (by omega)) d_La_law_450 ?_
  refine hw_ti (show _ = xs (i + 1) from by rw [nI_clamp (by omega)]) ?_
  refine lv_aload_n hx hb d_La_law_451 rfl (lv_at hl 5 rfl) ?_
  refine lv_iload hx hb d_La_law_452 (lv_at hl 1 rfl) ?_
  refine lv_iconst (v := nI 2) hx hb d_La_law_454 (by decide) ?_
  refine lv_iadd hx hb d_La_law_455 ?_
  refine hw_ti (nI_add _ _) ?_
  refine va_sld hx hb hX hbl hbA hI.2.2.1 (vp_in_nI (show i + 2 < Ls by omega) (by omega)) d_La_law_456 ?_
  refine hw_ti (show _ = xs (i + 2) from by rw [nI_clamp (by omega)]) ?_
  refine lv_aload_n hx hb d_La_law_457 rfl (lv_at hl 5 rfl) ?_
  refine lv_iload hx hb d_La_law_458 (lv_at hl 1 rfl) ?_
  refine lv_iconst (v := nI 3) hx hb d_La_law_460 (by decide) ?_
  refine lv_iadd hx hb d_La_law_461 ?_
  refine hw_ti (nI_add _ _) ?_
  refine va_sld hx hb hX hbl hbA hI.2.2.1 (vp_in_nI (show i + 3 < Ls by omega) (by omega)) d_La_law_462 ?_
  refine hw_ti (show _ = xs (i + 3) from by rw [nI_clamp (by omega)]) ?_
  refine hw_cV (As := [.int (xs (i + 1)), .int (xs (i + 2)), .int (xs (i + 3))]) (rest := []) S hI m_Mo_multiply w_886 (c_Mo_multiply l D t0 L _ _ mm mc ml mg mw mr th σ wt (xs (i + 1)) (xs (i + 2)) (xs (i + 3)) hM hok) hM.mmc rfl hl.1 rfl rfl (Nat.le_of_ble_eq_true rfl) d_La_law_463 ⟨Nat.le_of_ble_eq_true rfl, Nat.le_of_ble_eq_true rfl⟩ ⟨hc, hs⟩ (fun v9 L9 f114 H locs hp hI => ?_)
  refine W.cs (cells' := cells + 1) (slots' := slots + 6) rfl rfl ?_
  obtain ⟨hv9, rfl, hM, hF2⟩ := hp
  cases hv9
  refine hw_stk (st' := []) rfl ?_
  have hS := hS.keep (f' := f114) (fun q hq => ⟨hS.mem q hq, hF2 q (hG.2.1 q hq).1⟩)
  have hao := hw_c.fr hao (hF2 ao hG.2.2)
  refine lv_aload_n hx hb d_La_law_466 rfl (lv_at hl 3 rfl) ?_
  refine hw_cV (As := []) (rest := []) S hI m_Mo_thrown w_790 (c_Mo_thrown l D t0 L _ _ mm mc ml mg mw mr _ _ wt hM) hM.mmc rfl hl.1 rfl rfl (Nat.le_of_ble_eq_true rfl) d_La_law_467 ⟨Nat.le_of_ble_eq_true rfl, Nat.le_of_ble_eq_true rfl⟩ ⟨hc, hs⟩ (fun v9 L9 f115 H locs hp hI => ?_)
  refine W.cs (cells' := cells + 1) (slots' := slots + 6) rfl rfl ?_
  obtain ⟨hv9, rfl, rfl⟩ := hp
  cases hv9
  refine hw_stk (st' := [.int (nI (opMul σ (xs (i + 1)) (xs (i + 2)) (xs (i + 3))).1)]) rfl ?_
  refine lv_iload hx hb d_La_law_470 (lv_at hl 0 rfl) ?_
  refine lv_icmp_eq (tgt := 477) hx hb d_La_law_472 (by decide) (fun _ => ?_) (fun c9 => absurd rfl c9)
  refine lv_goto (tgt := 1340) hx hb d_La_law_477 (by decide) ?_
  exact kk _ _ _ _ _ _ ⟨hI, hS, ⟨_, hM⟩, ⟨_, hao⟩, opMul_ok hok⟩ (lv_sub hl [1, 2, 3, 4, 5] rfl)
set_option maxHeartbeats 4000000 in
set_option maxRecDepth 100000 in
theorem k_divide {p : Program} {l : Launch} {e : Env} {s : State} {m : MethodId} {below : List Frame} {meth : Method} {c : Code} {b Ls : Nat} {xs : Nat → Int32} {D : va_G} {t0 : Nat} {L : List Nat} {f : Nat → va_E} {H : Heap} {locs : List Loc} {cells slots : Nat} {Q : State → Prop} {ls : Array Slot} {o r fr : Nat → Nat} {ad al ab am ak ah aw ar rg wf mm mc ml mg mw mr ao : Nat} {σ : Sg} {wt : Nat → Nat} {i : Nat} (hlt : l.stackTraces = false) (S : CallFix p m c code 7 s #[Value.ref b] TT "WallFractionsLaw") (hX : va_X b Ls xs s s.heap) (hbl : b < s.heap.size) (hG : LG o r fr ad al ab am ak ah aw ar rg wf mm mc ml mg mw mr ao) (h9 : LI D t0 s L f H locs o r fr ad al ab am ak ah aw ar rg wf mm mc ml mg mw mr ao σ wt) (hi : i + 6 ≤ Ls) (hLs : Ls ≤ 3072) (hc : cells + 1 ≤ 601024) (hs : slots + 6 ≤ 7293034) (hl : lv_has ls 7 [(4, .int (nI i)), (3, .ref (ao)), (2, .ref (mm)), (1, .ref (wf)), (0, .ref (b))]) (kk : ∀ (f2 : Nat → va_E) (H2 : Heap) (locs2 : List Loc) (ls2 : Array Slot) (σ2 : Sg) (wt2 : Nat → Nat), LI D t0 s L f2 H2 locs2 o r fr ad al ab am ak ah aw ar rg wf mm mc ml mg mw mr ao σ2 wt2 → lv_has ls2 7 [(4, .int (nI i)), (3, .ref (ao)), (2, .ref (mm)), (1, .ref (wf)), (0, .ref (b))] → W p l e room_1 s m #[Value.ref b] below meth c H2 locs2 (cells + 1) (slots + 6) Q (F0 m 1340 ls2 [])) : W p l e room_1 s m #[Value.ref b] below meth c H locs cells slots Q (F0 m 480 ls []) := by
  have hx := S.1
  have hb := S.2.1
  have hown := S.2.2.2.1
  have hT := S.2.2.2.2
  obtain ⟨hI, hS, ⟨th, hM⟩, ⟨g, hao⟩, hok⟩ := h9
  have hbA : ¬ hw_A [] s.heap.size b := fun h => h.elim (fun q => absurd q List.not_mem_nil) (fun q => by omega)
  have hna : ¬ Al o r fr ad al ab am ak ah aw ar rg wf ao := fun h => (hG.2.1 ao h).2 rfl
  have hno : ¬ Own o r fr ad al ab am ak ah aw ar rg wf ao := fun h => hna (Or.inl h)
  refine lv_aload_n hx hb d_La_law_480 rfl (lv_at hl 3 rfl) ?_
  refine lv_aload_n hx hb d_La_law_481 rfl (lv_at hl 4 rfl) ?_
  refine lv_iload hx hb d_La_law_482 (lv_at hl 0 rfl) ?_
  refine lv_iconst (v := nI 1) hx hb d_La_law_484 (by decide) ?_
  refine lv_iadd hx hb d_La_law_485 ?_
  refine hw_ti (nI_add _ _) ?_
  refine va_sld hx hb hX hbl hbA hI.2.2.1 (vp_in_nI (show i + 1 < Ls by omega) (by omega)) d_La_law_486 ?_
  refine hw_ti (show _ = xs (i + 1) from by rw [nI_clamp (by omega)]) ?_
  refine lv_aload_n hx hb d_La_law_487 rfl (lv_at hl 4 rfl) ?_
  refine lv_iload hx hb d_La_law_488 (lv_at hl 0 rfl) ?_
  refine lv_iconst (v := nI 2) hx hb d_La_law_490 (by decide) ?_
  refine lv_iadd hx hb d_La_law_491 ?_
  refine hw_ti (nI_add _ _) ?_
  refine va_sld hx hb hX hbl hbA hI.2.2.1 (vp_in_nI (show i + 2 < Ls by omega) (by omega)) d_La_law_492 ?_
  refine hw_ti (show _ = xs (i + 2) from by rw [nI_clamp (by omega)]) ?_
  refine lv_aload_n hx hb d_La_law_493 rfl (lv_at hl 4 rfl) ?_
  refine lv_iload hx hb d_La_law_494 (lv_at hl 0 rfl) ?_
  refine lv_iconst (v := nI 3) hx hb d_La_law_496 (by decide) ?_
  refine lv_iadd hx hb d_La_law_497 ?_
  refine hw_ti (nI_add _ _) ?_
  refine va_sld hx hb hX hbl hbA hI.2.2.1 (vp_in_nI (show i + 3 < Ls by omega) (by omega)) d_La_law_498 ?_
  refine hw_ti (show _ = xs (i + 3) from by rw [nI_clamp (by omega)]) ?_
  refine hw_xW (As := [.ref (wf), .int (xs (i + 1)), .int (xs (i + 2)), .int (xs (i + 3))]) (rest := []) S hI m_La_divide w_540 (c_La_divide l hlt D t0 L _ _ o r fr ad al ab am ak ah aw ar rg wf σ wt (xs (i + 1)) (xs (i + 2)) (xs (i + 3))  hG.1 hS hok) hl.1 rfl rfl (Nat.le_of_ble_eq_true rfl) d_La_law_499 ⟨Nat.le_of_ble_eq_true rfl, Nat.le_of_ble_eq_true rfl⟩ ⟨hc, hs⟩ (fun v9 L9 f116 H locs hp hI => ?_)
  refine W.cs (cells' := cells + 1) (slots' := slots + 6) rfl rfl ?_
  obtain ⟨hv9, rfl, hS, hF⟩ := hp
  cases hv9
  refine hw_stk (st' := [.int (nI (opDiv σ (xs (i + 1)) (xs (i + 2)) (xs (i + 3))).1)]) rfl ?_
  have hM := hM.keep (f' := f116) (fun q hq => ⟨hM.mem q hq, hF q (fun h => (hG.2.1 q (Or.inl h)).1 hq)⟩)
  have hao := hw_c.fr hao (hF ao hno)
  refine lv_istore (lv' := [(5, .int (nI (opDiv σ (xs (i + 1)) (xs (i + 2)) (xs (i + 3))).1)), (4, .int (nI i)), (3, .ref (ao)), (2, .ref (mm)), (1, .ref (wf)), (0, .ref (b))]) hx hb d_La_law_502 hl (by decide) rfl (fun ls hl => ?_)
  refine lv_aload_n hx hb d_La_law_504 rfl (lv_at hl 3 rfl) ?_
  refine lv_aload_n hx hb d_La_law_505 rfl (lv_at hl 5 rfl) ?_
  refine lv_iload hx hb d_La_law_506 (lv_at hl 1 rfl) ?_
  refine lv_iconst (v := nI 1) hx hb d_La_law_508 (by decide) ?_
  refine lv_iadd hx hb d_La_law_509 ?_
  refine hw_ti (nI_add _ _) ?_
  refine va_sld hx hb hX hbl hbA hI.2.2.1 (vp_in_nI (show i + 1 < Ls by omega) (by omega)) d_La_law_510 ?_
  refine hw_ti (show _ = xs (i + 1) from by rw [nI_clamp (by omega)]) ?_
  refine lv_aload_n hx hb d_La_law_511 rfl (lv_at hl 5 rfl) ?_
  refine lv_iload hx hb d_La_law_512 (lv_at hl 1 rfl) ?_
  refine lv_iconst (v := nI 2) hx hb d_La_law_514 (by decide) ?_
  refine lv_iadd hx hb d_La_law_515 ?_
  refine hw_ti (nI_add _ _) ?_
  refine va_sld hx hb hX hbl hbA hI.2.2.1 (vp_in_nI (show i + 2 < Ls by omega) (by omega)) d_La_law_516 ?_
  refine hw_ti (show _ = xs (i + 2) from by rw [nI_clamp (by omega)]) ?_
  refine lv_aload_n hx hb d_La_law_517 rfl (lv_at hl 5 rfl) ?_
  refine lv_iload hx hb d_La_law_518 (lv_at hl 1 rfl) ?_
  refine lv_iconst (v := nI 3) hx hb d_La_law_520 (by decide) ?_
  refine lv_iadd hx hb d_La_law_521 ?_
  refine hw_ti (nI_add _ _) ?_
  refine va_sld hx hb hX hbl hbA hI.2.2.1 (vp_in_nI (show i + 3 < Ls by omega) (by omega)) d_La_law_522 ?_
  refine hw_ti (show _ = xs (i + 3) from by rw [nI_clamp (by omega)]) ?_
  refine hw_cV (As := [.int (xs (i + 1)), .int (xs (i + 2)), .int (xs (i + 3))]) (rest := []) S hI m_Mo_divide w_890 (c_Mo_divide l D t0 L _ _ mm mc ml mg mw mr th σ wt (xs (i + 1)) (xs (i + 2)) (xs (i + 3)) hM hok) hM.mmc rfl hl.1 rfl rfl (Nat.le_of_ble_eq_true rfl) d_La_law_523 ⟨Nat.le_of_ble_eq_true rfl, Nat.le_of_ble_eq_true rfl⟩ ⟨hc, hs⟩ (fun v9 L9 f117 H locs hp hI => ?_)
  refine W.cs (cells' := cells + 1) (slots' := slots + 6) rfl rfl ?_
  obtain ⟨hv9, rfl, hM, hF2⟩ := hp
  cases hv9
  refine hw_stk (st' := []) rfl ?_
  have hS := hS.keep (f' := f117) (fun q hq => ⟨hS.mem q hq, hF2 q (hG.2.1 q hq).1⟩)
  have hao := hw_c.fr hao (hF2 ao hG.2.2)
  refine lv_aload_n hx hb d_La_law_526 rfl (lv_at hl 3 rfl) ?_
  refine hw_cV (As := []) (rest := []) S hI m_Mo_thrown w_790 (c_Mo_thrown l D t0 L _ _ mm mc ml mg mw mr _ _ wt hM) hM.mmc rfl hl.1 rfl rfl (Nat.le_of_ble_eq_true rfl) d_La_law_527 ⟨Nat.le_of_ble_eq_true rfl, Nat.le_of_ble_eq_true rfl⟩ ⟨hc, hs⟩ (fun v9 L9 f118 H locs hp hI => ?_)
  refine W.cs (cells' := cells + 1) (slots' := slots + 6) rfl rfl ?_
  obtain ⟨hv9, rfl, rfl⟩ := hp
  cases hv9
  refine hw_stk (st' := [.int (nI (opDiv σ (xs (i + 1)) (xs (i + 2)) (xs (i + 3))).1)]) rfl ?_
  refine lv_iload hx hb d_La_law_530 (lv_at hl 0 rfl) ?_
  refine lv_icmp_eq (tgt := 537) hx hb d_La_law_532 (by decide) (fun _ => ?_) (fun c9 => absurd rfl c9)
  refine lv_goto (tgt := 1340) hx hb d_La_law_537 (by decide) ?_
  exact kk _ _ _ _ _ _ ⟨hI, hS, ⟨_, hM⟩, ⟨_, hao⟩, opDiv_ok hok⟩ (lv_sub hl [1, 2, 3, 4, 5] rfl)
set_option maxHeartbeats 4000000 in
set_option maxRecDepth 100000 in
theorem k_power {p : Program} {l : Launch} {e : Env} {s : State} {m : MethodId} {below : List Frame} {meth : Method} {c : Code} {b Ls : Nat} {xs : Nat → Int32} {D : va_G} {t0 : Nat} {L : List Nat} {f : Nat → va_E} {H : Heap} {locs : List Loc} {cells slots : Nat} {Q : State → Prop} {ls : Array Slot} {o r fr : Nat → Nat} {ad al ab am ak ah aw ar rg wf mm mc ml mg mw mr ao : Nat} {σ : Sg} {wt : Nat → Nat} {i : Nat} (hlt : l.stackTraces = false) (S : CallFix p m c code 7 s #[Value.ref b] TT "WallFractionsLaw") (hX : va_X b Ls xs s s.heap) (hbl : b < s.heap.size) (hG : LG o r fr ad al ab am ak ah aw ar rg wf mm mc ml mg mw mr ao) (h9 : LI D t0 s L f H locs o r fr ad al ab am ak ah aw ar rg wf mm mc ml mg mw mr ao σ wt) (hi : i + 6 ≤ Ls) (hLs : Ls ≤ 3072) (hc : cells + 1 ≤ 601024) (hs : slots + 6 ≤ 7293034) (hl : lv_has ls 7 [(4, .int (nI i)), (3, .ref (ao)), (2, .ref (mm)), (1, .ref (wf)), (0, .ref (b))]) (kk : ∀ (f2 : Nat → va_E) (H2 : Heap) (locs2 : List Loc) (ls2 : Array Slot) (σ2 : Sg) (wt2 : Nat → Nat), LI D t0 s L f2 H2 locs2 o r fr ad al ab am ak ah aw ar rg wf mm mc ml mg mw mr ao σ2 wt2 → lv_has ls2 7 [(4, .int (nI i)), (3, .ref (ao)), (2, .ref (mm)), (1, .ref (wf)), (0, .ref (b))] → W p l e room_1 s m #[Value.ref b] below meth c H2 locs2 (cells + 1) (slots + 6) Q (F0 m 1340 ls2 [])) : W p l e room_1 s m #[Value.ref b] below meth c H locs cells slots Q (F0 m 540 ls []) := by
  have hx := S.1
  have hb := S.2.1
  have hown := S.2.2.2.1
  have hT := S.2.2.2.2
  obtain ⟨hI, hS, ⟨th, hM⟩, ⟨g, hao⟩, hok⟩ := h9
  have hbA : ¬ hw_A [] s.heap.size b := fun h => h.elim (fun q => absurd q List.not_mem_nil) (fun q => by omega)
  have hna : ¬ Al o r fr ad al ab am ak ah aw ar rg wf ao := fun h => (hG.2.1 ao h).2 rfl
  have hno : ¬ Own o r fr ad al ab am ak ah aw ar rg wf ao := fun h => hna (Or.inl h)
  refine lv_aload_n hx hb d_La_law_540 rfl (lv_at hl 3 rfl) ?_
  refine lv_aload_n hx hb d_La_law_541 rfl (lv_at hl 4 rfl) ?_
  refine lv_iload hx hb d_La_law_542 (lv_at hl 0 rfl) ?_
  refine lv_iconst (v := nI 1) hx hb d_La_law_544 (by decide) ?_
  refine lv_iadd hx hb d_La_law_545 ?_
  refine hw_ti (nI_add _ _) ?_
  refine va_sld hx hb hX hbl hbA hI.2.2.1 (vp_in_nI (show i + 1 < Ls by omega) (by omega)) d_La_law_546 ?_
  refine hw_ti (show _ = xs (i + 1) from by rw [nI_clamp (by omega)]) ?_
  refine lv_aload_n hx hb d_La_law_547 rfl (lv_at hl 4 rfl) ?_
  refine lv_iload hx hb d_La_law_548 (lv_at hl 0 rfl) ?_
  refine lv_iconst (v := nI 2) hx hb d_La_law_550 (by decide) ?_
  refine lv_iadd hx hb d_La_law_551 ?_
  refine hw_ti (nI_add _ _) ?_
  refine va_sld hx hb hX hbl hbA hI.2.2.1 (vp_in_nI (show i + 2 < Ls by omega) (by omega)) d_La_law_552 ?_
  refine hw_ti (show _ = xs (i + 2) from by rw [nI_clamp (by omega)]) ?_
  refine lv_aload_n hx hb d_La_law_553 rfl (lv_at hl 4 rfl) ?_
  refine lv_iload hx hb d_La_law_554 (lv_at hl 0 rfl) ?_
  refine lv_iconst (v := nI 3) hx hb d_La_law_556 (by decide) ?_
  refine lv_iadd hx hb d_La_law_557 ?_
  refine hw_ti (nI_add _ _) ?_
  refine va_sld hx hb hX hbl hbA hI.2.2.1 (vp_in_nI (show i + 3 < Ls by omega) (by omega)) d_La_law_558 ?_
  refine hw_ti (show _ = xs (i + 3) from by rw [nI_clamp (by omega)]) ?_
  refine hw_xW (As := [.ref (wf), .int (xs (i + 1)), .int (xs (i + 2)), .int (xs (i + 3))]) (rest := []) S hI m_La_power w_549 (c_La_power l hlt D t0 L _ _ o r fr ad al ab am ak ah aw ar rg wf σ wt (xs (i + 1)) (xs (i + 2)) (xs (i + 3))  hG.1 hS hok) hl.1 rfl rfl (Nat.le_of_ble_eq_true rfl) d_La_law_559 ⟨Nat.le_of_ble_eq_true rfl, Nat.le_of_ble_eq_true rfl⟩ ⟨hc, hs⟩ (fun v9 L9 f119 H locs hp hI => ?_)
  refine W.cs (cells' := cells + 1) (slots' := slots + 6) rfl rfl ?_
  obtain ⟨hv9, rfl, hS, hF⟩ := hp
  cases hv9
  refine hw_stk (st' := [.int (nI (opPow σ (xs (i + 1)) (xs (i + 2)) (xs (i + 3))).1)]) rfl ?_
  have hM := hM.keep (f' := f119) (fun q hq => ⟨hM.mem q hq, hF q (fun h => (hG.2.1 q (Or.inl h)).1 hq)⟩)
  have hao := hw_c.fr hao (hF ao hno)
  refine lv_istore (lv' := [(5, .int (nI (opPow σ (xs (i + 1)) (xs (i + 2)) (xs (i + 3))).1)), (4, .int (nI i)), (3, .ref (ao)), (2, .ref (mm)), (1, .ref (wf)), (0, .ref (b))]) hx hb d_La_law_562 hl (by decide) rfl (fun ls hl => ?_)
  refine lv_aload_n hx hb d_La_law_564 rfl (lv_at hl 3 rfl) ?_
  refine lv_aload_n hx hb d_La_law_565 rfl (lv_at hl 5 rfl) ?_
  refine lv_iload hx hb d_La_law_566 (lv_at hl 1 rfl) ?_
  refine lv_iconst (v := nI 1) hx hb d_La_law_568 (by decide) ?_
  refine lv_iadd hx hb d_La_law_569 ?_
  refine hw_ti (nI_add _ _) ?_
  refine va_sld hx hb hX hbl hbA hI.2.2.1 (vp_in_nI (show i + 1 < Ls by omega) (by omega)) d_La_law_570 ?_
  refine hw_ti (show _ = xs (i + 1) from by rw [nI_clamp (by omega)]) ?_
  refine lv_aload_n hx hb d_La_law_571 rfl (lv_at hl 5 rfl) ?_
  refine lv_iload hx hb d_La_law_572 (lv_at hl 1 rfl) ?_
  refine lv_iconst (v := nI 2) hx hb d_La_law_574 (by decide) ?_
  refine lv_iadd hx hb d_La_law_575 ?_
  refine hw_ti (nI_add _ _) ?_
  refine va_sld hx hb hX hbl hbA hI.2.2.1 (vp_in_nI (show i + 2 < Ls by omega) (by omega)) d_La_law_576 ?_
  refine hw_ti (show _ = xs (i + 2) from by rw [nI_clamp (by omega)]) ?_
  refine lv_aload_n hx hb d_La_law_577 rfl (lv_at hl 5 rfl) ?_
  refine lv_iload hx hb d_La_law_578 (lv_at hl 1 rfl) ?_
  refine lv_iconst (v := nI 3) hx hb d_La_law_580 (by decide) ?_
  refine lv_iadd hx hb d_La_law_581 ?_
  refine hw_ti (nI_add _ _) ?_
  refine va_sld hx hb hX hbl hbA hI.2.2.1 (vp_in_nI (show i + 3 < Ls by omega) (by omega)) d_La_law_582 ?_
  refine hw_ti (show _ = xs (i + 3) from by rw [nI_clamp (by omega)]) ?_
  refine hw_cV (As := [.int (xs (i + 1)), .int (xs (i + 2)), .int (xs (i + 3))]) (rest := []) S hI m_Mo_power w_894 (c_Mo_power l D t0 L _ _ mm mc ml mg mw mr th σ wt (xs (i + 1)) (xs (i + 2)) (xs (i + 3)) hM hok) hM.mmc rfl hl.1 rfl rfl (Nat.le_of_ble_eq_true rfl) d_La_law_583 ⟨Nat.le_of_ble_eq_true rfl, Nat.le_of_ble_eq_true rfl⟩ ⟨hc, hs⟩ (fun v9 L9 f120 H locs hp hI => ?_)
  refine W.cs (cells' := cells + 1) (slots' := slots + 6) rfl rfl ?_
  obtain ⟨hv9, rfl, hM, hF2⟩ := hp
  cases hv9
  refine hw_stk (st' := []) rfl ?_
  have hS := hS.keep (f' := f120) (fun q hq => ⟨hS.mem q hq, hF2 q (hG.2.1 q hq).1⟩)
  have hao := hw_c.fr hao (hF2 ao hG.2.2)
  refine lv_aload_n hx hb d_La_law_586 rfl (lv_at hl 3 rfl) ?_
  refine hw_cV (As := []) (rest := []) S hI m_Mo_thrown w_790 (c_Mo_thrown l D t0 L _ _ mm mc ml mg mw mr _ _ wt hM) hM.mmc rfl hl.1 rfl rfl (Nat.le_of_ble_eq_true rfl) d_La_law_587 ⟨Nat.le_of_ble_eq_true rfl, Nat.le_of_ble_eq_true rfl⟩ ⟨hc, hs⟩ (fun v9 L9 f121 H locs hp hI => ?_)
  refine W.cs (cells' := cells + 1) (slots' := slots + 6) rfl rfl ?_
  obtain ⟨hv9, rfl, rfl⟩ := hp
  cases hv9
  refine hw_stk (st' := [.int (nI (opPow σ (xs (i + 1)) (xs (i + 2)) (xs (i + 3))).1)]) rfl ?_
  refine lv_iload hx hb d_La_law_590 (lv_at hl 0 rfl) ?_
  refine lv_icmp_eq (tgt := 597) hx hb d_La_law_592 (by decide) (fun _ => ?_) (fun c9 => absurd rfl c9)
  refine lv_goto (tgt := 1340) hx hb d_La_law_597 (by decide) ?_
  exact kk _ _ _ _ _ _ ⟨hI, hS, ⟨_, hM⟩, ⟨_, hao⟩, opPow_ok hok⟩ (lv_sub hl [1, 2, 3, 4, 5] rfl)
set_option maxHeartbeats 4000000 in
set_option maxRecDepth 100000 in
theorem k_binomial {p : Program} {l : Launch} {e : Env} {s : State} {m : MethodId} {below : List Frame} {meth : Method} {c : Code} {b Ls : Nat} {xs : Nat → Int32} {D : va_G} {t0 : Nat} {L : List Nat} {f : Nat → va_E} {H : Heap} {locs : List Loc} {cells slots : Nat} {Q : State → Prop} {ls : Array Slot} {o r fr : Nat → Nat} {ad al ab am ak ah aw ar rg wf mm mc ml mg mw mr ao : Nat} {σ : Sg} {wt : Nat → Nat} {i : Nat} (hlt : l.stackTraces = false) (S : CallFix p m c code 7 s #[Value.ref b] TT "WallFractionsLaw") (hX : va_X b Ls xs s s.heap) (hbl : b < s.heap.size) (hG : LG o r fr ad al ab am ak ah aw ar rg wf mm mc ml mg mw mr ao) (h9 : LI D t0 s L f H locs o r fr ad al ab am ak ah aw ar rg wf mm mc ml mg mw mr ao σ wt) (hi : i + 6 ≤ Ls) (hLs : Ls ≤ 3072) (hc : cells + 1 ≤ 601024) (hs : slots + 6 ≤ 7293034) (hl : lv_has ls 7 [(4, .int (nI i)), (3, .ref (ao)), (2, .ref (mm)), (1, .ref (wf)), (0, .ref (b))]) (kk : ∀ (f2 : Nat → va_E) (H2 : Heap) (locs2 : List Loc) (ls2 : Array Slot) (σ2 : Sg) (wt2 : Nat → Nat), LI D t0 s L f2 H2 locs2 o r fr ad al ab am ak ah aw ar rg wf mm mc ml mg mw mr ao σ2 wt2 → lv_has ls2 7 [(4, .int (nI i)), (3, .ref (ao)), (2, .ref (mm)), (1, .ref (wf)), (0, .ref (b))] → W p l e room_1 s m #[Value.ref b] below meth c H2 locs2 (cells + 1) (slots + 6) Q (F0 m 1340 ls2 [])) : W p l e room_1 s m #[Value.ref b] below meth c H locs cells slots Q (F0 m 600 ls []) := by
  have hx := S.1
  have hb := S.2.1
  have hown := S.2.2.2.1
  have hT := S.2.2.2.2
  obtain ⟨hI, hS, ⟨th, hM⟩, ⟨g, hao⟩, hok⟩ := h9
  have hbA : ¬ hw_A [] s.heap.size b := fun h => h.elim (fun q => absurd q List.not_mem_nil) (fun q => by omega)
  have hna : ¬ Al o r fr ad al ab am ak ah aw ar rg wf ao := fun h => (hG.2.1 ao h).2 rfl
  have hno : ¬ Own o r fr ad al ab am ak ah aw ar rg wf ao := fun h => hna (Or.inl h)
  refine lv_aload_n hx hb d_La_law_600 rfl (lv_at hl 3 rfl) ?_
  refine lv_aload_n hx hb d_La_law_601 rfl (lv_at hl 4 rfl) ?_
  refine lv_iload hx hb d_La_law_602 (lv_at hl 0 rfl) ?_
  refine lv_iconst (v := nI 1) hx hb d_La_law_604 (by decide) ?_
  refine lv_iadd hx hb d_La_law_605 ?_
  refine hw_ti (nI_add _ _) ?_
  refine va_sld hx hb hX hbl hbA hI.2.2.1 (vp_in_nI (show i + 1 < Ls by omega) (by omega)) d_La_law_606 ?_
  refine hw_ti (show _ = xs (i + 1) from by rw [nI_clamp (by omega)]) ?_
  refine lv_aload_n hx hb d_La_law_607 rfl (lv_at hl 4 rfl) ?_
  refine lv_iload hx hb d_La_law_608 (lv_at hl 0 rfl) ?_
  refine lv_iconst (v := nI 2) hx hb d_La_law_610 (by decide) ?_
  refine lv_iadd hx hb d_La_law_611 ?_
  refine hw_ti (nI_add _ _) ?_
  refine va_sld hx hb hX hbl hbA hI.2.2.1 (vp_in_nI (show i + 2 < Ls by omega) (by omega)) d_La_law_612 ?_
  refine hw_ti (show _ = xs (i + 2) from by rw [nI_clamp (by omega)]) ?_
  refine lv_aload_n hx hb d_La_law_613 rfl (lv_at hl 4 rfl) ?_
  refine lv_iload hx hb d_La_law_614 (lv_at hl 0 rfl) ?_
  refine lv_iconst (v := nI 3) hx hb d_La_law_616 (by decide) ?_
  refine lv_iadd hx hb d_La_law_617 ?_
  refine hw_ti (nI_add _ _) ?_
  refine va_sld hx hb hX hbl hbA hI.2.2.1 (vp_in_nI (show i + 3 < Ls by omega) (by omega)) d_La_law_618 ?_
  refine hw_ti (show _ = xs (i + 3) from by rw [nI_clamp (by omega)]) ?_
  refine hw_xW (As := [.ref (wf), .int (xs (i + 1)), .int (xs (i + 2)), .int (xs (i + 3))]) (rest := []) S hI m_La_binomial w_567 (c_La_binomial l hlt D t0 L _ _ o r fr ad al ab am ak ah aw ar rg wf σ wt (xs (i + 1)) (xs (i + 2)) (xs (i + 3))  hG.1 hS hok) hl.1 rfl rfl (Nat.le_of_ble_eq_true rfl) d_La_law_619 ⟨Nat.le_of_ble_eq_true rfl, Nat.le_of_ble_eq_true rfl⟩ ⟨hc, hs⟩ (fun v9 L9 f122 H locs hp hI => ?_)
  refine W.cs (cells' := cells + 1) (slots' := slots + 6) rfl rfl ?_
  obtain ⟨hv9, rfl, hS, hF⟩ := hp
  cases hv9
  refine hw_stk (st' := [.int (nI (opBin σ (xs (i + 1)) (xs (i + 2)) (xs (i + 3))).1)]) rfl ?_
  have hM := hM.keep (f' := f122) (fun q hq => ⟨hM.mem q hq, hF q (fun h => (hG.2.1 q (Or.inl h)).1 hq)⟩)
  have hao := hw_c.fr hao (hF ao hno)
  refine lv_istore (lv' := [(5, .int (nI (opBin σ (xs (i + 1)) (xs (i + 2)) (xs (i + 3))).1)), (4, .int (nI i)), (3, .ref (ao)), (2, .ref (mm)), (1, .ref (wf)), (0, .ref (b))]) hx hb d_La_law_622 hl (by decide) rfl (fun ls hl => ?_)
  refine lv_aload_n hx hb d_La_law_624 rfl (lv_at hl 3 rfl) ?_
  refine lv_aload_n hx hb d_La_law_625 rfl (lv_at hl 5 rfl) ?_
  refine lv_iload hx hb d_La_law_626 (lv_at hl 1 rfl) ?_
  refine lv_iconst (v := nI 1) hx hb d_La_law_628 (by decide) ?_
  refine lv_iadd hx hb d_La_law_629 ?_
  refine hw_ti (nI_add _ _) ?_
  refine va_sld hx hb hX hbl hbA hI.2.2.1 (vp_in_nI (show i + 1 < Ls by omega) (by omega)) d_La_law_630 ?_
  refine hw_ti (show _ = xs (i + 1) from by rw [nI_clamp (by omega)]) ?_
  refine lv_aload_n hx hb d_La_law_631 rfl (lv_at hl 5 rfl) ?_
  refine lv_iload hx hb d_La_law_632 (lv_at hl 1 rfl) ?_
  refine lv_iconst (v := nI 2) hx hb d_La_law_634 (by decide) ?_
  refine lv_iadd hx hb d_La_law_635 ?_
  refine hw_ti (nI_add _ _) ?_
  refine va_sld hx hb hX hbl hbA hI.2.2.1 (vp_in_nI (show i + 2 < Ls by omega) (by omega)) d_La_law_636 ?_
  refine hw_ti (show _ = xs (i + 2) from by rw [nI_clamp (by omega)]) ?_
  refine lv_aload_n hx hb d_La_law_637 rfl (lv_at hl 5 rfl) ?_
  refine lv_iload hx hb d_La_law_638 (lv_at hl 1 rfl) ?_
  refine lv_iconst (v := nI 3) hx hb d_La_law_640 (by decide) ?_
  refine lv_iadd hx hb d_La_law_641 ?_
  refine hw_ti (nI_add _ _) ?_
  refine va_sld hx hb hX hbl hbA hI.2.2.1 (vp_in_nI (show i + 3 < Ls by omega) (by omega)) d_La_law_642 ?_
  refine hw_ti (show _ = xs (i + 3) from by rw [nI_clamp (by omega)]) ?_
  refine hw_cV (As := [.int (xs (i + 1)), .int (xs (i + 2)), .int (xs (i + 3))]) (rest := []) S hI m_Mo_binomial w_899 (c_Mo_binomial l D t0 L _ _ mm mc ml mg mw mr th σ wt (xs (i + 1)) (xs (i + 2)) (xs (i + 3)) hM hok) hM.mmc rfl hl.1 rfl rfl (Nat.le_of_ble_eq_true rfl) d_La_law_643 ⟨Nat.le_of_ble_eq_true rfl, Nat.le_of_ble_eq_true rfl⟩ ⟨hc, hs⟩ (fun v9 L9 f123 H locs hp hI => ?_)
  refine W.cs (cells' := cells + 1) (slots' := slots + 6) rfl rfl ?_
  obtain ⟨hv9, rfl, hM, hF2⟩ := hp
  cases hv9
  refine hw_stk (st' := []) rfl ?_
  have hS := hS.keep (f' := f123) (fun q hq => ⟨hS.mem q hq, hF2 q (hG.2.1 q hq).1⟩)
  have hao := hw_c.fr hao (hF2 ao hG.2.2)
  refine lv_aload_n hx hb d_La_law_646 rfl (lv_at hl 3 rfl) ?_
  refine hw_cV (As := []) (rest := []) S hI m_Mo_thrown w_790 (c_Mo_thrown l D t0 L _ _ mm mc ml mg mw mr _ _ wt hM) hM.mmc rfl hl.1 rfl rfl (Nat.le_of_ble_eq_true rfl) d_La_law_647 ⟨Nat.le_of_ble_eq_true rfl, Nat.le_of_ble_eq_true rfl⟩ ⟨hc, hs⟩ (fun v9 L9 f124 H locs hp hI => ?_)
  refine W.cs (cells' := cells + 1) (slots' := slots + 6) rfl rfl ?_
  obtain ⟨hv9, rfl, rfl⟩ := hp
  cases hv9
  refine hw_stk (st' := [.int (nI (opBin σ (xs (i + 1)) (xs (i + 2)) (xs (i + 3))).1)]) rfl ?_
  refine lv_iload hx hb d_La_law_650 (lv_at hl 0 rfl) ?_
  refine lv_icmp_eq (tgt := 657) hx hb d_La_law_652 (by decide) (fun _ => ?_) (fun c9 => absurd rfl c9)
  refine lv_goto (tgt := 1340) hx hb d_La_law_657 (by decide) ?_
  exact kk _ _ _ _ _ _ ⟨hI, hS, ⟨_, hM⟩, ⟨_, hao⟩, opBin_ok hok⟩ (lv_sub hl [1, 2, 3, 4, 5] rfl)
set_option maxHeartbeats 4000000 in
set_option maxRecDepth 100000 in
theorem k_round {p : Program} {l : Launch} {e : Env} {s : State} {m : MethodId} {below : List Frame} {meth : Method} {c : Code} {b Ls : Nat} {xs : Nat → Int32} {D : va_G} {t0 : Nat} {L : List Nat} {f : Nat → va_E} {H : Heap} {locs : List Loc} {cells slots : Nat} {Q : State → Prop} {ls : Array Slot} {o r fr : Nat → Nat} {ad al ab am ak ah aw ar rg wf mm mc ml mg mw mr ao : Nat} {σ : Sg} {wt : Nat → Nat} {i : Nat} (hlt : l.stackTraces = false) (S : CallFix p m c code 7 s #[Value.ref b] TT "WallFractionsLaw") (hX : va_X b Ls xs s s.heap) (hbl : b < s.heap.size) (hG : LG o r fr ad al ab am ak ah aw ar rg wf mm mc ml mg mw mr ao) (h9 : LI D t0 s L f H locs o r fr ad al ab am ak ah aw ar rg wf mm mc ml mg mw mr ao σ wt) (hi : i + 6 ≤ Ls) (hLs : Ls ≤ 3072) (hc : cells + 1 ≤ 601024) (hs : slots + 6 ≤ 7293034) (hl : lv_has ls 7 [(4, .int (nI i)), (3, .ref (ao)), (2, .ref (mm)), (1, .ref (wf)), (0, .ref (b))]) (kk : ∀ (f2 : Nat → va_E) (H2 : Heap) (locs2 : List Loc) (ls2 : Array Slot) (σ2 : Sg) (wt2 : Nat → Nat), LI D t0 s L f2 H2 locs2 o r fr ad al ab am ak ah aw ar rg wf mm mc ml mg mw mr ao σ2 wt2 → lv_has ls2 7 [(4, .int (nI i)), (3, .ref (ao)), (2, .ref (mm)), (1, .ref (wf)), (0, .ref (b))] → W p l e room_1 s m #[Value.ref b] below meth c H2 locs2 (cells + 1) (slots + 6) Q (F0 m 1340 ls2 [])) : W p l e room_1 s m #[Value.ref b] below meth c H locs cells slots Q (F0 m 660 ls []) := by
  have hx := S.1
  have hb := S.2.1
  have hown := S.2.2.2.1
  have hT := S.2.2.2.2
  obtain ⟨hI, hS, ⟨th, hM⟩, ⟨g, hao⟩, hok⟩ := h9
  have hbA : ¬ hw_A [] s.heap.size b := fun h => h.elim (fun q => absurd q List.not_mem_nil) (fun q => by omega)
  have hna : ¬ Al o r fr ad al ab am ak ah aw ar rg wf ao := fun h => (hG.2.1 ao h).2 rfl
  have hno : ¬ Own o r fr ad al ab am ak ah aw ar rg wf ao := fun h => hna (Or.inl h)
  refine lv_aload_n hx hb d_La_law_660 rfl (lv_at hl 3 rfl) ?_
  refine lv_aload_n hx hb d_La_law_661 rfl (lv_at hl 4 rfl) ?_
  refine lv_iload hx hb d_La_law_662 (lv_at hl 0 rfl) ?_
  refine lv_iconst (v := nI 1) hx hb d_La_law_664 (by decide) ?_
  refine lv_iadd hx hb d_La_law_665 ?_
  refine hw_ti (nI_add _ _) ?_
  refine va_sld hx hb hX hbl hbA hI.2.2.1 (vp_in_nI (show i + 1 < Ls by omega) (by omega)) d_La_law_666 ?_
  refine hw_ti (show _ = xs (i + 1) from by rw [nI_clamp (by omega)]) ?_
  refine lv_aload_n hx hb d_La_law_667 rfl (lv_at hl 4 rfl) ?_
  refine lv_iload hx hb d_La_law_668 (lv_at hl 0 rfl) ?_
  refine lv_iconst (v := nI 2) hx hb d_La_law_670 (by decide) ?_
  refine lv_iadd hx hb d_La_law_671 ?_
  refine hw_ti (nI_add _ _) ?_
  refine va_sld hx hb hX hbl hbA hI.2.2.1 (vp_in_nI (show i + 2 < Ls by omega) (by omega)) d_La_law_672 ?_
  refine hw_ti (show _ = xs (i + 2) from by rw [nI_clamp (by omega)]) ?_
  refine lv_aload_n hx hb d_La_law_673 rfl (lv_at hl 4 rfl) ?_
  refine lv_iload hx hb d_La_law_674 (lv_at hl 0 rfl) ?_
  refine lv_iconst (v := nI 3) hx hb d_La_law_676 (by decide) ?_
  refine lv_iadd hx hb d_La_law_677 ?_
  refine hw_ti (nI_add _ _) ?_
  refine va_sld hx hb hX hbl hbA hI.2.2.1 (vp_in_nI (show i + 3 < Ls by omega) (by omega)) d_La_law_678 ?_
  refine hw_ti (show _ = xs (i + 3) from by rw [nI_clamp (by omega)]) ?_
  refine lv_aload_n hx hb d_La_law_679 rfl (lv_at hl 4 rfl) ?_
  refine lv_iload hx hb d_La_law_680 (lv_at hl 0 rfl) ?_
  refine lv_iconst (v := nI 4) hx hb d_La_law_682 (by decide) ?_
  refine lv_iadd hx hb d_La_law_683 ?_
  refine hw_ti (nI_add _ _) ?_
  refine va_sld hx hb hX hbl hbA hI.2.2.1 (vp_in_nI (show i + 4 < Ls by omega) (by omega)) d_La_law_684 ?_
  refine hw_ti (show _ = xs (i + 4) from by rw [nI_clamp (by omega)]) ?_
  refine hw_xW (As := [.ref (wf), .int (xs (i + 1)), .int (xs (i + 2)), .int (xs (i + 3)), .int (xs (i + 4))]) (rest := []) S hI m_La_round w_583 (c_La_round l hlt D t0 L _ _ o r fr ad al ab am ak ah aw ar rg wf σ wt (xs (i + 1)) (xs (i + 2)) (xs (i + 3)) (xs (i + 4))  hG.1 hS hok) hl.1 rfl rfl (Nat.le_of_ble_eq_true rfl) d_La_law_685 ⟨Nat.le_of_ble_eq_true rfl, Nat.le_of_ble_eq_true rfl⟩ ⟨hc, hs⟩ (fun v9 L9 f125 H locs hp hI => ?_)
  refine W.cs (cells' := cells + 1) (slots' := slots + 6) rfl rfl ?_
  obtain ⟨hv9, rfl, hS, hF⟩ := hp
  cases hv9
  refine hw_stk (st' := [.int (nI (opRnd σ (xs (i + 1)) (xs (i + 2)) (xs (i + 3)) (xs (i + 4))).1)]) rfl ?_
  have hM := hM.keep (f' := f125) (fun q hq => ⟨hM.mem q hq, hF q (fun h => (hG.2.1 q (Or.inl h)).1 hq)⟩)
  have hao := hw_c.fr hao (hF ao hno)
  refine lv_istore (lv' := [(5, .int (nI (opRnd σ (xs (i + 1)) (xs (i + 2)) (xs (i + 3)) (xs (i + 4))).1)), (4, .int (nI i)), (3, .ref (ao)), (2, .ref (mm)), (1, .ref (wf)), (0, .ref (b))]) hx hb d_La_law_688 hl (by decide) rfl (fun ls hl => ?_)
  refine lv_aload_n hx hb d_La_law_690 rfl (lv_at hl 3 rfl) ?_
  refine lv_aload_n hx hb d_La_law_691 rfl (lv_at hl 5 rfl) ?_
  refine lv_iload hx hb d_La_law_692 (lv_at hl 1 rfl) ?_
  refine lv_iconst (v := nI 1) hx hb d_La_law_694 (by decide) ?_
  refine lv_iadd hx hb d_La_law_695 ?_
  refine hw_ti (nI_add _ _) ?_
  refine va_sld hx hb hX hbl hbA hI.2.2.1 (vp_in_nI (show i + 1 < Ls by omega) (by omega)) d_La_law_696 ?_
  refine hw_ti (show _ = xs (i + 1) from by rw [nI_clamp (by omega)]) ?_
  refine lv_aload_n hx hb d_La_law_697 rfl (lv_at hl 5 rfl) ?_
  refine lv_iload hx hb d_La_law_698 (lv_at hl 1 rfl) ?_
  refine lv_iconst (v := nI 2) hx hb d_La_law_700 (by decide) ?_
  refine lv_iadd hx hb d_La_law_701 ?_
  refine hw_ti (nI_add _ _) ?_
  refine va_sld hx hb hX hbl hbA hI.2.2.1 (vp_in_nI (show i + 2 < Ls by omega) (by omega)) d_La_law_702 ?_
  refine hw_ti (show _ = xs (i + 2) from by rw [nI_clamp (by omega)]) ?_
  refine lv_aload_n hx hb d_La_law_703 rfl (lv_at hl 5 rfl) ?_
  refine lv_iload hx hb d_La_law_704 (lv_at hl 1 rfl) ?_
  refine lv_iconst (v := nI 3) hx hb d_La_law_706 (by decide) ?_
  refine lv_iadd hx hb d_La_law_707 ?_
  refine hw_ti (nI_add _ _) ?_
  refine va_sld hx hb hX hbl hbA hI.2.2.1 (vp_in_nI (show i + 3 < Ls by omega) (by omega)) d_La_law_708 ?_
  refine hw_ti (show _ = xs (i + 3) from by rw [nI_clamp (by omega)]) ?_
  refine lv_aload_n hx hb d_La_law_709 rfl (lv_at hl 5 rfl) ?_
  refine lv_iload hx hb d_La_law_710 (lv_at hl 1 rfl) ?_
  refine lv_iconst (v := nI 4) hx hb d_La_law_712 (by decide) ?_
  refine lv_iadd hx hb d_La_law_713 ?_
  refine hw_ti (nI_add _ _) ?_
  refine va_sld hx hb hX hbl hbA hI.2.2.1 (vp_in_nI (show i + 4 < Ls by omega) (by omega)) d_La_law_714 ?_
  refine hw_ti (show _ = xs (i + 4) from by rw [nI_clamp (by omega)]) ?_
  refine hw_cV (As := [.int (xs (i + 1)), .int (xs (i + 2)), .int (xs (i + 3)), .int (xs (i + 4))]) (rest := []) S hI m_Mo_round w_908 (c_Mo_round l D t0 L _ _ mm mc ml mg mw mr th σ wt (xs (i + 1)) (xs (i + 2)) (xs (i + 3)) (xs (i + 4)) hM hok) hM.mmc rfl hl.1 rfl rfl (Nat.le_of_ble_eq_true rfl) d_La_law_715 ⟨Nat.le_of_ble_eq_true rfl, Nat.le_of_ble_eq_true rfl⟩ ⟨hc, hs⟩ (fun v9 L9 f126 H locs hp hI => ?_)
  refine W.cs (cells' := cells + 1) (slots' := slots + 6) rfl rfl ?_
  obtain ⟨hv9, rfl, hM, hF2⟩ := hp
  cases hv9
  refine hw_stk (st' := []) rfl ?_
  have hS := hS.keep (f' := f126) (fun q hq => ⟨hS.mem q hq, hF2 q (hG.2.1 q hq).1⟩)
  have hao := hw_c.fr hao (hF2 ao hG.2.2)
  refine lv_aload_n hx hb d_La_law_718 rfl (lv_at hl 3 rfl) ?_
  refine hw_cV (As := []) (rest := []) S hI m_Mo_thrown w_790 (c_Mo_thrown l D t0 L _ _ mm mc ml mg mw mr _ _ wt hM) hM.mmc rfl hl.1 rfl rfl (Nat.le_of_ble_eq_true rfl) d_La_law_719 ⟨Nat.le_of_ble_eq_true rfl, Nat.le_of_ble_eq_true rfl⟩ ⟨hc, hs⟩ (fun v9 L9 f127 H locs hp hI => ?_)
  refine W.cs (cells' := cells + 1) (slots' := slots + 6) rfl rfl ?_
  obtain ⟨hv9, rfl, rfl⟩ := hp
  cases hv9
  refine hw_stk (st' := [.int (nI (opRnd σ (xs (i + 1)) (xs (i + 2)) (xs (i + 3)) (xs (i + 4))).1)]) rfl ?_
  refine lv_iload hx hb d_La_law_722 (lv_at hl 0 rfl) ?_
  refine lv_icmp_eq (tgt := 729) hx hb d_La_law_724 (by decide) (fun _ => ?_) (fun c9 => absurd rfl c9)
  refine lv_goto (tgt := 1340) hx hb d_La_law_729 (by decide) ?_
  exact kk _ _ _ _ _ _ ⟨hI, hS, ⟨_, hM⟩, ⟨_, hao⟩, opRnd_ok hok⟩ (lv_sub hl [1, 2, 3, 4, 5] rfl)
set_option maxHeartbeats 4000000 in
set_option maxRecDepth 100000 in
theorem k_root {p : Program} {l : Launch} {e : Env} {s : State} {m : MethodId} {below : List Frame} {meth : Method} {c : Code} {b Ls : Nat} {xs : Nat → Int32} {D : va_G} {t0 : Nat} {L : List Nat} {f : Nat → va_E} {H : Heap} {locs : List Loc} {cells slots : Nat} {Q : State → Prop} {ls : Array Slot} {o r fr : Nat → Nat} {ad al ab am ak ah aw ar rg wf mm mc ml mg mw mr ao : Nat} {σ : Sg} {wt : Nat → Nat} {i : Nat} (hlt : l.stackTraces = false) (S : CallFix p m c code 7 s #[Value.ref b] TT "WallFractionsLaw") (hX : va_X b Ls xs s s.heap) (hbl : b < s.heap.size) (hG : LG o r fr ad al ab am ak ah aw ar rg wf mm mc ml mg mw mr ao) (h9 : LI D t0 s L f H locs o r fr ad al ab am ak ah aw ar rg wf mm mc ml mg mw mr ao σ wt) (hi : i + 6 ≤ Ls) (hLs : Ls ≤ 3072) (hc : cells + 1 ≤ 601024) (hs : slots + 6 ≤ 7293034) (hl : lv_has ls 7 [(4, .int (nI i)), (3, .ref (ao)), (2, .ref (mm)), (1, .ref (wf)), (0, .ref (b))]) (kk : ∀ (f2 : Nat → va_E) (H2 : Heap) (locs2 : List Loc) (ls2 : Array Slot) (σ2 : Sg) (wt2 : Nat → Nat), LI D t0 s L f2 H2 locs2 o r fr ad al ab am ak ah aw ar rg wf mm mc ml mg mw mr ao σ2 wt2 → lv_has ls2 7 [(4, .int (nI i)), (3, .ref (ao)), (2, .ref (mm)), (1, .ref (wf)), (0, .ref (b))] → W p l e room_1 s m #[Value.ref b] below meth c H2 locs2 (cells + 1) (slots + 6) Q (F0 m 1340 ls2 [])) : W p l e room_1 s m #[Value.ref b] below meth c H locs cells slots Q (F0 m 732 ls []) := by
  have hx := S.1
  have hb := S.2.1
  have hown := S.2.2.2.1
  have hT := S.2.2.2.2
  obtain ⟨hI, hS, ⟨th, hM⟩, ⟨g, hao⟩, hok⟩ := h9
  have hbA : ¬ hw_A [] s.heap.size b := fun h => h.elim (fun q => absurd q List.not_mem_nil) (fun q => by omega)
  have hna : ¬ Al o r fr ad al ab am ak ah aw ar rg wf ao := fun h => (hG.2.1 ao h).2 rfl
  have hno : ¬ Own o r fr ad al ab am ak ah aw ar rg wf ao := fun h => hna (Or.inl h)
  refine lv_aload_n hx hb d_La_law_732 rfl (lv_at hl 3 rfl) ?_
  refine lv_aload_n hx hb d_La_law_733 rfl (lv_at hl 4 rfl) ?_
  refine lv_iload hx hb d_La_law_734 (lv_at hl 0 rfl) ?_
  refine lv_iconst (v := nI 1) hx hb d_La_law_736 (by decide) ?_
  refine lv_iadd hx hb d_La_law_737 ?_
  refine hw_ti (nI_add _ _) ?_
  refine va_sld hx hb hX hbl hbA hI.2.2.1 (vp_in_nI (show i + 1 < Ls by omega) (by omega)) d_La_law_738 ?_
  refine hw_ti (show _ = xs (i + 1) from by rw [nI_clamp (by omega)]) ?_
  refine lv_aload_n hx hb d_La_law_739 rfl (lv_at hl 4 rfl) ?_
  refine lv_iload hx hb d_La_law_740 (lv_at hl 0 rfl) ?_
  refine lv_iconst (v := nI 2) hx hb d_La_law_742 (by decide) ?_
  refine lv_iadd hx hb d_La_law_743 ?_
  refine hw_ti (nI_add _ _) ?_
  refine va_sld hx hb hX hbl hbA hI.2.2.1 (vp_in_nI (show i + 2 < Ls by omega) (by omega)) d_La_law_744 ?_
  refine hw_ti (show _ = xs (i + 2) from by rw [nI_clamp (by omega)]) ?_
  refine lv_aload_n hx hb d_La_law_745 rfl (lv_at hl 4 rfl) ?_
  refine lv_iload hx hb d_La_law_746 (lv_at hl 0 rfl) ?_
  refine lv_iconst (v := nI 3) hx hb d_La_law_748 (by decide) ?_
  refine lv_iadd hx hb d_La_law_749 ?_
  refine hw_ti (nI_add _ _) ?_
  refine va_sld hx hb hX hbl hbA hI.2.2.1 (vp_in_nI (show i + 3 < Ls by omega) (by omega)) d_La_law_750 ?_
  refine hw_ti (show _ = xs (i + 3) from by rw [nI_clamp (by omega)]) ?_
  refine hw_xW (As := [.ref (wf), .int (xs (i + 1)), .int (xs (i + 2)), .int (xs (i + 3))]) (rest := []) S hI m_La_root w_609 (c_La_root l hlt D t0 L _ _ o r fr ad al ab am ak ah aw ar rg wf σ wt (xs (i + 1)) (xs (i + 2)) (xs (i + 3))  hG.1 hS hok) hl.1 rfl rfl (Nat.le_of_ble_eq_true rfl) d_La_law_751 ⟨Nat.le_of_ble_eq_true rfl, Nat.le_of_ble_eq_true rfl⟩ ⟨hc, hs⟩ (fun v9 L9 f128 H locs hp hI => ?_)
  refine W.cs (cells' := cells + 1) (slots' := slots + 6) rfl rfl ?_
  obtain ⟨hv9, rfl, hS, hF⟩ := hp
  cases hv9
  refine hw_stk (st' := [.int (nI (opRoot σ (xs (i + 1)) (xs (i + 2)) (xs (i + 3))).1)]) rfl ?_
  have hM := hM.keep (f' := f128) (fun q hq => ⟨hM.mem q hq, hF q (fun h => (hG.2.1 q (Or.inl h)).1 hq)⟩)
  have hao := hw_c.fr hao (hF ao hno)
  refine lv_istore (lv' := [(5, .int (nI (opRoot σ (xs (i + 1)) (xs (i + 2)) (xs (i + 3))).1)), (4, .int (nI i)), (3, .ref (ao)), (2, .ref (mm)), (1, .ref (wf)), (0, .ref (b))]) hx hb d_La_law_754 hl (by decide) rfl (fun ls hl => ?_)
  refine lv_aload_n hx hb d_La_law_756 rfl (lv_at hl 3 rfl) ?_
  refine lv_aload_n hx hb d_La_law_757 rfl (lv_at hl 5 rfl) ?_
  refine lv_iload hx hb d_La_law_758 (lv_at hl 1 rfl) ?_
  refine lv_iconst (v := nI 1) hx hb d_La_law_760 (by decide) ?_
  refine lv_iadd hx hb d_La_law_761 ?_
  refine hw_ti (nI_add _ _) ?_
  refine va_sld hx hb hX hbl hbA hI.2.2.1 (vp_in_nI (show i + 1 < Ls by omega) (by omega)) d_La_law_762 ?_
  refine hw_ti (show _ = xs (i + 1) from by rw [nI_clamp (by omega)]) ?_
  refine lv_aload_n hx hb d_La_law_763 rfl (lv_at hl 5 rfl) ?_
  refine lv_iload hx hb d_La_law_764 (lv_at hl 1 rfl) ?_
  refine lv_iconst (v := nI 2) hx hb d_La_law_766 (by decide) ?_
  refine lv_iadd hx hb d_La_law_767 ?_
  refine hw_ti (nI_add _ _) ?_
  refine va_sld hx hb hX hbl hbA hI.2.2.1 (vp_in_nI (show i + 2 < Ls by omega) (by omega)) d_La_law_768 ?_
  refine hw_ti (show _ = xs (i + 2) from by rw [nI_clamp (by omega)]) ?_
  refine lv_aload_n hx hb d_La_law_769 rfl (lv_at hl 5 rfl) ?_
  refine lv_iload hx hb d_La_law_770 (lv_at hl 1 rfl) ?_
  refine lv_iconst (v := nI 3) hx hb d_La_law_772 (by decide) ?_
  refine lv_iadd hx hb d_La_law_773 ?_
  refine hw_ti (nI_add _ _) ?_
  refine va_sld hx hb hX hbl hbA hI.2.2.1 (vp_in_nI (show i + 3 < Ls by omega) (by omega)) d_La_law_774 ?_
  refine hw_ti (show _ = xs (i + 3) from by rw [nI_clamp (by omega)]) ?_
  refine hw_cV (As := [.int (xs (i + 1)), .int (xs (i + 2)), .int (xs (i + 3))]) (rest := []) S hI m_Mo_root w_927 (c_Mo_root l D t0 L _ _ mm mc ml mg mw mr th σ wt (xs (i + 1)) (xs (i + 2)) (xs (i + 3)) hM hok) hM.mmc rfl hl.1 rfl rfl (Nat.le_of_ble_eq_true rfl) d_La_law_775 ⟨Nat.le_of_ble_eq_true rfl, Nat.le_of_ble_eq_true rfl⟩ ⟨hc, hs⟩ (fun v9 L9 f129 H locs hp hI => ?_)
  refine W.cs (cells' := cells + 1) (slots' := slots + 6) rfl rfl ?_
  obtain ⟨hv9, rfl, hM, hF2⟩ := hp
  cases hv9
  refine hw_stk (st' := []) rfl ?_
  have hS := hS.keep (f' := f129) (fun q hq => ⟨hS.mem q hq, hF2 q (hG.2.1 q hq).1⟩)
  have hao := hw_c.fr hao (hF2 ao hG.2.2)
  refine lv_aload_n hx hb d_La_law_778 rfl (lv_at hl 3 rfl) ?_
  refine hw_cV (As := []) (rest := []) S hI m_Mo_thrown w_790 (c_Mo_thrown l D t0 L _ _ mm mc ml mg mw mr _ _ wt hM) hM.mmc rfl hl.1 rfl rfl (Nat.le_of_ble_eq_true rfl) d_La_law_779 ⟨Nat.le_of_ble_eq_true rfl, Nat.le_of_ble_eq_true rfl⟩ ⟨hc, hs⟩ (fun v9 L9 f130 H locs hp hI => ?_)
  refine W.cs (cells' := cells + 1) (slots' := slots + 6) rfl rfl ?_
  obtain ⟨hv9, rfl, rfl⟩ := hp
  cases hv9
  refine hw_stk (st' := [.int (nI (opRoot σ (xs (i + 1)) (xs (i + 2)) (xs (i + 3))).1)]) rfl ?_
  refine lv_iload hx hb d_La_law_782 (lv_at hl 0 rfl) ?_
  refine lv_icmp_eq (tgt := 789) hx hb d_La_law_784 (by decide) (fun _ => ?_) (fun c9 => absurd rfl c9)
  refine lv_goto (tgt := 1340) hx hb d_La_law_789 (by decide) ?_
  exact kk _ _ _ _ _ _ ⟨hI, hS, ⟨_, hM⟩, ⟨_, hao⟩, opRoot_ok hok⟩ (lv_sub hl [1, 2, 3, 4, 5] rfl)
set_option maxHeartbeats 4000000 in
set_option maxRecDepth 100000 in
theorem k_share {p : Program} {l : Launch} {e : Env} {s : State} {m : MethodId} {below : List Frame} {meth : Method} {c : Code} {b Ls : Nat} {xs : Nat → Int32} {D : va_G} {t0 : Nat} {L : List Nat} {f : Nat → va_E} {H : Heap} {locs : List Loc} {cells slots : Nat} {Q : State → Prop} {ls : Array Slot} {o r fr : Nat → Nat} {ad al ab am ak ah aw ar rg wf mm mc ml mg mw mr ao : Nat} {σ : Sg} {wt : Nat → Nat} {i : Nat} (hlt : l.stackTraces = false) (S : CallFix p m c code 7 s #[Value.ref b] TT "WallFractionsLaw") (hX : va_X b Ls xs s s.heap) (hbl : b < s.heap.size) (hG : LG o r fr ad al ab am ak ah aw ar rg wf mm mc ml mg mw mr ao) (h9 : LI D t0 s L f H locs o r fr ad al ab am ak ah aw ar rg wf mm mc ml mg mw mr ao σ wt) (hi : i + 6 ≤ Ls) (hLs : Ls ≤ 3072) (hc : cells + 1 ≤ 601024) (hs : slots + 6 ≤ 7293034) (hl : lv_has ls 7 [(4, .int (nI i)), (3, .ref (ao)), (2, .ref (mm)), (1, .ref (wf)), (0, .ref (b))]) (kk : ∀ (f2 : Nat → va_E) (H2 : Heap) (locs2 : List Loc) (ls2 : Array Slot) (σ2 : Sg) (wt2 : Nat → Nat), LI D t0 s L f2 H2 locs2 o r fr ad al ab am ak ah aw ar rg wf mm mc ml mg mw mr ao σ2 wt2 → lv_has ls2 7 [(4, .int (nI i)), (3, .ref (ao)), (2, .ref (mm)), (1, .ref (wf)), (0, .ref (b))] → W p l e room_1 s m #[Value.ref b] below meth c H2 locs2 (cells + 1) (slots + 6) Q (F0 m 1340 ls2 [])) : W p l e room_1 s m #[Value.ref b] below meth c H locs cells slots Q (F0 m 1280 ls []) := by
  have hx := S.1
  have hb := S.2.1
  have hown := S.2.2.2.1
  have hT := S.2.2.2.2
  obtain ⟨hI, hS, ⟨th, hM⟩, ⟨g, hao⟩, hok⟩ := h9
  have hbA : ¬ hw_A [] s.heap.size b := fun h => h.elim (fun q => absurd q List.not_mem_nil) (fun q => by omega)
  have hna : ¬ Al o r fr ad al ab am ak ah aw ar rg wf ao := fun h => (hG.2.1 ao h).2 rfl
  have hno : ¬ Own o r fr ad al ab am ak ah aw ar rg wf ao := fun h => hna (Or.inl h)
  refine lv_aload_n hx hb d_La_law_1280 rfl (lv_at hl 3 rfl) ?_
  refine lv_aload_n hx hb d_La_law_1281 rfl (lv_at hl 4 rfl) ?_
  refine lv_iload hx hb d_La_law_1282 (lv_at hl 0 rfl) ?_
  refine lv_iconst (v := nI 1) hx hb d_La_law_1284 (by decide) ?_
  refine lv_iadd hx hb d_La_law_1285 ?_
  refine hw_ti (nI_add _ _) ?_
  refine va_sld hx hb hX hbl hbA hI.2.2.1 (vp_in_nI (show i + 1 < Ls by omega) (by omega)) d_La_law_1286 ?_
  refine hw_ti (show _ = xs (i + 1) from by rw [nI_clamp (by omega)]) ?_
  refine lv_aload_n hx hb d_La_law_1287 rfl (lv_at hl 4 rfl) ?_
  refine lv_iload hx hb d_La_law_1288 (lv_at hl 0 rfl) ?_
  refine lv_iconst (v := nI 2) hx hb d_La_law_1290 (by decide) ?_
  refine lv_iadd hx hb d_La_law_1291 ?_
  refine hw_ti (nI_add _ _) ?_
  refine va_sld hx hb hX hbl hbA hI.2.2.1 (vp_in_nI (show i + 2 < Ls by omega) (by omega)) d_La_law_1292 ?_
  refine hw_ti (show _ = xs (i + 2) from by rw [nI_clamp (by omega)]) ?_
  refine lv_aload_n hx hb d_La_law_1293 rfl (lv_at hl 4 rfl) ?_
  refine lv_iload hx hb d_La_law_1294 (lv_at hl 0 rfl) ?_
  refine lv_iconst (v := nI 3) hx hb d_La_law_1296 (by decide) ?_
  refine lv_iadd hx hb d_La_law_1297 ?_
  refine hw_ti (nI_add _ _) ?_
  refine va_sld hx hb hX hbl hbA hI.2.2.1 (vp_in_nI (show i + 3 < Ls by omega) (by omega)) d_La_law_1298 ?_
  refine hw_ti (show _ = xs (i + 3) from by rw [nI_clamp (by omega)]) ?_
  refine hw_xW (As := [.ref (wf), .int (xs (i + 1)), .int (xs (i + 2)), .int (xs (i + 3))]) (rest := []) S hI m_La_share w_733 (c_La_share l hlt D t0 L _ _ o r fr ad al ab am ak ah aw ar rg wf σ wt (xs (i + 1)) (xs (i + 2)) (xs (i + 3))  hG.1 hS hok) hl.1 rfl rfl (Nat.le_of_ble_eq_true rfl) d_La_law_1299 ⟨Nat.le_of_ble_eq_true rfl, Nat.le_of_ble_eq_true rfl⟩ ⟨hc, hs⟩ (fun v9 L9 f131 H locs hp hI => ?_)
  refine W.cs (cells' := cells + 1) (slots' := slots + 6) rfl rfl ?_
  obtain ⟨hv9, rfl, hS, hF⟩ := hp
  cases hv9
  refine hw_stk (st' := [.int (nI (opShr σ wt (xs (i + 1)) (xs (i + 2)) (xs (i + 3))).1)]) rfl ?_
  have hM := hM.keep (f' := f131) (fun q hq => ⟨hM.mem q hq, hF q (fun h => (hG.2.1 q (Or.inl h)).1 hq)⟩)
  have hao := hw_c.fr hao (hF ao hno)
  refine lv_istore (lv' := [(5, .int (nI (opShr σ wt (xs (i + 1)) (xs (i + 2)) (xs (i + 3))).1)), (4, .int (nI i)), (3, .ref (ao)), (2, .ref (mm)), (1, .ref (wf)), (0, .ref (b))]) hx hb d_La_law_1302 hl (by decide) rfl (fun ls hl => ?_)
  refine lv_aload_n hx hb d_La_law_1304 rfl (lv_at hl 3 rfl) ?_
  refine lv_aload_n hx hb d_La_law_1305 rfl (lv_at hl 5 rfl) ?_
  refine lv_iload hx hb d_La_law_1306 (lv_at hl 1 rfl) ?_
  refine lv_iconst (v := nI 1) hx hb d_La_law_1308 (by decide) ?_
  refine lv_iadd hx hb d_La_law_1309 ?_
  refine hw_ti (nI_add _ _) ?_
  refine va_sld hx hb hX hbl hbA hI.2.2.1 (vp_in_nI (show i + 1 < Ls by omega) (by omega)) d_La_law_1310 ?_
  refine hw_ti (show _ = xs (i + 1) from by rw [nI_clamp (by omega)]) ?_
  refine lv_aload_n hx hb d_La_law_1311 rfl (lv_at hl 5 rfl) ?_
  refine lv_iload hx hb d_La_law_1312 (lv_at hl 1 rfl) ?_
  refine lv_iconst (v := nI 2) hx hb d_La_law_1314 (by decide) ?_
  refine lv_iadd hx hb d_La_law_1315 ?_
  refine hw_ti (nI_add _ _) ?_
  refine va_sld hx hb hX hbl hbA hI.2.2.1 (vp_in_nI (show i + 2 < Ls by omega) (by omega)) d_La_law_1316 ?_
  refine hw_ti (show _ = xs (i + 2) from by rw [nI_clamp (by omega)]) ?_
  refine lv_aload_n hx hb d_La_law_1317 rfl (lv_at hl 5 rfl) ?_
  refine lv_iload hx hb d_La_law_1318 (lv_at hl 1 rfl) ?_
  refine lv_iconst (v := nI 3) hx hb d_La_law_1320 (by decide) ?_
  refine lv_iadd hx hb d_La_law_1321 ?_
  refine hw_ti (nI_add _ _) ?_
  refine va_sld hx hb hX hbl hbA hI.2.2.1 (vp_in_nI (show i + 3 < Ls by omega) (by omega)) d_La_law_1322 ?_
  refine hw_ti (show _ = xs (i + 3) from by rw [nI_clamp (by omega)]) ?_
  refine hw_cV (As := [.int (xs (i + 1)), .int (xs (i + 2)), .int (xs (i + 3))]) (rest := []) S hI m_Mo_share w_969 (c_Mo_share l D t0 L _ _ mm mc ml mg mw mr th σ wt (xs (i + 1)) (xs (i + 2)) (xs (i + 3)) hM hok) hM.mmc rfl hl.1 rfl rfl (Nat.le_of_ble_eq_true rfl) d_La_law_1323 ⟨Nat.le_of_ble_eq_true rfl, Nat.le_of_ble_eq_true rfl⟩ ⟨hc, hs⟩ (fun v9 L9 f132 H locs hp hI => ?_)
  refine W.cs (cells' := cells + 1) (slots' := slots + 6) rfl rfl ?_
  obtain ⟨hv9, rfl, hM, hF2⟩ := hp
  cases hv9
  refine hw_stk (st' := []) rfl ?_
  have hS := hS.keep (f' := f132) (fun q hq => ⟨hS.mem q hq, hF2 q (hG.2.1 q hq).1⟩)
  have hao := hw_c.fr hao (hF2 ao hG.2.2)
  refine lv_aload_n hx hb d_La_law_1326 rfl (lv_at hl 3 rfl) ?_
  refine hw_cV (As := []) (rest := []) S hI m_Mo_thrown w_790 (c_Mo_thrown l D t0 L _ _ mm mc ml mg mw mr _ _ wt hM) hM.mmc rfl hl.1 rfl rfl (Nat.le_of_ble_eq_true rfl) d_La_law_1327 ⟨Nat.le_of_ble_eq_true rfl, Nat.le_of_ble_eq_true rfl⟩ ⟨hc, hs⟩ (fun v9 L9 f133 H locs hp hI => ?_)
  refine W.cs (cells' := cells + 1) (slots' := slots + 6) rfl rfl ?_
  obtain ⟨hv9, rfl, rfl⟩ := hp
  cases hv9
  refine hw_stk (st' := [.int (nI (opShr σ wt (xs (i + 1)) (xs (i + 2)) (xs (i + 3))).1)]) rfl ?_
  refine lv_iload hx hb d_La_law_1330 (lv_at hl 0 rfl) ?_
  refine lv_icmp_eq (tgt := 1337) hx hb d_La_law_1332 (by decide) (fun _ => ?_) (fun c9 => absurd rfl c9)
  refine lv_goto (tgt := 1340) hx hb d_La_law_1337 (by decide) ?_
  exact kk _ _ _ _ _ _ ⟨hI, hS, ⟨_, hM⟩, ⟨_, hao⟩, opShr_ok hok⟩ (lv_sub hl [1, 2, 3, 4, 5] rfl)
set_option maxHeartbeats 4000000 in
set_option maxRecDepth 100000 in
theorem k_compare {p : Program} {l : Launch} {e : Env} {s : State} {m : MethodId} {below : List Frame} {meth : Method} {c : Code} {b Ls : Nat} {xs : Nat → Int32} {D : va_G} {t0 : Nat} {L : List Nat} {f : Nat → va_E} {H : Heap} {locs : List Loc} {cells slots : Nat} {Q : State → Prop} {ls : Array Slot} {o r fr : Nat → Nat} {ad al ab am ak ah aw ar rg wf mm mc ml mg mw mr ao : Nat} {σ : Sg} {wt : Nat → Nat} {i : Nat} (hlt : l.stackTraces = false) (S : CallFix p m c code 7 s #[Value.ref b] TT "WallFractionsLaw") (hX : va_X b Ls xs s s.heap) (hbl : b < s.heap.size) (hG : LG o r fr ad al ab am ak ah aw ar rg wf mm mc ml mg mw mr ao) (h9 : LI D t0 s L f H locs o r fr ad al ab am ak ah aw ar rg wf mm mc ml mg mw mr ao σ wt) (hi : i + 6 ≤ Ls) (hLs : Ls ≤ 3072) (hc : cells + 1 ≤ 601024) (hs : slots + 6 ≤ 7293034) (hl : lv_has ls 7 [(4, .int (nI i)), (3, .ref (ao)), (2, .ref (mm)), (1, .ref (wf)), (0, .ref (b))]) (kk : ∀ (f2 : Nat → va_E) (H2 : Heap) (locs2 : List Loc) (ls2 : Array Slot) (σ2 : Sg) (wt2 : Nat → Nat), LI D t0 s L f2 H2 locs2 o r fr ad al ab am ak ah aw ar rg wf mm mc ml mg mw mr ao σ2 wt2 → lv_has ls2 7 [(4, .int (nI i)), (3, .ref (ao)), (2, .ref (mm)), (1, .ref (wf)), (0, .ref (b))] → W p l e room_1 s m #[Value.ref b] below meth c H2 locs2 (cells + 1) (slots + 6) Q (F0 m 1340 ls2 [])) : W p l e room_1 s m #[Value.ref b] below meth c H locs cells slots Q (F0 m 792 ls []) := by
  have hx := S.1
  have hb := S.2.1
  have hown := S.2.2.2.1
  have hT := S.2.2.2.2
  obtain ⟨hI, hS, ⟨th, hM⟩, ⟨g, hao⟩, hok⟩ := h9
  have hbA : ¬ hw_A [] s.heap.size b := fun h => h.elim (fun q => absurd q List.not_mem_nil) (fun q => by omega)
  have hna : ¬ Al o r fr ad al ab am ak ah aw ar rg wf ao := fun h => (hG.2.1 ao h).2 rfl
  have hno : ¬ Own o r fr ad al ab am ak ah aw ar rg wf ao := fun h => hna (Or.inl h)
  refine lv_aload_n hx hb d_La_law_792 rfl (lv_at hl 3 rfl) ?_
  refine lv_aload_n hx hb d_La_law_793 rfl (lv_at hl 4 rfl) ?_
  refine lv_iload hx hb d_La_law_794 (lv_at hl 0 rfl) ?_
  refine lv_iconst (v := nI 1) hx hb d_La_law_796 (by decide) ?_
  refine lv_iadd hx hb d_La_law_797 ?_
  refine hw_ti (nI_add _ _) ?_
  refine va_sld hx hb hX hbl hbA hI.2.2.1 (vp_in_nI (show i + 1 < Ls by omega) (by omega)) d_La_law_798 ?_
  refine hw_ti (show _ = xs (i + 1) from by rw [nI_clamp (by omega)]) ?_
  refine lv_aload_n hx hb d_La_law_799 rfl (lv_at hl 4 rfl) ?_
  refine lv_iload hx hb d_La_law_800 (lv_at hl 0 rfl) ?_
  refine lv_iconst (v := nI 2) hx hb d_La_law_802 (by decide) ?_
  refine lv_iadd hx hb d_La_law_803 ?_
  refine hw_ti (nI_add _ _) ?_
  refine va_sld hx hb hX hbl hbA hI.2.2.1 (vp_in_nI (show i + 2 < Ls by omega) (by omega)) d_La_law_804 ?_
  refine hw_ti (show _ = xs (i + 2) from by rw [nI_clamp (by omega)]) ?_
  refine lv_aload_n hx hb d_La_law_805 rfl (lv_at hl 1 rfl) ?_
  refine hw_xW (As := [.ref (wf), .int (xs (i + 1)), .int (xs (i + 2)), .ref (ao)]) (rest := []) S hI m_La_compare w_631 (c_La_compare l hlt D t0 L _ _ o r fr ad al ab am ak ah aw ar rg wf σ wt (xs (i + 1)) (xs (i + 2)) ao g hG.1 hS hok hao hna) hl.1 rfl rfl (Nat.le_of_ble_eq_true rfl) d_La_law_806 ⟨Nat.le_of_ble_eq_true rfl, Nat.le_of_ble_eq_true rfl⟩ ⟨hc, hs⟩ (fun v9 L9 f134 H locs hp hI => ?_)
  refine W.cs (cells' := cells + 1) (slots' := slots + 6) rfl rfl ?_
  obtain ⟨hv9, rfl, hS, ⟨g2, hao, hg2⟩, hF⟩ := hp
  cases hv9
  refine hw_stk (st' := [.int (nI (if (aCmp σ (xs (i + 1)) (xs (i + 2))).isSome then 0 else 1))]) rfl ?_
  have hM := hM.keep (f' := f134) (fun q hq => ⟨hM.mem q hq, hF q (fun h => (hG.2.1 q (Or.inl h)).1 hq) (fun e => hG.2.2 (e ▸ hq))⟩)
  refine lv_istore (lv' := [(5, .int (nI (if (aCmp σ (xs (i + 1)) (xs (i + 2))).isSome then 0 else 1))), (4, .int (nI i)), (3, .ref (ao)), (2, .ref (mm)), (1, .ref (wf)), (0, .ref (b))]) hx hb d_La_law_809 hl (by decide) rfl (fun ls hl => ?_)
  refine lv_aload_n hx hb d_La_law_811 rfl (lv_at hl 3 rfl) ?_
  refine lv_aload_n hx hb d_La_law_812 rfl (lv_at hl 5 rfl) ?_
  refine lv_iload hx hb d_La_law_813 (lv_at hl 1 rfl) ?_
  refine lv_iconst (v := nI 1) hx hb d_La_law_815 (by decide) ?_
  refine lv_iadd hx hb d_La_law_816 ?_
  refine hw_ti (nI_add _ _) ?_
  refine va_sld hx hb hX hbl hbA hI.2.2.1 (vp_in_nI (show i + 1 < Ls by omega) (by omega)) d_La_law_817 ?_
  refine hw_ti (show _ = xs (i + 1) from by rw [nI_clamp (by omega)]) ?_
  refine lv_aload_n hx hb d_La_law_818 rfl (lv_at hl 5 rfl) ?_
  refine lv_iload hx hb d_La_law_819 (lv_at hl 1 rfl) ?_
  refine lv_iconst (v := nI 2) hx hb d_La_law_821 (by decide) ?_
  refine lv_iadd hx hb d_La_law_822 ?_
  refine hw_ti (nI_add _ _) ?_
  refine va_sld hx hb hX hbl hbA hI.2.2.1 (vp_in_nI (show i + 2 < Ls by omega) (by omega)) d_La_law_823 ?_
  refine hw_ti (show _ = xs (i + 2) from by rw [nI_clamp (by omega)]) ?_
  refine hw_cV (As := [.int (xs (i + 1)), .int (xs (i + 2))]) (rest := []) S hI m_Mo_compare w_939 (c_Mo_compare l D t0 L _ _ mm mc ml mg mw mr th σ wt (xs (i + 1)) (xs (i + 2)) hM hok) hM.mmc rfl hl.1 rfl rfl (Nat.le_of_ble_eq_true rfl) d_La_law_824 ⟨Nat.le_of_ble_eq_true rfl, Nat.le_of_ble_eq_true rfl⟩ ⟨hc, hs⟩ (fun v9 L9 f135 H locs hp hI => ?_)
  refine W.cs (cells' := cells + 1) (slots' := slots + 6) rfl rfl ?_
  obtain ⟨hv9, rfl, hM, hF2⟩ := hp
  cases hv9
  refine hw_stk (st' := [.int ((aCmp σ (xs (i + 1)) (xs (i + 2))).getD 0)]) rfl ?_
  have hS := hS.keep (f' := f135) (fun q hq => ⟨hS.mem q hq, hF2 q (hG.2.1 q hq).1⟩)
  have hao := hw_c.fr hao (hF2 ao hG.2.2)
  refine lv_istore (lv' := [(6, .int ((aCmp σ (xs (i + 1)) (xs (i + 2))).getD 0)), (5, .int (nI (if (aCmp σ (xs (i + 1)) (xs (i + 2))).isSome then 0 else 1))), (4, .int (nI i)), (3, .ref (ao)), (2, .ref (mm)), (1, .ref (wf)), (0, .ref (b))]) hx hb d_La_law_827 hl (by decide) rfl (fun ls hl => ?_)
  refine lv_aload_n hx hb d_La_law_829 rfl (lv_at hl 4 rfl) ?_
  refine hw_cV (As := []) (rest := []) S hI m_Mo_thrown w_790 (c_Mo_thrown l D t0 L _ _ mm mc ml mg mw mr _ _ _ hM) hM.mmc rfl hl.1 rfl rfl (Nat.le_of_ble_eq_true rfl) d_La_law_830 ⟨Nat.le_of_ble_eq_true rfl, Nat.le_of_ble_eq_true rfl⟩ ⟨hc, hs⟩ (fun v9 L9 f136 H locs hp hI => ?_)
  refine W.cs (cells' := cells + 1) (slots' := slots + 6) rfl rfl ?_
  obtain ⟨hv9, rfl, rfl⟩ := hp
  cases hv9
  refine hw_stk (st' := [.int (nI (if (aCmp σ (xs (i + 1)) (xs (i + 2))).isSome then 0 else 1))]) rfl ?_
  refine lv_iload hx hb d_La_law_833 (lv_at hl 1 rfl) ?_
  refine lv_icmp_eq (tgt := 840) hx hb d_La_law_835 (by decide) (fun _ => ?_) (fun c9 => absurd rfl c9)
  refine lv_iload hx hb d_La_law_840 (lv_at hl 1 rfl) ?_
  refine lv_if_ne (tgt := 857) hx hb d_La_law_842 (by decide) (fun _ => ?_) (fun c9 => ?_)
  · refine lv_goto (tgt := 1340) hx hb d_La_law_857 (by decide) ?_
    exact kk _ _ _ _ _ _ ⟨hI, hS, ⟨_, hM⟩, ⟨_, hao⟩, hok⟩ (lv_sub hl [2, 3, 4, 5, 6] rfl)
  · obtain ⟨v0, hv0⟩ : ∃ v0, aCmp σ (xs (i + 1)) (xs (i + 2)) = some v0 := by cases h0 : aCmp σ (xs (i + 1)) (xs (i + 2)) with | none => rw [h0] at c9; exact absurd c9 (by decide) | some v0 => exact ⟨v0, rfl⟩
    have hv : g2 0 = Int32.toInt64 ((aCmp σ (xs (i + 1)) (xs (i + 2))).getD 0) := by rw [hg2 v0 hv0, hv0]; rfl
    refine lv_aload_n hx hb d_La_law_845 rfl (lv_at hl 3 rfl) ?_
    refine lv_iconst (v := nI 0) hx hb d_La_law_846 (by decide) ?_
    refine hw_lald S.1 S.2.1 hI 0 hao rfl (vp_in_nI (show 0 < 1 by decide) (by decide)) d_La_law_847 ?_
    refine hw_tl (show _ = g2 0 from rfl) ?_
    refine lv_iload hx hb d_La_law_848 (lv_at hl 0 rfl) ?_
    refine lv_i2l hx hb d_La_law_850 rfl ?_
    refine hw_l_eq (tgt := 857) hx hb d_La_law_851 d_La_law_852 (by decide) (fun _ => ?_) (fun c8 => absurd hv c8)
    refine lv_goto (tgt := 1340) hx hb d_La_law_857 (by decide) ?_
    exact kk _ _ _ _ _ _ ⟨hI, hS, ⟨_, hM⟩, ⟨_, hao⟩, hok⟩ (lv_sub hl [2, 3, 4, 5, 6] rfl)
set_option maxHeartbeats 4000000 in
set_option maxRecDepth 100000 in
theorem k_sign {p : Program} {l : Launch} {e : Env} {s : State} {m : MethodId} {below : List Frame} {meth : Method} {c : Code} {b Ls : Nat} {xs : Nat → Int32} {D : va_G} {t0 : Nat} {L : List Nat} {f : Nat → va_E} {H : Heap} {locs : List Loc} {cells slots : Nat} {Q : State → Prop} {ls : Array Slot} {o r fr : Nat → Nat} {ad al ab am ak ah aw ar rg wf mm mc ml mg mw mr ao : Nat} {σ : Sg} {wt : Nat → Nat} {i : Nat} (hlt : l.stackTraces = false) (S : CallFix p m c code 7 s #[Value.ref b] TT "WallFractionsLaw") (hX : va_X b Ls xs s s.heap) (hbl : b < s.heap.size) (hG : LG o r fr ad al ab am ak ah aw ar rg wf mm mc ml mg mw mr ao) (h9 : LI D t0 s L f H locs o r fr ad al ab am ak ah aw ar rg wf mm mc ml mg mw mr ao σ wt) (hi : i + 6 ≤ Ls) (hLs : Ls ≤ 3072) (hc : cells + 1 ≤ 601024) (hs : slots + 6 ≤ 7293034) (hl : lv_has ls 7 [(4, .int (nI i)), (3, .ref (ao)), (2, .ref (mm)), (1, .ref (wf)), (0, .ref (b))]) (kk : ∀ (f2 : Nat → va_E) (H2 : Heap) (locs2 : List Loc) (ls2 : Array Slot) (σ2 : Sg) (wt2 : Nat → Nat), LI D t0 s L f2 H2 locs2 o r fr ad al ab am ak ah aw ar rg wf mm mc ml mg mw mr ao σ2 wt2 → lv_has ls2 7 [(4, .int (nI i)), (3, .ref (ao)), (2, .ref (mm)), (1, .ref (wf)), (0, .ref (b))] → W p l e room_1 s m #[Value.ref b] below meth c H2 locs2 (cells + 1) (slots + 6) Q (F0 m 1340 ls2 [])) : W p l e room_1 s m #[Value.ref b] below meth c H locs cells slots Q (F0 m 860 ls []) := by
  have hx := S.1
  have hb := S.2.1
  have hown := S.2.2.2.1
  have hT := S.2.2.2.2
  obtain ⟨hI, hS, ⟨th, hM⟩, ⟨g, hao⟩, hok⟩ := h9
  have hbA : ¬ hw_A [] s.heap.size b := fun h => h.elim (fun q => absurd q List.not_mem_nil) (fun q => by omega)
  have hna : ¬ Al o r fr ad al ab am ak ah aw ar rg wf ao := fun h => (hG.2.1 ao h).2 rfl
  have hno : ¬ Own o r fr ad al ab am ak ah aw ar rg wf ao := fun h => hna (Or.inl h)
  refine lv_aload_n hx hb d_La_law_860 rfl (lv_at hl 3 rfl) ?_
  refine lv_aload_n hx hb d_La_law_861 rfl (lv_at hl 4 rfl) ?_
  refine lv_iload hx hb d_La_law_862 (lv_at hl 0 rfl) ?_
  refine lv_iconst (v := nI 1) hx hb d_La_law_864 (by decide) ?_
  refine lv_iadd hx hb d_La_law_865 ?_
  refine hw_ti (nI_add _ _) ?_
  refine va_sld hx hb hX hbl hbA hI.2.2.1 (vp_in_nI (show i + 1 < Ls by omega) (by omega)) d_La_law_866 ?_
  refine hw_ti (show _ = xs (i + 1) from by rw [nI_clamp (by omega)]) ?_
  refine lv_aload_n hx hb d_La_law_867 rfl (lv_at hl 1 rfl) ?_
  refine hw_xW (As := [.ref (wf), .int (xs (i + 1)), .ref (ao)]) (rest := []) S hI m_La_sign w_642 (c_La_sign l hlt D t0 L _ _ o r fr ad al ab am ak ah aw ar rg wf σ wt (xs (i + 1)) ao g hG.1 hS hok hao hna) hl.1 rfl rfl (Nat.le_of_ble_eq_true rfl) d_La_law_868 ⟨Nat.le_of_ble_eq_true rfl, Nat.le_of_ble_eq_true rfl⟩ ⟨hc, hs⟩ (fun v9 L9 f137 H locs hp hI => ?_)
  refine W.cs (cells' := cells + 1) (slots' := slots + 6) rfl rfl ?_
  obtain ⟨hv9, rfl, hS, ⟨g2, hao, hg2⟩, hF⟩ := hp
  cases hv9
  refine hw_stk (st' := [.int (nI (if (aSgn σ (xs (i + 1))).isSome then 0 else 1))]) rfl ?_
  have hM := hM.keep (f' := f137) (fun q hq => ⟨hM.mem q hq, hF q (fun h => (hG.2.1 q (Or.inl h)).1 hq) (fun e => hG.2.2 (e ▸ hq))⟩)
  refine lv_istore (lv' := [(5, .int (nI (if (aSgn σ (xs (i + 1))).isSome then 0 else 1))), (4, .int (nI i)), (3, .ref (ao)), (2, .ref (mm)), (1, .ref (wf)), (0, .ref (b))]) hx hb d_La_law_871 hl (by decide) rfl (fun ls hl => ?_)
  refine lv_aload_n hx hb d_La_law_873 rfl (lv_at hl 3 rfl) ?_
  refine lv_aload_n hx hb d_La_law_874 rfl (lv_at hl 5 rfl) ?_
  refine lv_iload hx hb d_La_law_875 (lv_at hl 1 rfl) ?_
  refine lv_iconst (v := nI 1) hx hb d_La_law_877 (by decide) ?_
  refine lv_iadd hx hb d_La_law_878 ?_
  refine hw_ti (nI_add _ _) ?_
  refine va_sld hx hb hX hbl hbA hI.2.2.1 (vp_in_nI (show i + 1 < Ls by omega) (by omega)) d_La_law_879 ?_
  refine hw_ti (show _ = xs (i + 1) from by rw [nI_clamp (by omega)]) ?_
  refine hw_cV (As := [.int (xs (i + 1))]) (rest := []) S hI m_Mo_sign w_943 (c_Mo_sign l D t0 L _ _ mm mc ml mg mw mr th σ wt (xs (i + 1)) hM hok) hM.mmc rfl hl.1 rfl rfl (Nat.le_of_ble_eq_true rfl) d_La_law_880 ⟨Nat.le_of_ble_eq_true rfl, Nat.le_of_ble_eq_true rfl⟩ ⟨hc, hs⟩ (fun v9 L9 f138 H locs hp hI => ?_)
  refine W.cs (cells' := cells + 1) (slots' := slots + 6) rfl rfl ?_
  obtain ⟨hv9, rfl, hM, hF2⟩ := hp
  cases hv9
  refine hw_stk (st' := [.int ((aSgn σ (xs (i + 1))).getD 0)]) rfl ?_
  have hS := hS.keep (f' := f138) (fun q hq => ⟨hS.mem q hq, hF2 q (hG.2.1 q hq).1⟩)
  have hao := hw_c.fr hao (hF2 ao hG.2.2)
  refine lv_istore (lv' := [(6, .int ((aSgn σ (xs (i + 1))).getD 0)), (5, .int (nI (if (aSgn σ (xs (i + 1))).isSome then 0 else 1))), (4, .int (nI i)), (3, .ref (ao)), (2, .ref (mm)), (1, .ref (wf)), (0, .ref (b))]) hx hb d_La_law_883 hl (by decide) rfl (fun ls hl => ?_)
  refine lv_aload_n hx hb d_La_law_885 rfl (lv_at hl 4 rfl) ?_
  refine hw_cV (As := []) (rest := []) S hI m_Mo_thrown w_790 (c_Mo_thrown l D t0 L _ _ mm mc ml mg mw mr _ _ _ hM) hM.mmc rfl hl.1 rfl rfl (Nat.le_of_ble_eq_true rfl) d_La_law_886 ⟨Nat.le_of_ble_eq_true rfl, Nat.le_of_ble_eq_true rfl⟩ ⟨hc, hs⟩ (fun v9 L9 f139 H locs hp hI => ?_)
  refine W.cs (cells' := cells + 1) (slots' := slots + 6) rfl rfl ?_
  obtain ⟨hv9, rfl, rfl⟩ := hp
  cases hv9
  refine hw_stk (st' := [.int (nI (if (aSgn σ (xs (i + 1))).isSome then 0 else 1))]) rfl ?_
  refine lv_iload hx hb d_La_law_889 (lv_at hl 1 rfl) ?_
  refine lv_icmp_eq (tgt := 896) hx hb d_La_law_891 (by decide) (fun _ => ?_) (fun c9 => absurd rfl c9)
  refine lv_iload hx hb d_La_law_896 (lv_at hl 1 rfl) ?_
  refine lv_if_ne (tgt := 913) hx hb d_La_law_898 (by decide) (fun _ => ?_) (fun c9 => ?_)
  · refine lv_goto (tgt := 1340) hx hb d_La_law_913 (by decide) ?_
    exact kk _ _ _ _ _ _ ⟨hI, hS, ⟨_, hM⟩, ⟨_, hao⟩, hok⟩ (lv_sub hl [2, 3, 4, 5, 6] rfl)
  · obtain ⟨v0, hv0⟩ : ∃ v0, aSgn σ (xs (i + 1)) = some v0 := by cases h0 : aSgn σ (xs (i + 1)) with | none => rw [h0] at c9; exact absurd c9 (by decide) | some v0 => exact ⟨v0, rfl⟩
    have hv : g2 0 = Int32.toInt64 ((aSgn σ (xs (i + 1))).getD 0) := by rw [hg2 v0 hv0, hv0]; rfl
    refine lv_aload_n hx hb d_La_law_901 rfl (lv_at hl 3 rfl) ?_
    refine lv_iconst (v := nI 0) hx hb d_La_law_902 (by decide) ?_
    refine hw_lald S.1 S.2.1 hI 0 hao rfl (vp_in_nI (show 0 < 1 by decide) (by decide)) d_La_law_903 ?_
    refine hw_tl (show _ = g2 0 from rfl) ?_
    refine lv_iload hx hb d_La_law_904 (lv_at hl 0 rfl) ?_
    refine lv_i2l hx hb d_La_law_906 rfl ?_
    refine hw_l_eq (tgt := 913) hx hb d_La_law_907 d_La_law_908 (by decide) (fun _ => ?_) (fun c8 => absurd hv c8)
    refine lv_goto (tgt := 1340) hx hb d_La_law_913 (by decide) ?_
    exact kk _ _ _ _ _ _ ⟨hI, hS, ⟨_, hM⟩, ⟨_, hao⟩, hok⟩ (lv_sub hl [2, 3, 4, 5, 6] rfl)
set_option maxHeartbeats 4000000 in
set_option maxRecDepth 100000 in
theorem k_digits {p : Program} {l : Launch} {e : Env} {s : State} {m : MethodId} {below : List Frame} {meth : Method} {c : Code} {b Ls : Nat} {xs : Nat → Int32} {D : va_G} {t0 : Nat} {L : List Nat} {f : Nat → va_E} {H : Heap} {locs : List Loc} {cells slots : Nat} {Q : State → Prop} {ls : Array Slot} {o r fr : Nat → Nat} {ad al ab am ak ah aw ar rg wf mm mc ml mg mw mr ao : Nat} {σ : Sg} {wt : Nat → Nat} {i : Nat} (hlt : l.stackTraces = false) (S : CallFix p m c code 7 s #[Value.ref b] TT "WallFractionsLaw") (hX : va_X b Ls xs s s.heap) (hbl : b < s.heap.size) (hG : LG o r fr ad al ab am ak ah aw ar rg wf mm mc ml mg mw mr ao) (h9 : LI D t0 s L f H locs o r fr ad al ab am ak ah aw ar rg wf mm mc ml mg mw mr ao σ wt) (hi : i + 6 ≤ Ls) (hLs : Ls ≤ 3072) (hc : cells + 1 ≤ 601024) (hs : slots + 6 ≤ 7293034) (hl : lv_has ls 7 [(4, .int (nI i)), (3, .ref (ao)), (2, .ref (mm)), (1, .ref (wf)), (0, .ref (b))]) (kk : ∀ (f2 : Nat → va_E) (H2 : Heap) (locs2 : List Loc) (ls2 : Array Slot) (σ2 : Sg) (wt2 : Nat → Nat), LI D t0 s L f2 H2 locs2 o r fr ad al ab am ak ah aw ar rg wf mm mc ml mg mw mr ao σ2 wt2 → lv_has ls2 7 [(4, .int (nI i)), (3, .ref (ao)), (2, .ref (mm)), (1, .ref (wf)), (0, .ref (b))] → W p l e room_1 s m #[Value.ref b] below meth c H2 locs2 (cells + 1) (slots + 6) Q (F0 m 1340 ls2 [])) : W p l e room_1 s m #[Value.ref b] below meth c H locs cells slots Q (F0 m 916 ls []) := by
  have hx := S.1
  have hb := S.2.1
  have hown := S.2.2.2.1
  have hT := S.2.2.2.2
  obtain ⟨hI, hS, ⟨th, hM⟩, ⟨g, hao⟩, hok⟩ := h9
  have hbA : ¬ hw_A [] s.heap.size b := fun h => h.elim (fun q => absurd q List.not_mem_nil) (fun q => by omega)
  have hna : ¬ Al o r fr ad al ab am ak ah aw ar rg wf ao := fun h => (hG.2.1 ao h).2 rfl
  have hno : ¬ Own o r fr ad al ab am ak ah aw ar rg wf ao := fun h => hna (Or.inl h)
  refine lv_aload_n hx hb d_La_law_916 rfl (lv_at hl 3 rfl) ?_
  refine lv_aload_n hx hb d_La_law_917 rfl (lv_at hl 4 rfl) ?_
  refine lv_iload hx hb d_La_law_918 (lv_at hl 0 rfl) ?_
  refine lv_iconst (v := nI 1) hx hb d_La_law_920 (by decide) ?_
  refine lv_iadd hx hb d_La_law_921 ?_
  refine hw_ti (nI_add _ _) ?_
  refine va_sld hx hb hX hbl hbA hI.2.2.1 (vp_in_nI (show i + 1 < Ls by omega) (by omega)) d_La_law_922 ?_
  refine hw_ti (show _ = xs (i + 1) from by rw [nI_clamp (by omega)]) ?_
  refine lv_aload_n hx hb d_La_law_923 rfl (lv_at hl 4 rfl) ?_
  refine lv_iload hx hb d_La_law_924 (lv_at hl 0 rfl) ?_
  refine lv_iconst (v := nI 2) hx hb d_La_law_926 (by decide) ?_
  refine lv_iadd hx hb d_La_law_927 ?_
  refine hw_ti (nI_add _ _) ?_
  refine va_sld hx hb hX hbl hbA hI.2.2.1 (vp_in_nI (show i + 2 < Ls by omega) (by omega)) d_La_law_928 ?_
  refine hw_ti (show _ = xs (i + 2) from by rw [nI_clamp (by omega)]) ?_
  refine lv_aload_n hx hb d_La_law_929 rfl (lv_at hl 1 rfl) ?_
  refine hw_xW (As := [.ref (wf), .int (xs (i + 1)), .int (xs (i + 2)), .ref (ao)]) (rest := []) S hI m_La_digits w_654 (c_La_digits l hlt D t0 L _ _ o r fr ad al ab am ak ah aw ar rg wf σ wt (xs (i + 1)) (xs (i + 2)) ao g hG.1 hS hok hao hna) hl.1 rfl rfl (Nat.le_of_ble_eq_true rfl) d_La_law_930 ⟨Nat.le_of_ble_eq_true rfl, Nat.le_of_ble_eq_true rfl⟩ ⟨hc, hs⟩ (fun v9 L9 f140 H locs hp hI => ?_)
  refine W.cs (cells' := cells + 1) (slots' := slots + 6) rfl rfl ?_
  obtain ⟨hv9, rfl, hS, ⟨g2, hao, hg2⟩, hF⟩ := hp
  cases hv9
  refine hw_stk (st' := [.int (nI (if (aDgs σ (xs (i + 1)) (xs (i + 2))).isSome then 0 else 1))]) rfl ?_
  have hM := hM.keep (f' := f140) (fun q hq => ⟨hM.mem q hq, hF q (fun h => (hG.2.1 q (Or.inl h)).1 hq) (fun e => hG.2.2 (e ▸ hq))⟩)
  refine lv_istore (lv' := [(5, .int (nI (if (aDgs σ (xs (i + 1)) (xs (i + 2))).isSome then 0 else 1))), (4, .int (nI i)), (3, .ref (ao)), (2, .ref (mm)), (1, .ref (wf)), (0, .ref (b))]) hx hb d_La_law_933 hl (by decide) rfl (fun ls hl => ?_)
  refine lv_aload_n hx hb d_La_law_935 rfl (lv_at hl 3 rfl) ?_
  refine lv_aload_n hx hb d_La_law_936 rfl (lv_at hl 5 rfl) ?_
  refine lv_iload hx hb d_La_law_937 (lv_at hl 1 rfl) ?_
  refine lv_iconst (v := nI 1) hx hb d_La_law_939 (by decide) ?_
  refine lv_iadd hx hb d_La_law_940 ?_
  refine hw_ti (nI_add _ _) ?_
  refine va_sld hx hb hX hbl hbA hI.2.2.1 (vp_in_nI (show i + 1 < Ls by omega) (by omega)) d_La_law_941 ?_
  refine hw_ti (show _ = xs (i + 1) from by rw [nI_clamp (by omega)]) ?_
  refine lv_aload_n hx hb d_La_law_942 rfl (lv_at hl 5 rfl) ?_
  refine lv_iload hx hb d_La_law_943 (lv_at hl 1 rfl) ?_
  refine lv_iconst (v := nI 2) hx hb d_La_law_945 (by decide) ?_
  refine lv_iadd hx hb d_La_law_946 ?_
  refine hw_ti (nI_add _ _) ?_
  refine va_sld hx hb hX hbl hbA hI.2.2.1 (vp_in_nI (show i + 2 < Ls by omega) (by omega)) d_La_law_947 ?_
  refine hw_ti (show _ = xs (i + 2) from by rw [nI_clamp (by omega)]) ?_
  refine hw_cV (As := [.int (xs (i + 1)), .int (xs (i + 2))]) (rest := []) S hI m_Mo_digits w_947 (c_Mo_digits l D t0 L _ _ mm mc ml mg mw mr th σ wt (xs (i + 1)) (xs (i + 2)) hM hok) hM.mmc rfl hl.1 rfl rfl (Nat.le_of_ble_eq_true rfl) d_La_law_948 ⟨Nat.le_of_ble_eq_true rfl, Nat.le_of_ble_eq_true rfl⟩ ⟨hc, hs⟩ (fun v9 L9 f141 H locs hp hI => ?_)
  refine W.cs (cells' := cells + 1) (slots' := slots + 6) rfl rfl ?_
  obtain ⟨hv9, rfl, hM, hF2⟩ := hp
  cases hv9
  refine hw_stk (st' := [.int ((aDgs σ (xs (i + 1)) (xs (i + 2))).getD 0)]) rfl ?_
  have hS := hS.keep (f' := f141) (fun q hq => ⟨hS.mem q hq, hF2 q (hG.2.1 q hq).1⟩)
  have hao := hw_c.fr hao (hF2 ao hG.2.2)
  refine lv_istore (lv' := [(6, .int ((aDgs σ (xs (i + 1)) (xs (i + 2))).getD 0)), (5, .int (nI (if (aDgs σ (xs (i + 1)) (xs (i + 2))).isSome then 0 else 1))), (4, .int (nI i)), (3, .ref (ao)), (2, .ref (mm)), (1, .ref (wf)), (0, .ref (b))]) hx hb d_La_law_951 hl (by decide) rfl (fun ls hl => ?_)
  refine lv_aload_n hx hb d_La_law_953 rfl (lv_at hl 4 rfl) ?_
  refine hw_cV (As := []) (rest := []) S hI m_Mo_thrown w_790 (c_Mo_thrown l D t0 L _ _ mm mc ml mg mw mr _ _ _ hM) hM.mmc rfl hl.1 rfl rfl (Nat.le_of_ble_eq_true rfl) d_La_law_954 ⟨Nat.le_of_ble_eq_true rfl, Nat.le_of_ble_eq_true rfl⟩ ⟨hc, hs⟩ (fun v9 L9 f142 H locs hp hI => ?_)
  refine W.cs (cells' := cells + 1) (slots' := slots + 6) rfl rfl ?_
  obtain ⟨hv9, rfl, rfl⟩ := hp
  cases hv9
  refine hw_stk (st' := [.int (nI (if (aDgs σ (xs (i + 1)) (xs (i + 2))).isSome then 0 else 1))]) rfl ?_
  refine lv_iload hx hb d_La_law_957 (lv_at hl 1 rfl) ?_
  refine lv_icmp_eq (tgt := 964) hx hb d_La_law_959 (by decide) (fun _ => ?_) (fun c9 => absurd rfl c9)
  refine lv_iload hx hb d_La_law_964 (lv_at hl 1 rfl) ?_
  refine lv_if_ne (tgt := 981) hx hb d_La_law_966 (by decide) (fun _ => ?_) (fun c9 => ?_)
  · refine lv_goto (tgt := 1340) hx hb d_La_law_981 (by decide) ?_
    exact kk _ _ _ _ _ _ ⟨hI, hS, ⟨_, hM⟩, ⟨_, hao⟩, hok⟩ (lv_sub hl [2, 3, 4, 5, 6] rfl)
  · obtain ⟨v0, hv0⟩ : ∃ v0, aDgs σ (xs (i + 1)) (xs (i + 2)) = some v0 := by cases h0 : aDgs σ (xs (i + 1)) (xs (i + 2)) with | none => rw [h0] at c9; exact absurd c9 (by decide) | some v0 => exact ⟨v0, rfl⟩
    have hv : g2 0 = Int32.toInt64 ((aDgs σ (xs (i + 1)) (xs (i + 2))).getD 0) := by rw [hg2 v0 hv0, hv0]; rfl
    refine lv_aload_n hx hb d_La_law_969 rfl (lv_at hl 3 rfl) ?_
    refine lv_iconst (v := nI 0) hx hb d_La_law_970 (by decide) ?_
    refine hw_lald S.1 S.2.1 hI 0 hao rfl (vp_in_nI (show 0 < 1 by decide) (by decide)) d_La_law_971 ?_
    refine hw_tl (show _ = g2 0 from rfl) ?_
    refine lv_iload hx hb d_La_law_972 (lv_at hl 0 rfl) ?_
    refine lv_i2l hx hb d_La_law_974 rfl ?_
    refine hw_l_eq (tgt := 981) hx hb d_La_law_975 d_La_law_976 (by decide) (fun _ => ?_) (fun c8 => absurd hv c8)
    refine lv_goto (tgt := 1340) hx hb d_La_law_981 (by decide) ?_
    exact kk _ _ _ _ _ _ ⟨hI, hS, ⟨_, hM⟩, ⟨_, hao⟩, hok⟩ (lv_sub hl [2, 3, 4, 5, 6] rfl)
set_option maxHeartbeats 4000000 in
set_option maxRecDepth 100000 in
theorem k_digit {p : Program} {l : Launch} {e : Env} {s : State} {m : MethodId} {below : List Frame} {meth : Method} {c : Code} {b Ls : Nat} {xs : Nat → Int32} {D : va_G} {t0 : Nat} {L : List Nat} {f : Nat → va_E} {H : Heap} {locs : List Loc} {cells slots : Nat} {Q : State → Prop} {ls : Array Slot} {o r fr : Nat → Nat} {ad al ab am ak ah aw ar rg wf mm mc ml mg mw mr ao : Nat} {σ : Sg} {wt : Nat → Nat} {i : Nat} (hlt : l.stackTraces = false) (S : CallFix p m c code 7 s #[Value.ref b] TT "WallFractionsLaw") (hX : va_X b Ls xs s s.heap) (hbl : b < s.heap.size) (hG : LG o r fr ad al ab am ak ah aw ar rg wf mm mc ml mg mw mr ao) (h9 : LI D t0 s L f H locs o r fr ad al ab am ak ah aw ar rg wf mm mc ml mg mw mr ao σ wt) (hi : i + 6 ≤ Ls) (hLs : Ls ≤ 3072) (hc : cells + 1 ≤ 601024) (hs : slots + 6 ≤ 7293034) (hl : lv_has ls 7 [(4, .int (nI i)), (3, .ref (ao)), (2, .ref (mm)), (1, .ref (wf)), (0, .ref (b))]) (kk : ∀ (f2 : Nat → va_E) (H2 : Heap) (locs2 : List Loc) (ls2 : Array Slot) (σ2 : Sg) (wt2 : Nat → Nat), LI D t0 s L f2 H2 locs2 o r fr ad al ab am ak ah aw ar rg wf mm mc ml mg mw mr ao σ2 wt2 → lv_has ls2 7 [(4, .int (nI i)), (3, .ref (ao)), (2, .ref (mm)), (1, .ref (wf)), (0, .ref (b))] → W p l e room_1 s m #[Value.ref b] below meth c H2 locs2 (cells + 1) (slots + 6) Q (F0 m 1340 ls2 [])) : W p l e room_1 s m #[Value.ref b] below meth c H locs cells slots Q (F0 m 984 ls []) := by
  have hx := S.1
  have hb := S.2.1
  have hown := S.2.2.2.1
  have hT := S.2.2.2.2
  obtain ⟨hI, hS, ⟨th, hM⟩, ⟨g, hao⟩, hok⟩ := h9
  have hbA : ¬ hw_A [] s.heap.size b := fun h => h.elim (fun q => absurd q List.not_mem_nil) (fun q => by omega)
  have hna : ¬ Al o r fr ad al ab am ak ah aw ar rg wf ao := fun h => (hG.2.1 ao h).2 rfl
  have hno : ¬ Own o r fr ad al ab am ak ah aw ar rg wf ao := fun h => hna (Or.inl h)
  refine lv_aload_n hx hb d_La_law_984 rfl (lv_at hl 3 rfl) ?_
  refine lv_aload_n hx hb d_La_law_985 rfl (lv_at hl 4 rfl) ?_
  refine lv_iload hx hb d_La_law_986 (lv_at hl 0 rfl) ?_
  refine lv_iconst (v := nI 1) hx hb d_La_law_988 (by decide) ?_
  refine lv_iadd hx hb d_La_law_989 ?_
  refine hw_ti (nI_add _ _) ?_
  refine va_sld hx hb hX hbl hbA hI.2.2.1 (vp_in_nI (show i + 1 < Ls by omega) (by omega)) d_La_law_990 ?_
  refine hw_ti (show _ = xs (i + 1) from by rw [nI_clamp (by omega)]) ?_
  refine lv_aload_n hx hb d_La_law_991 rfl (lv_at hl 4 rfl) ?_
  refine lv_iload hx hb d_La_law_992 (lv_at hl 0 rfl) ?_
  refine lv_iconst (v := nI 2) hx hb d_La_law_994 (by decide) ?_
  refine lv_iadd hx hb d_La_law_995 ?_
  refine hw_ti (nI_add _ _) ?_
  refine va_sld hx hb hX hbl hbA hI.2.2.1 (vp_in_nI (show i + 2 < Ls by omega) (by omega)) d_La_law_996 ?_
  refine hw_ti (show _ = xs (i + 2) from by rw [nI_clamp (by omega)]) ?_
  refine lv_aload_n hx hb d_La_law_997 rfl (lv_at hl 4 rfl) ?_
  refine lv_iload hx hb d_La_law_998 (lv_at hl 0 rfl) ?_
  refine lv_iconst (v := nI 3) hx hb d_La_law_1000 (by decide) ?_
  refine lv_iadd hx hb d_La_law_1001 ?_
  refine hw_ti (nI_add _ _) ?_
  refine va_sld hx hb hX hbl hbA hI.2.2.1 (vp_in_nI (show i + 3 < Ls by omega) (by omega)) d_La_law_1002 ?_
  refine hw_ti (show _ = xs (i + 3) from by rw [nI_clamp (by omega)]) ?_
  refine lv_aload_n hx hb d_La_law_1003 rfl (lv_at hl 1 rfl) ?_
  refine hw_xW (As := [.ref (wf), .int (xs (i + 1)), .int (xs (i + 2)), .int (xs (i + 3)), .ref (ao)]) (rest := []) S hI m_La_digit w_666 (c_La_digit l hlt D t0 L _ _ o r fr ad al ab am ak ah aw ar rg wf σ wt (xs (i + 1)) (xs (i + 2)) (xs (i + 3)) ao g hG.1 hS hok hao hna) hl.1 rfl rfl (Nat.le_of_ble_eq_true rfl) d_La_law_1004 ⟨Nat.le_of_ble_eq_true rfl, Nat.le_of_ble_eq_true rfl⟩ ⟨hc, hs⟩ (fun v9 L9 f143 H locs hp hI => ?_)
  refine W.cs (cells' := cells + 1) (slots' := slots + 6) rfl rfl ?_
  obtain ⟨hv9, rfl, hS, ⟨g2, hao, hg2⟩, hF⟩ := hp
  cases hv9
  refine hw_stk (st' := [.int (nI (aDgt σ (xs (i + 1)) (xs (i + 2)) (xs (i + 3))).1)]) rfl ?_
  have hM := hM.keep (f' := f143) (fun q hq => ⟨hM.mem q hq, hF q (fun h => (hG.2.1 q (Or.inl h)).1 hq) (fun e => hG.2.2 (e ▸ hq))⟩)
  refine lv_istore (lv' := [(5, .int (nI (aDgt σ (xs (i + 1)) (xs (i + 2)) (xs (i + 3))).1)), (4, .int (nI i)), (3, .ref (ao)), (2, .ref (mm)), (1, .ref (wf)), (0, .ref (b))]) hx hb d_La_law_1007 hl (by decide) rfl (fun ls hl => ?_)
  refine lv_aload_n hx hb d_La_law_1009 rfl (lv_at hl 3 rfl) ?_
  refine lv_aload_n hx hb d_La_law_1010 rfl (lv_at hl 5 rfl) ?_
  refine lv_iload hx hb d_La_law_1011 (lv_at hl 1 rfl) ?_
  refine lv_iconst (v := nI 1) hx hb d_La_law_1013 (by decide) ?_
  refine lv_iadd hx hb d_La_law_1014 ?_
  refine hw_ti (nI_add _ _) ?_
  refine va_sld hx hb hX hbl hbA hI.2.2.1 (vp_in_nI (show i + 1 < Ls by omega) (by omega)) d_La_law_1015 ?_
  refine hw_ti (show _ = xs (i + 1) from by rw [nI_clamp (by omega)]) ?_
  refine lv_aload_n hx hb d_La_law_1016 rfl (lv_at hl 5 rfl) ?_
  refine lv_iload hx hb d_La_law_1017 (lv_at hl 1 rfl) ?_
  refine lv_iconst (v := nI 2) hx hb d_La_law_1019 (by decide) ?_
  refine lv_iadd hx hb d_La_law_1020 ?_
  refine hw_ti (nI_add _ _) ?_
  refine va_sld hx hb hX hbl hbA hI.2.2.1 (vp_in_nI (show i + 2 < Ls by omega) (by omega)) d_La_law_1021 ?_
  refine hw_ti (show _ = xs (i + 2) from by rw [nI_clamp (by omega)]) ?_
  refine lv_aload_n hx hb d_La_law_1022 rfl (lv_at hl 5 rfl) ?_
  refine lv_iload hx hb d_La_law_1023 (lv_at hl 1 rfl) ?_
  refine lv_iconst (v := nI 3) hx hb d_La_law_1025 (by decide) ?_
  refine lv_iadd hx hb d_La_law_1026 ?_
  refine hw_ti (nI_add _ _) ?_
  refine va_sld hx hb hX hbl hbA hI.2.2.1 (vp_in_nI (show i + 3 < Ls by omega) (by omega)) d_La_law_1027 ?_
  refine hw_ti (show _ = xs (i + 3) from by rw [nI_clamp (by omega)]) ?_
  refine hw_cV (As := [.int (xs (i + 1)), .int (xs (i + 2)), .int (xs (i + 3))]) (rest := []) S hI m_Mo_digit w_951 (c_Mo_digit l D t0 L _ _ mm mc ml mg mw mr th σ wt (xs (i + 1)) (xs (i + 2)) (xs (i + 3)) hM hok) hM.mmc rfl hl.1 rfl rfl (Nat.le_of_ble_eq_true rfl) d_La_law_1028 ⟨Nat.le_of_ble_eq_true rfl, Nat.le_of_ble_eq_true rfl⟩ ⟨hc, hs⟩ (fun v9 L9 f144 H locs hp hI => ?_)
  refine W.cs (cells' := cells + 1) (slots' := slots + 6) rfl rfl ?_
  obtain ⟨hv9, rfl, hM, hF2⟩ := hp
  cases hv9
  refine hw_stk (st' := [.int ((aDgt σ (xs (i + 1)) (xs (i + 2)) (xs (i + 3))).2)]) rfl ?_
  have hS := hS.keep (f' := f144) (fun q hq => ⟨hS.mem q hq, hF2 q (hG.2.1 q hq).1⟩)
  have hao := hw_c.fr hao (hF2 ao hG.2.2)
  refine lv_istore (lv' := [(6, .int ((aDgt σ (xs (i + 1)) (xs (i + 2)) (xs (i + 3))).2)), (5, .int (nI (aDgt σ (xs (i + 1)) (xs (i + 2)) (xs (i + 3))).1)), (4, .int (nI i)), (3, .ref (ao)), (2, .ref (mm)), (1, .ref (wf)), (0, .ref (b))]) hx hb d_La_law_1031 hl (by decide) rfl (fun ls hl => ?_)
  refine lv_aload_n hx hb d_La_law_1033 rfl (lv_at hl 4 rfl) ?_
  refine hw_cV (As := []) (rest := []) S hI m_Mo_thrown w_790 (c_Mo_thrown l D t0 L _ _ mm mc ml mg mw mr _ _ _ hM) hM.mmc rfl hl.1 rfl rfl (Nat.le_of_ble_eq_true rfl) d_La_law_1034 ⟨Nat.le_of_ble_eq_true rfl, Nat.le_of_ble_eq_true rfl⟩ ⟨hc, hs⟩ (fun v9 L9 f145 H locs hp hI => ?_)
  refine W.cs (cells' := cells + 1) (slots' := slots + 6) rfl rfl ?_
  obtain ⟨hv9, rfl, rfl⟩ := hp
  cases hv9
  refine hw_stk (st' := [.int (nI (aDgt σ (xs (i + 1)) (xs (i + 2)) (xs (i + 3))).1)]) rfl ?_
  refine lv_iload hx hb d_La_law_1037 (lv_at hl 1 rfl) ?_
  refine lv_icmp_eq (tgt := 1044) hx hb d_La_law_1039 (by decide) (fun _ => ?_) (fun c9 => absurd rfl c9)
  refine lv_iload hx hb d_La_law_1044 (lv_at hl 1 rfl) ?_
  refine lv_if_ne (tgt := 1061) hx hb d_La_law_1046 (by decide) (fun _ => ?_) (fun c9 => ?_)
  · refine lv_goto (tgt := 1340) hx hb d_La_law_1061 (by decide) ?_
    exact kk _ _ _ _ _ _ ⟨hI, hS, ⟨_, hM⟩, ⟨_, hao⟩, hok⟩ (lv_sub hl [2, 3, 4, 5, 6] rfl)
  · have hk0 : (aDgt σ (xs (i + 1)) (xs (i + 2)) (xs (i + 3))).1 = 0 := aDgt_0 c9
    have hv := hg2 hk0
    refine lv_aload_n hx hb d_La_law_1049 rfl (lv_at hl 3 rfl) ?_
    refine lv_iconst (v := nI 0) hx hb d_La_law_1050 (by decide) ?_
    refine hw_lald S.1 S.2.1 hI 0 hao rfl (vp_in_nI (show 0 < 1 by decide) (by decide)) d_La_law_1051 ?_
    refine hw_tl (show _ = g2 0 from rfl) ?_
    refine lv_iload hx hb d_La_law_1052 (lv_at hl 0 rfl) ?_
    refine lv_i2l hx hb d_La_law_1054 rfl ?_
    refine hw_l_eq (tgt := 1061) hx hb d_La_law_1055 d_La_law_1056 (by decide) (fun _ => ?_) (fun c8 => absurd hv c8)
    refine lv_goto (tgt := 1340) hx hb d_La_law_1061 (by decide) ?_
    exact kk _ _ _ _ _ _ ⟨hI, hS, ⟨_, hM⟩, ⟨_, hao⟩, hok⟩ (lv_sub hl [2, 3, 4, 5, 6] rfl)
set_option maxHeartbeats 4000000 in
set_option maxRecDepth 100000 in
theorem k_behind {p : Program} {l : Launch} {e : Env} {s : State} {m : MethodId} {below : List Frame} {meth : Method} {c : Code} {b Ls : Nat} {xs : Nat → Int32} {D : va_G} {t0 : Nat} {L : List Nat} {f : Nat → va_E} {H : Heap} {locs : List Loc} {cells slots : Nat} {Q : State → Prop} {ls : Array Slot} {o r fr : Nat → Nat} {ad al ab am ak ah aw ar rg wf mm mc ml mg mw mr ao : Nat} {σ : Sg} {wt : Nat → Nat} {i : Nat} (hlt : l.stackTraces = false) (S : CallFix p m c code 7 s #[Value.ref b] TT "WallFractionsLaw") (hX : va_X b Ls xs s s.heap) (hbl : b < s.heap.size) (hG : LG o r fr ad al ab am ak ah aw ar rg wf mm mc ml mg mw mr ao) (h9 : LI D t0 s L f H locs o r fr ad al ab am ak ah aw ar rg wf mm mc ml mg mw mr ao σ wt) (hi : i + 6 ≤ Ls) (hLs : Ls ≤ 3072) (hc : cells + 1 ≤ 601024) (hs : slots + 6 ≤ 7293034) (hl : lv_has ls 7 [(4, .int (nI i)), (3, .ref (ao)), (2, .ref (mm)), (1, .ref (wf)), (0, .ref (b))]) (kk : ∀ (f2 : Nat → va_E) (H2 : Heap) (locs2 : List Loc) (ls2 : Array Slot) (σ2 : Sg) (wt2 : Nat → Nat), LI D t0 s L f2 H2 locs2 o r fr ad al ab am ak ah aw ar rg wf mm mc ml mg mw mr ao σ2 wt2 → lv_has ls2 7 [(4, .int (nI i)), (3, .ref (ao)), (2, .ref (mm)), (1, .ref (wf)), (0, .ref (b))] → W p l e room_1 s m #[Value.ref b] below meth c H2 locs2 (cells + 1) (slots + 6) Q (F0 m 1340 ls2 [])) : W p l e room_1 s m #[Value.ref b] below meth c H locs cells slots Q (F0 m 1064 ls []) := by
  have hx := S.1
  have hb := S.2.1
  have hown := S.2.2.2.1
  have hT := S.2.2.2.2
  obtain ⟨hI, hS, ⟨th, hM⟩, ⟨g, hao⟩, hok⟩ := h9
  have hbA : ¬ hw_A [] s.heap.size b := fun h => h.elim (fun q => absurd q List.not_mem_nil) (fun q => by omega)
  have hna : ¬ Al o r fr ad al ab am ak ah aw ar rg wf ao := fun h => (hG.2.1 ao h).2 rfl
  have hno : ¬ Own o r fr ad al ab am ak ah aw ar rg wf ao := fun h => hna (Or.inl h)
  refine lv_aload_n hx hb d_La_law_1064 rfl (lv_at hl 3 rfl) ?_
  refine lv_aload_n hx hb d_La_law_1065 rfl (lv_at hl 4 rfl) ?_
  refine lv_iload hx hb d_La_law_1066 (lv_at hl 0 rfl) ?_
  refine lv_iconst (v := nI 1) hx hb d_La_law_1068 (by decide) ?_
  refine lv_iadd hx hb d_La_law_1069 ?_
  refine hw_ti (nI_add _ _) ?_
  refine va_sld hx hb hX hbl hbA hI.2.2.1 (vp_in_nI (show i + 1 < Ls by omega) (by omega)) d_La_law_1070 ?_
  refine hw_ti (show _ = xs (i + 1) from by rw [nI_clamp (by omega)]) ?_
  refine lv_aload_n hx hb d_La_law_1071 rfl (lv_at hl 4 rfl) ?_
  refine lv_iload hx hb d_La_law_1072 (lv_at hl 0 rfl) ?_
  refine lv_iconst (v := nI 2) hx hb d_La_law_1074 (by decide) ?_
  refine lv_iadd hx hb d_La_law_1075 ?_
  refine hw_ti (nI_add _ _) ?_
  refine va_sld hx hb hX hbl hbA hI.2.2.1 (vp_in_nI (show i + 2 < Ls by omega) (by omega)) d_La_law_1076 ?_
  refine hw_ti (show _ = xs (i + 2) from by rw [nI_clamp (by omega)]) ?_
  refine lv_aload_n hx hb d_La_law_1077 rfl (lv_at hl 1 rfl) ?_
  refine hw_xW (As := [.ref (wf), .int (xs (i + 1)), .int (xs (i + 2)), .ref (ao)]) (rest := []) S hI m_La_behind w_695 (c_La_behind l hlt D t0 L _ _ o r fr ad al ab am ak ah aw ar rg wf σ wt (xs (i + 1)) (xs (i + 2)) ao g hG.1 hS hok hao hna) hl.1 rfl rfl (Nat.le_of_ble_eq_true rfl) d_La_law_1078 ⟨Nat.le_of_ble_eq_true rfl, Nat.le_of_ble_eq_true rfl⟩ ⟨hc, hs⟩ (fun v9 L9 f146 H locs hp hI => ?_)
  refine W.cs (cells' := cells + 1) (slots' := slots + 6) rfl rfl ?_
  obtain ⟨hv9, rfl, hS, ⟨g2, hao, hg2⟩, hF⟩ := hp
  cases hv9
  refine hw_stk (st' := [.int (nI (if (aBeh σ (xs (i + 1)) (xs (i + 2))).isSome then 0 else 1))]) rfl ?_
  have hM := hM.keep (f' := f146) (fun q hq => ⟨hM.mem q hq, hF q (fun h => (hG.2.1 q (Or.inl h)).1 hq) (fun e => hG.2.2 (e ▸ hq))⟩)
  refine lv_istore (lv' := [(5, .int (nI (if (aBeh σ (xs (i + 1)) (xs (i + 2))).isSome then 0 else 1))), (4, .int (nI i)), (3, .ref (ao)), (2, .ref (mm)), (1, .ref (wf)), (0, .ref (b))]) hx hb d_La_law_1081 hl (by decide) rfl (fun ls hl => ?_)
  refine lv_aload_n hx hb d_La_law_1083 rfl (lv_at hl 3 rfl) ?_
  refine lv_aload_n hx hb d_La_law_1084 rfl (lv_at hl 5 rfl) ?_
  refine lv_iload hx hb d_La_law_1085 (lv_at hl 1 rfl) ?_
  refine lv_iconst (v := nI 1) hx hb d_La_law_1087 (by decide) ?_
  refine lv_iadd hx hb d_La_law_1088 ?_
  refine hw_ti (nI_add _ _) ?_
  refine va_sld hx hb hX hbl hbA hI.2.2.1 (vp_in_nI (show i + 1 < Ls by omega) (by omega)) d_La_law_1089 ?_
  refine hw_ti (show _ = xs (i + 1) from by rw [nI_clamp (by omega)]) ?_
  refine lv_aload_n hx hb d_La_law_1090 rfl (lv_at hl 5 rfl) ?_
  refine lv_iload hx hb d_La_law_1091 (lv_at hl 1 rfl) ?_
  refine lv_iconst (v := nI 2) hx hb d_La_law_1093 (by decide) ?_
  refine lv_iadd hx hb d_La_law_1094 ?_
  refine hw_ti (nI_add _ _) ?_
  refine va_sld hx hb hX hbl hbA hI.2.2.1 (vp_in_nI (show i + 2 < Ls by omega) (by omega)) d_La_law_1095 ?_
  refine hw_ti (show _ = xs (i + 2) from by rw [nI_clamp (by omega)]) ?_
  refine hw_cV (As := [.int (xs (i + 1)), .int (xs (i + 2))]) (rest := []) S hI m_Mo_behind w_955 (c_Mo_behind l D t0 L _ _ mm mc ml mg mw mr th σ wt (xs (i + 1)) (xs (i + 2)) hM hok) hM.mmc rfl hl.1 rfl rfl (Nat.le_of_ble_eq_true rfl) d_La_law_1096 ⟨Nat.le_of_ble_eq_true rfl, Nat.le_of_ble_eq_true rfl⟩ ⟨hc, hs⟩ (fun v9 L9 f147 H locs hp hI => ?_)
  refine W.cs (cells' := cells + 1) (slots' := slots + 6) rfl rfl ?_
  obtain ⟨hv9, rfl, hM, hF2⟩ := hp
  cases hv9
  refine hw_stk (st' := [.int ((aBeh σ (xs (i + 1)) (xs (i + 2))).getD 0)]) rfl ?_
  have hS := hS.keep (f' := f147) (fun q hq => ⟨hS.mem q hq, hF2 q (hG.2.1 q hq).1⟩)
  have hao := hw_c.fr hao (hF2 ao hG.2.2)
  refine lv_istore (lv' := [(6, .int ((aBeh σ (xs (i + 1)) (xs (i + 2))).getD 0)), (5, .int (nI (if (aBeh σ (xs (i + 1)) (xs (i + 2))).isSome then 0 else 1))), (4, .int (nI i)), (3, .ref (ao)), (2, .ref (mm)), (1, .ref (wf)), (0, .ref (b))]) hx hb d_La_law_1099 hl (by decide) rfl (fun ls hl => ?_)
  refine lv_aload_n hx hb d_La_law_1101 rfl (lv_at hl 4 rfl) ?_
  refine hw_cV (As := []) (rest := []) S hI m_Mo_thrown w_790 (c_Mo_thrown l D t0 L _ _ mm mc ml mg mw mr _ _ _ hM) hM.mmc rfl hl.1 rfl rfl (Nat.le_of_ble_eq_true rfl) d_La_law_1102 ⟨Nat.le_of_ble_eq_true rfl, Nat.le_of_ble_eq_true rfl⟩ ⟨hc, hs⟩ (fun v9 L9 f148 H locs hp hI => ?_)
  refine W.cs (cells' := cells + 1) (slots' := slots + 6) rfl rfl ?_
  obtain ⟨hv9, rfl, rfl⟩ := hp
  cases hv9
  refine hw_stk (st' := [.int (nI (if (aBeh σ (xs (i + 1)) (xs (i + 2))).isSome then 0 else 1))]) rfl ?_
  refine lv_iload hx hb d_La_law_1105 (lv_at hl 1 rfl) ?_
  refine lv_icmp_eq (tgt := 1112) hx hb d_La_law_1107 (by decide) (fun _ => ?_) (fun c9 => absurd rfl c9)
  refine lv_iload hx hb d_La_law_1112 (lv_at hl 1 rfl) ?_
  refine lv_if_ne (tgt := 1129) hx hb d_La_law_1114 (by decide) (fun _ => ?_) (fun c9 => ?_)
  · refine lv_goto (tgt := 1340) hx hb d_La_law_1129 (by decide) ?_
    exact kk _ _ _ _ _ _ ⟨hI, hS, ⟨_, hM⟩, ⟨_, hao⟩, hok⟩ (lv_sub hl [2, 3, 4, 5, 6] rfl)
  · obtain ⟨v0, hv0⟩ : ∃ v0, aBeh σ (xs (i + 1)) (xs (i + 2)) = some v0 := by cases h0 : aBeh σ (xs (i + 1)) (xs (i + 2)) with | none => rw [h0] at c9; exact absurd c9 (by decide) | some v0 => exact ⟨v0, rfl⟩
    have hv : g2 0 = Int32.toInt64 ((aBeh σ (xs (i + 1)) (xs (i + 2))).getD 0) := by rw [hg2 v0 hv0, hv0]; rfl
    refine lv_aload_n hx hb d_La_law_1117 rfl (lv_at hl 3 rfl) ?_
    refine lv_iconst (v := nI 0) hx hb d_La_law_1118 (by decide) ?_
    refine hw_lald S.1 S.2.1 hI 0 hao rfl (vp_in_nI (show 0 < 1 by decide) (by decide)) d_La_law_1119 ?_
    refine hw_tl (show _ = g2 0 from rfl) ?_
    refine lv_iload hx hb d_La_law_1120 (lv_at hl 0 rfl) ?_
    refine lv_i2l hx hb d_La_law_1122 rfl ?_
    refine hw_l_eq (tgt := 1129) hx hb d_La_law_1123 d_La_law_1124 (by decide) (fun _ => ?_) (fun c8 => absurd hv c8)
    refine lv_goto (tgt := 1340) hx hb d_La_law_1129 (by decide) ?_
    exact kk _ _ _ _ _ _ ⟨hI, hS, ⟨_, hM⟩, ⟨_, hao⟩, hok⟩ (lv_sub hl [2, 3, 4, 5, 6] rfl)
set_option maxHeartbeats 4000000 in
set_option maxRecDepth 100000 in
theorem k_modulo {p : Program} {l : Launch} {e : Env} {s : State} {m : MethodId} {below : List Frame} {meth : Method} {c : Code} {b Ls : Nat} {xs : Nat → Int32} {D : va_G} {t0 : Nat} {L : List Nat} {f : Nat → va_E} {H : Heap} {locs : List Loc} {cells slots : Nat} {Q : State → Prop} {ls : Array Slot} {o r fr : Nat → Nat} {ad al ab am ak ah aw ar rg wf mm mc ml mg mw mr ao : Nat} {σ : Sg} {wt : Nat → Nat} {i : Nat} (hlt : l.stackTraces = false) (S : CallFix p m c code 7 s #[Value.ref b] TT "WallFractionsLaw") (hX : va_X b Ls xs s s.heap) (hbl : b < s.heap.size) (hG : LG o r fr ad al ab am ak ah aw ar rg wf mm mc ml mg mw mr ao) (h9 : LI D t0 s L f H locs o r fr ad al ab am ak ah aw ar rg wf mm mc ml mg mw mr ao σ wt) (hi : i + 6 ≤ Ls) (hLs : Ls ≤ 3072) (hc : cells + 1 ≤ 601024) (hs : slots + 6 ≤ 7293034) (hl : lv_has ls 7 [(4, .int (nI i)), (3, .ref (ao)), (2, .ref (mm)), (1, .ref (wf)), (0, .ref (b))]) (kk : ∀ (f2 : Nat → va_E) (H2 : Heap) (locs2 : List Loc) (ls2 : Array Slot) (σ2 : Sg) (wt2 : Nat → Nat), LI D t0 s L f2 H2 locs2 o r fr ad al ab am ak ah aw ar rg wf mm mc ml mg mw mr ao σ2 wt2 → lv_has ls2 7 [(4, .int (nI i)), (3, .ref (ao)), (2, .ref (mm)), (1, .ref (wf)), (0, .ref (b))] → W p l e room_1 s m #[Value.ref b] below meth c H2 locs2 (cells + 1) (slots + 6) Q (F0 m 1340 ls2 [])) : W p l e room_1 s m #[Value.ref b] below meth c H locs cells slots Q (F0 m 1132 ls []) := by
  have hx := S.1
  have hb := S.2.1
  have hown := S.2.2.2.1
  have hT := S.2.2.2.2
  obtain ⟨hI, hS, ⟨th, hM⟩, ⟨g, hao⟩, hok⟩ := h9
  have hbA : ¬ hw_A [] s.heap.size b := fun h => h.elim (fun q => absurd q List.not_mem_nil) (fun q => by omega)
  have hna : ¬ Al o r fr ad al ab am ak ah aw ar rg wf ao := fun h => (hG.2.1 ao h).2 rfl
  have hno : ¬ Own o r fr ad al ab am ak ah aw ar rg wf ao := fun h => hna (Or.inl h)
  refine lv_aload_n hx hb d_La_law_1132 rfl (lv_at hl 3 rfl) ?_
  refine lv_aload_n hx hb d_La_law_1133 rfl (lv_at hl 4 rfl) ?_
  refine lv_iload hx hb d_La_law_1134 (lv_at hl 0 rfl) ?_
  refine lv_iconst (v := nI 1) hx hb d_La_law_1136 (by decide) ?_
  refine lv_iadd hx hb d_La_law_1137 ?_
  refine hw_ti (nI_add _ _) ?_
  refine va_sld hx hb hX hbl hbA hI.2.2.1 (vp_in_nI (show i + 1 < Ls by omega) (by omega)) d_La_law_1138 ?_
  refine hw_ti (show _ = xs (i + 1) from by rw [nI_clamp (by omega)]) ?_
  refine lv_aload_n hx hb d_La_law_1139 rfl (lv_at hl 4 rfl) ?_
  refine lv_iload hx hb d_La_law_1140 (lv_at hl 0 rfl) ?_
  refine lv_iconst (v := nI 2) hx hb d_La_law_1142 (by decide) ?_
  refine lv_iadd hx hb d_La_law_1143 ?_
  refine hw_ti (nI_add _ _) ?_
  refine va_sld hx hb hX hbl hbA hI.2.2.1 (vp_in_nI (show i + 2 < Ls by omega) (by omega)) d_La_law_1144 ?_
  refine hw_ti (show _ = xs (i + 2) from by rw [nI_clamp (by omega)]) ?_
  refine lv_aload_n hx hb d_La_law_1145 rfl (lv_at hl 4 rfl) ?_
  refine lv_iload hx hb d_La_law_1146 (lv_at hl 0 rfl) ?_
  refine lv_iconst (v := nI 3) hx hb d_La_law_1148 (by decide) ?_
  refine lv_iadd hx hb d_La_law_1149 ?_
  refine hw_ti (nI_add _ _) ?_
  refine va_sld hx hb hX hbl hbA hI.2.2.1 (vp_in_nI (show i + 3 < Ls by omega) (by omega)) d_La_law_1150 ?_
  refine hw_ti (show _ = xs (i + 3) from by rw [nI_clamp (by omega)]) ?_
  refine lv_aload_n hx hb d_La_law_1151 rfl (lv_at hl 1 rfl) ?_
  refine hw_xW (As := [.ref (wf), .int (xs (i + 1)), .int (xs (i + 2)), .int (xs (i + 3)), .ref (ao)]) (rest := []) S hI m_La_modulo w_709 (c_La_modulo l hlt D t0 L _ _ o r fr ad al ab am ak ah aw ar rg wf σ wt (xs (i + 1)) (xs (i + 2)) (xs (i + 3)) ao g hG.1 hS hok hao hna) hl.1 rfl rfl (Nat.le_of_ble_eq_true rfl) d_La_law_1152 ⟨Nat.le_of_ble_eq_true rfl, Nat.le_of_ble_eq_true rfl⟩ ⟨hc, hs⟩ (fun v9 L9 f149 H locs hp hI => ?_)
  refine W.cs (cells' := cells + 1) (slots' := slots + 6) rfl rfl ?_
  obtain ⟨hv9, rfl, hS, ⟨g2, hao, hg2⟩, hF⟩ := hp
  cases hv9
  refine hw_stk (st' := [.int (nI (if (aMod σ (xs (i + 1)) (xs (i + 2)) (xs (i + 3))).isSome then 0 else 1))]) rfl ?_
  have hM := hM.keep (f' := f149) (fun q hq => ⟨hM.mem q hq, hF q (fun h => (hG.2.1 q (Or.inl h)).1 hq) (fun e => hG.2.2 (e ▸ hq))⟩)
  refine lv_istore (lv' := [(5, .int (nI (if (aMod σ (xs (i + 1)) (xs (i + 2)) (xs (i + 3))).isSome then 0 else 1))), (4, .int (nI i)), (3, .ref (ao)), (2, .ref (mm)), (1, .ref (wf)), (0, .ref (b))]) hx hb d_La_law_1155 hl (by decide) rfl (fun ls hl => ?_)
  refine lv_aload_n hx hb d_La_law_1157 rfl (lv_at hl 3 rfl) ?_
  refine lv_aload_n hx hb d_La_law_1158 rfl (lv_at hl 5 rfl) ?_
  refine lv_iload hx hb d_La_law_1159 (lv_at hl 1 rfl) ?_
  refine lv_iconst (v := nI 1) hx hb d_La_law_1161 (by decide) ?_
  refine lv_iadd hx hb d_La_law_1162 ?_
  refine hw_ti (nI_add _ _) ?_
  refine va_sld hx hb hX hbl hbA hI.2.2.1 (vp_in_nI (show i + 1 < Ls by omega) (by omega)) d_La_law_1163 ?_
  refine hw_ti (show _ = xs (i + 1) from by rw [nI_clamp (by omega)]) ?_
  refine lv_aload_n hx hb d_La_law_1164 rfl (lv_at hl 5 rfl) ?_
  refine lv_iload hx hb d_La_law_1165 (lv_at hl 1 rfl) ?_
  refine lv_iconst (v := nI 2) hx hb d_La_law_1167 (by decide) ?_
  refine lv_iadd hx hb d_La_law_1168 ?_
  refine hw_ti (nI_add _ _) ?_
  refine va_sld hx hb hX hbl hbA hI.2.2.1 (vp_in_nI (show i + 2 < Ls by omega) (by omega)) d_La_law_1169 ?_
  refine hw_ti (show _ = xs (i + 2) from by rw [nI_clamp (by omega)]) ?_
  refine lv_aload_n hx hb d_La_law_1170 rfl (lv_at hl 5 rfl) ?_
  refine lv_iload hx hb d_La_law_1171 (lv_at hl 1 rfl) ?_
  refine lv_iconst (v := nI 3) hx hb d_La_law_1173 (by decide) ?_
  refine lv_iadd hx hb d_La_law_1174 ?_
  refine hw_ti (nI_add _ _) ?_
  refine va_sld hx hb hX hbl hbA hI.2.2.1 (vp_in_nI (show i + 3 < Ls by omega) (by omega)) d_La_law_1175 ?_
  refine hw_ti (show _ = xs (i + 3) from by rw [nI_clamp (by omega)]) ?_
  refine hw_cV (As := [.int (xs (i + 1)), .int (xs (i + 2)), .int (xs (i + 3))]) (rest := []) S hI m_Mo_modulo w_960 (c_Mo_modulo l D t0 L _ _ mm mc ml mg mw mr th σ wt (xs (i + 1)) (xs (i + 2)) (xs (i + 3)) hM hok) hM.mmc rfl hl.1 rfl rfl (Nat.le_of_ble_eq_true rfl) d_La_law_1176 ⟨Nat.le_of_ble_eq_true rfl, Nat.le_of_ble_eq_true rfl⟩ ⟨hc, hs⟩ (fun v9 L9 f150 H locs hp hI => ?_)
  refine W.cs (cells' := cells + 1) (slots' := slots + 6) rfl rfl ?_
  obtain ⟨hv9, rfl, hM, hF2⟩ := hp
  cases hv9
  refine hw_stk (st' := [.int ((aMod σ (xs (i + 1)) (xs (i + 2)) (xs (i + 3))).getD 0)]) rfl ?_
  have hS := hS.keep (f' := f150) (fun q hq => ⟨hS.mem q hq, hF2 q (hG.2.1 q hq).1⟩)
  have hao := hw_c.fr hao (hF2 ao hG.2.2)
  refine lv_istore (lv' := [(6, .int ((aMod σ (xs (i + 1)) (xs (i + 2)) (xs (i + 3))).getD 0)), (5, .int (nI (if (aMod σ (xs (i + 1)) (xs (i + 2)) (xs (i + 3))).isSome then 0 else 1))), (4, .int (nI i)), (3, .ref (ao)), (2, .ref (mm)), (1, .ref (wf)), (0, .ref (b))]) hx hb d_La_law_1179 hl (by decide) rfl (fun ls hl => ?_)
  refine lv_aload_n hx hb d_La_law_1181 rfl (lv_at hl 4 rfl) ?_
  refine hw_cV (As := []) (rest := []) S hI m_Mo_thrown w_790 (c_Mo_thrown l D t0 L _ _ mm mc ml mg mw mr _ _ _ hM) hM.mmc rfl hl.1 rfl rfl (Nat.le_of_ble_eq_true rfl) d_La_law_1182 ⟨Nat.le_of_ble_eq_true rfl, Nat.le_of_ble_eq_true rfl⟩ ⟨hc, hs⟩ (fun v9 L9 f151 H locs hp hI => ?_)
  refine W.cs (cells' := cells + 1) (slots' := slots + 6) rfl rfl ?_
  obtain ⟨hv9, rfl, rfl⟩ := hp
  cases hv9
  refine hw_stk (st' := [.int (nI (if (aMod σ (xs (i + 1)) (xs (i + 2)) (xs (i + 3))).isSome then 0 else 1))]) rfl ?_
  refine lv_iload hx hb d_La_law_1185 (lv_at hl 1 rfl) ?_
  refine lv_icmp_eq (tgt := 1192) hx hb d_La_law_1187 (by decide) (fun _ => ?_) (fun c9 => absurd rfl c9)
  refine lv_iload hx hb d_La_law_1192 (lv_at hl 1 rfl) ?_
  refine lv_if_ne (tgt := 1209) hx hb d_La_law_1194 (by decide) (fun _ => ?_) (fun c9 => ?_)
  · refine lv_goto (tgt := 1340) hx hb d_La_law_1209 (by decide) ?_
    exact kk _ _ _ _ _ _ ⟨hI, hS, ⟨_, hM⟩, ⟨_, hao⟩, hok⟩ (lv_sub hl [2, 3, 4, 5, 6] rfl)
  · obtain ⟨v0, hv0⟩ : ∃ v0, aMod σ (xs (i + 1)) (xs (i + 2)) (xs (i + 3)) = some v0 := by cases h0 : aMod σ (xs (i + 1)) (xs (i + 2)) (xs (i + 3)) with | none => rw [h0] at c9; exact absurd c9 (by decide) | some v0 => exact ⟨v0, rfl⟩
    have hv : g2 0 = Int32.toInt64 ((aMod σ (xs (i + 1)) (xs (i + 2)) (xs (i + 3))).getD 0) := by rw [hg2 v0 hv0, hv0]; rfl
    refine lv_aload_n hx hb d_La_law_1197 rfl (lv_at hl 3 rfl) ?_
    refine lv_iconst (v := nI 0) hx hb d_La_law_1198 (by decide) ?_
    refine hw_lald S.1 S.2.1 hI 0 hao rfl (vp_in_nI (show 0 < 1 by decide) (by decide)) d_La_law_1199 ?_
    refine hw_tl (show _ = g2 0 from rfl) ?_
    refine lv_iload hx hb d_La_law_1200 (lv_at hl 0 rfl) ?_
    refine lv_i2l hx hb d_La_law_1202 rfl ?_
    refine hw_l_eq (tgt := 1209) hx hb d_La_law_1203 d_La_law_1204 (by decide) (fun _ => ?_) (fun c8 => absurd hv c8)
    refine lv_goto (tgt := 1340) hx hb d_La_law_1209 (by decide) ?_
    exact kk _ _ _ _ _ _ ⟨hI, hS, ⟨_, hM⟩, ⟨_, hao⟩, hok⟩ (lv_sub hl [2, 3, 4, 5, 6] rfl)
set_option maxHeartbeats 4000000 in
set_option maxRecDepth 100000 in
theorem k_weight {p : Program} {l : Launch} {e : Env} {s : State} {m : MethodId} {below : List Frame} {meth : Method} {c : Code} {b Ls : Nat} {xs : Nat → Int32} {D : va_G} {t0 : Nat} {L : List Nat} {f : Nat → va_E} {H : Heap} {locs : List Loc} {cells slots : Nat} {Q : State → Prop} {ls : Array Slot} {o r fr : Nat → Nat} {ad al ab am ak ah aw ar rg wf mm mc ml mg mw mr ao : Nat} {σ : Sg} {wt : Nat → Nat} {i : Nat} (hlt : l.stackTraces = false) (S : CallFix p m c code 7 s #[Value.ref b] TT "WallFractionsLaw") (hX : va_X b Ls xs s s.heap) (hbl : b < s.heap.size) (hG : LG o r fr ad al ab am ak ah aw ar rg wf mm mc ml mg mw mr ao) (h9 : LI D t0 s L f H locs o r fr ad al ab am ak ah aw ar rg wf mm mc ml mg mw mr ao σ wt) (hi : i + 6 ≤ Ls) (hLs : Ls ≤ 3072) (hc : cells + 1 ≤ 601024) (hs : slots + 6 ≤ 7293034) (hl : lv_has ls 7 [(4, .int (nI i)), (3, .ref (ao)), (2, .ref (mm)), (1, .ref (wf)), (0, .ref (b))]) (kk : ∀ (f2 : Nat → va_E) (H2 : Heap) (locs2 : List Loc) (ls2 : Array Slot) (σ2 : Sg) (wt2 : Nat → Nat), LI D t0 s L f2 H2 locs2 o r fr ad al ab am ak ah aw ar rg wf mm mc ml mg mw mr ao σ2 wt2 → lv_has ls2 7 [(4, .int (nI i)), (3, .ref (ao)), (2, .ref (mm)), (1, .ref (wf)), (0, .ref (b))] → W p l e room_1 s m #[Value.ref b] below meth c H2 locs2 (cells + 1) (slots + 6) Q (F0 m 1340 ls2 [])) : W p l e room_1 s m #[Value.ref b] below meth c H locs cells slots Q (F0 m 1212 ls []) := by
  have hx := S.1
  have hb := S.2.1
  have hown := S.2.2.2.1
  have hT := S.2.2.2.2
  obtain ⟨hI, hS, ⟨th, hM⟩, ⟨g, hao⟩, hok⟩ := h9
  have hbA : ¬ hw_A [] s.heap.size b := fun h => h.elim (fun q => absurd q List.not_mem_nil) (fun q => by omega)
  have hna : ¬ Al o r fr ad al ab am ak ah aw ar rg wf ao := fun h => (hG.2.1 ao h).2 rfl
  have hno : ¬ Own o r fr ad al ab am ak ah aw ar rg wf ao := fun h => hna (Or.inl h)
  refine lv_aload_n hx hb d_La_law_1212 rfl (lv_at hl 3 rfl) ?_
  refine lv_aload_n hx hb d_La_law_1213 rfl (lv_at hl 4 rfl) ?_
  refine lv_iload hx hb d_La_law_1214 (lv_at hl 0 rfl) ?_
  refine lv_iconst (v := nI 1) hx hb d_La_law_1216 (by decide) ?_
  refine lv_iadd hx hb d_La_law_1217 ?_
  refine hw_ti (nI_add _ _) ?_
  refine va_sld hx hb hX hbl hbA hI.2.2.1 (vp_in_nI (show i + 1 < Ls by omega) (by omega)) d_La_law_1218 ?_
  refine hw_ti (show _ = xs (i + 1) from by rw [nI_clamp (by omega)]) ?_
  refine lv_aload_n hx hb d_La_law_1219 rfl (lv_at hl 4 rfl) ?_
  refine lv_iload hx hb d_La_law_1220 (lv_at hl 0 rfl) ?_
  refine lv_iconst (v := nI 2) hx hb d_La_law_1222 (by decide) ?_
  refine lv_iadd hx hb d_La_law_1223 ?_
  refine hw_ti (nI_add _ _) ?_
  refine va_sld hx hb hX hbl hbA hI.2.2.1 (vp_in_nI (show i + 2 < Ls by omega) (by omega)) d_La_law_1224 ?_
  refine hw_ti (show _ = xs (i + 2) from by rw [nI_clamp (by omega)]) ?_
  refine lv_aload_n hx hb d_La_law_1225 rfl (lv_at hl 1 rfl) ?_
  refine hw_xW (As := [.ref (wf), .int (xs (i + 1)), .int (xs (i + 2)), .ref (ao)]) (rest := []) S hI m_La_weight w_721 (c_La_weight l hlt D t0 L _ _ o r fr ad al ab am ak ah aw ar rg wf σ wt (xs (i + 1)) (xs (i + 2)) ao g hG.1 hS hok hao hna) hl.1 rfl rfl (Nat.le_of_ble_eq_true rfl) d_La_law_1226 ⟨Nat.le_of_ble_eq_true rfl, Nat.le_of_ble_eq_true rfl⟩ ⟨hc, hs⟩ (fun v9 L9 f152 H locs hp hI => ?_)
  refine W.cs (cells' := cells + 1) (slots' := slots + 6) rfl rfl ?_
  obtain ⟨hv9, rfl, hS, ⟨g2, hao, hg2⟩, hF⟩ := hp
  cases hv9
  refine hw_stk (st' := [.int (nI (if (aWgt wt (xs (i + 1)) (xs (i + 2))).isSome then 0 else 1))]) rfl ?_
  have hM := hM.keep (f' := f152) (fun q hq => ⟨hM.mem q hq, hF q (fun h => (hG.2.1 q (Or.inl h)).1 hq) (fun e => hG.2.2 (e ▸ hq))⟩)
  refine lv_istore (lv' := [(5, .int (nI (if (aWgt wt (xs (i + 1)) (xs (i + 2))).isSome then 0 else 1))), (4, .int (nI i)), (3, .ref (ao)), (2, .ref (mm)), (1, .ref (wf)), (0, .ref (b))]) hx hb d_La_law_1229 hl (by decide) rfl (fun ls hl => ?_)
  refine lv_aload_n hx hb d_La_law_1231 rfl (lv_at hl 3 rfl) ?_
  refine lv_aload_n hx hb d_La_law_1232 rfl (lv_at hl 5 rfl) ?_
  refine lv_iload hx hb d_La_law_1233 (lv_at hl 1 rfl) ?_
  refine lv_iconst (v := nI 1) hx hb d_La_law_1235 (by decide) ?_
  refine lv_iadd hx hb d_La_law_1236 ?_
  refine hw_ti (nI_add _ _) ?_
  refine va_sld hx hb hX hbl hbA hI.2.2.1 (vp_in_nI (show i + 1 < Ls by omega) (by omega)) d_La_law_1237 ?_
  refine hw_ti (show _ = xs (i + 1) from by rw [nI_clamp (by omega)]) ?_
  refine lv_aload_n hx hb d_La_law_1238 rfl (lv_at hl 5 rfl) ?_
  refine lv_iload hx hb d_La_law_1239 (lv_at hl 1 rfl) ?_
  refine lv_iconst (v := nI 2) hx hb d_La_law_1241 (by decide) ?_
  refine lv_iadd hx hb d_La_law_1242 ?_
  refine hw_ti (nI_add _ _) ?_
  refine va_sld hx hb hX hbl hbA hI.2.2.1 (vp_in_nI (show i + 2 < Ls by omega) (by omega)) d_La_law_1243 ?_
  refine hw_ti (show _ = xs (i + 2) from by rw [nI_clamp (by omega)]) ?_
  refine hw_cV (As := [.int (xs (i + 1)), .int (xs (i + 2))]) (rest := []) S hI m_Mo_weight w_964 (c_Mo_weight l D t0 L _ _ mm mc ml mg mw mr th σ wt (xs (i + 1)) (xs (i + 2)) hM hok) hM.mmc rfl hl.1 rfl rfl (Nat.le_of_ble_eq_true rfl) d_La_law_1244 ⟨Nat.le_of_ble_eq_true rfl, Nat.le_of_ble_eq_true rfl⟩ ⟨hc, hs⟩ (fun v9 L9 f153 H locs hp hI => ?_)
  refine W.cs (cells' := cells + 1) (slots' := slots + 6) rfl rfl ?_
  obtain ⟨hv9, rfl, hM, hF2⟩ := hp
  cases hv9
  refine hw_stk (st' := [.int ((aWgt wt (xs (i + 1)) (xs (i + 2))).getD 0)]) rfl ?_
  have hS := hS.keep (f' := f153) (fun q hq => ⟨hS.mem q hq, hF2 q (hG.2.1 q hq).1⟩)
  have hao := hw_c.fr hao (hF2 ao hG.2.2)
  refine lv_istore (lv' := [(6, .int ((aWgt wt (xs (i + 1)) (xs (i + 2))).getD 0)), (5, .int (nI (if (aWgt wt (xs (i + 1)) (xs (i + 2))).isSome then 0 else 1))), (4, .int (nI i)), (3, .ref (ao)), (2, .ref (mm)), (1, .ref (wf)), (0, .ref (b))]) hx hb d_La_law_1247 hl (by decide) rfl (fun ls hl => ?_)
  refine lv_aload_n hx hb d_La_law_1249 rfl (lv_at hl 4 rfl) ?_
  refine hw_cV (As := []) (rest := []) S hI m_Mo_thrown w_790 (c_Mo_thrown l D t0 L _ _ mm mc ml mg mw mr _ _ _ hM) hM.mmc rfl hl.1 rfl rfl (Nat.le_of_ble_eq_true rfl) d_La_law_1250 ⟨Nat.le_of_ble_eq_true rfl, Nat.le_of_ble_eq_true rfl⟩ ⟨hc, hs⟩ (fun v9 L9 f154 H locs hp hI => ?_)
  refine W.cs (cells' := cells + 1) (slots' := slots + 6) rfl rfl ?_
  obtain ⟨hv9, rfl, rfl⟩ := hp
  cases hv9
  refine hw_stk (st' := [.int (nI (if (aWgt wt (xs (i + 1)) (xs (i + 2))).isSome then 0 else 1))]) rfl ?_
  refine lv_iload hx hb d_La_law_1253 (lv_at hl 1 rfl) ?_
  refine lv_icmp_eq (tgt := 1260) hx hb d_La_law_1255 (by decide) (fun _ => ?_) (fun c9 => absurd rfl c9)
  refine lv_iload hx hb d_La_law_1260 (lv_at hl 1 rfl) ?_
  refine lv_if_ne (tgt := 1277) hx hb d_La_law_1262 (by decide) (fun _ => ?_) (fun c9 => ?_)
  · refine lv_goto (tgt := 1340) hx hb d_La_law_1277 (by decide) ?_
    exact kk _ _ _ _ _ _ ⟨hI, hS, ⟨_, hM⟩, ⟨_, hao⟩, nWgt_ok hok⟩ (lv_sub hl [2, 3, 4, 5, 6] rfl)
  · obtain ⟨v0, hv0⟩ : ∃ v0, aWgt wt (xs (i + 1)) (xs (i + 2)) = some v0 := by cases h0 : aWgt wt (xs (i + 1)) (xs (i + 2)) with | none => rw [h0] at c9; exact absurd c9 (by decide) | some v0 => exact ⟨v0, rfl⟩
    have hv : g2 0 = Int32.toInt64 ((aWgt wt (xs (i + 1)) (xs (i + 2))).getD 0) := by rw [hg2 v0 hv0, hv0]; rfl
    refine lv_aload_n hx hb d_La_law_1265 rfl (lv_at hl 3 rfl) ?_
    refine lv_iconst (v := nI 0) hx hb d_La_law_1266 (by decide) ?_
    refine hw_lald S.1 S.2.1 hI 0 hao rfl (vp_in_nI (show 0 < 1 by decide) (by decide)) d_La_law_1267 ?_
    refine hw_tl (show _ = g2 0 from rfl) ?_
    refine lv_iload hx hb d_La_law_1268 (lv_at hl 0 rfl) ?_
    refine lv_i2l hx hb d_La_law_1270 rfl ?_
    refine hw_l_eq (tgt := 1277) hx hb d_La_law_1271 d_La_law_1272 (by decide) (fun _ => ?_) (fun c8 => absurd hv c8)
    refine lv_goto (tgt := 1340) hx hb d_La_law_1277 (by decide) ?_
    exact kk _ _ _ _ _ _ ⟨hI, hS, ⟨_, hM⟩, ⟨_, hao⟩, nWgt_ok hok⟩ (lv_sub hl [2, 3, 4, 5, 6] rfl)

set_option maxHeartbeats 4000000 in
set_option maxRecDepth 100000 in
theorem lc_set {p : Program} {l : Launch} {e : Env} {s : State} {m : MethodId} {below : List Frame} {meth : Method} {c : Code} {H : Heap} {locs : List Loc} {Q : State → Prop} {ls : Array Slot} {G : wG} {Z : wZ} {b L j : Nat} {xs : Nat → Int32} {LR : wZ → Prop} (hC : wX p s m c cL_law #[Value.ref b] wsL_law RL G) (hml : c.maxLocals = 4) (hX : va_X b L xs s s.heap) (hbl : b < s.heap.size) (hbA : ¬ wA G b) (hL : L ≤ 2048) (hst : lS LR) (hLR : LR Z) (hj : j + 3 < L) (hW : wW G Z H) (hS : va_S (wA G) s.heap H locs) (hl : lv_has ls 4 [(3, .int (nI j)), (2, .ref (G.2.2.1 12 0)), (1, .ref (G.2.2.1 11 0)), (0, .ref b)]) (kk : ∀ (Z' : wZ) (H1 : Heap) (locs1 : List Loc), LR Z' → wW G Z' H1 → va_S (wA G) s.heap H1 locs1 → W p l e room_1 s m #[Value.ref b] below meth c H1 locs1 169 2451 Q (F0 m 850 ls [])) : W p l e room_1 s m #[Value.ref b] below meth c H locs 169 2451 Q (F0 m 152 ls []) := by
  have hx := hC.1
  have hb := hC.2.1
  have hts := hC.2.2.2.1
  obtain ⟨⟨M4, M, hI⟩, hkn, hln⟩ := hst.1 Z hLR
  refine lv_aload_n hx hb dL_law_152 rfl (lv_at hl 2 rfl) ?_
  refine lv_aload_n hx hb dL_law_153 rfl (lv_at hl 3 rfl) ?_
  refine lv_iload_n hx hb dL_law_154 rfl (lv_at hl 0 rfl) ?_
  refine lv_iconst (v := 1) hx hb dL_law_155 (by decide) ?_
  refine lv_iadd hx hb dL_law_156 ?_
  refine lv_re (y := nI (j + 1)) (nI_add j 1) ?_
  refine va_sld hx hb hX hbl hbA hS (vp_in_nI (show j + 1 < L by omega) (by omega)) dL_law_157 ?_
  refine lv_re (y := xs (j + 1)) (congrArg xs (nI_clamp (show j + 1 < 2 ^ 31 by omega))) ?_
  refine lv_aload_n hx hb dL_law_158 rfl (lv_at hl 3 rfl) ?_
  refine lv_iload_n hx hb dL_law_159 rfl (lv_at hl 0 rfl) ?_
  refine lv_iconst (v := 2) hx hb dL_law_160 (by decide) ?_
  refine lv_iadd hx hb dL_law_161 ?_
  refine lv_re (y := nI (j + 2)) (nI_add j 2) ?_
  refine va_sld hx hb hX hbl hbA hS (vp_in_nI (show j + 2 < L by omega) (by omega)) dL_law_162 ?_
  refine lv_re (y := xs (j + 2)) (congrArg xs (nI_clamp (show j + 2 < 2 ^ 31 by omega))) ?_
  have hs := hst.2.1 Z (xs (j + 1)) (xs (j + 2)) hLR
  refine wc_il hC hml (kX6_set l G Z (xs (j + 1)) (xs (j + 2))) (cwV 2 hts gL_law_X6_set rfl rfl rfl (by decide +kernel) ⟨Nat.le_of_ble_eq_true rfl, Nat.le_of_ble_eq_true rfl⟩) hW hS (vS (by decide)) we_s0 rfl rfl rfl rfl hl.1 (Nat.le_of_ble_eq_true rfl) ⟨Nat.le_of_ble_eq_true rfl, Nat.le_of_ble_eq_true rfl⟩ dL_law_163 (fun H locs hW hS => ?_)
  obtain ⟨q, eq⟩ : ∃ q : wZ × Int32, q = (fX6_set Z (xs (j + 1)) (xs (j + 2))) := ⟨_, rfl⟩
  rw [← eq] at hs
  have hW : wW G q.1 H := by rw [eq]; exact hW
  refine lv_re (y := q.2) (by rw [eq]) ?_
  obtain ⟨h12, han, hnx⟩ := hs
  have hW : wW G (wset q.1 12 (Z 12)) H := by rw [← h12, wset_self]; exact hW
  refine lv_aload_n hx hb dL_law_166 rfl (lv_at hl 1 rfl) ?_
  refine lv_aload_n hx hb dL_law_167 rfl (lv_at hl 3 rfl) ?_
  refine lv_iload_n hx hb dL_law_168 rfl (lv_at hl 0 rfl) ?_
  refine lv_iconst (v := 1) hx hb dL_law_169 (by decide) ?_
  refine lv_iadd hx hb dL_law_170 ?_
  refine lv_re (y := nI (j + 1)) (nI_add j 1) ?_
  refine va_sld hx hb hX hbl hbA hS (vp_in_nI (show j + 1 < L by omega) (by omega)) dL_law_171 ?_
  refine lv_re (y := xs (j + 1)) (congrArg xs (nI_clamp (show j + 1 < 2 ^ 31 by omega))) ?_
  refine lv_aload_n hx hb dL_law_172 rfl (lv_at hl 3 rfl) ?_
  refine lv_iload_n hx hb dL_law_173 rfl (lv_at hl 0 rfl) ?_
  refine lv_iconst (v := 2) hx hb dL_law_174 (by decide) ?_
  refine lv_iadd hx hb dL_law_175 ?_
  refine lv_re (y := nI (j + 2)) (nI_add j 2) ?_
  refine va_sld hx hb hX hbl hbA hS (vp_in_nI (show j + 2 < L by omega) (by omega)) dL_law_176 ?_
  refine lv_re (y := xs (j + 2)) (congrArg xs (nI_clamp (show j + 2 < 2 ^ 31 by omega))) ?_
  refine wc_il hC hml (kX7_set l G q.1 (Z 12) (xs (j + 1)) (xs (j + 2)) hkn) (cwV 2 hts gL_law_X7_set rfl rfl rfl (by decide +kernel) ⟨Nat.le_of_ble_eq_true rfl, Nat.le_of_ble_eq_true rfl⟩) hW hS (vM (by decide)) ce_m0 rfl rfl rfl rfl hl.1 (Nat.le_of_ble_eq_true rfl) ⟨Nat.le_of_ble_eq_true rfl, Nat.le_of_ble_eq_true rfl⟩ dL_law_177 (fun H locs hW hS => ?_)
  refine lv_icmp_eq (tgt := 850) hx hb dL_law_180 (by decide) (fun _ => ?_) (fun c9 => ?_)
  · exact kk _ H locs hnx hW hS
  · exact absurd han c9
set_option maxHeartbeats 4000000 in
set_option maxRecDepth 100000 in
theorem lc_shaft {p : Program} {l : Launch} {e : Env} {s : State} {m : MethodId} {below : List Frame} {meth : Method} {c : Code} {H : Heap} {locs : List Loc} {Q : State → Prop} {ls : Array Slot} {G : wG} {Z : wZ} {b L j : Nat} {xs : Nat → Int32} {LR : wZ → Prop} (hC : wX p s m c cL_law #[Value.ref b] wsL_law RL G) (hml : c.maxLocals = 4) (hX : va_X b L xs s s.heap) (hbl : b < s.heap.size) (hbA : ¬ wA G b) (hL : L ≤ 2048) (hst : lS LR) (hLR : LR Z) (hj : j + 3 < L) (hW : wW G Z H) (hS : va_S (wA G) s.heap H locs) (hl : lv_has ls 4 [(3, .int (nI j)), (2, .ref (G.2.2.1 12 0)), (1, .ref (G.2.2.1 11 0)), (0, .ref b)]) (kk : ∀ (Z' : wZ) (H1 : Heap) (locs1 : List Loc), LR Z' → wW G Z' H1 → va_S (wA G) s.heap H1 locs1 → W p l e room_1 s m #[Value.ref b] below meth c H1 locs1 169 2451 Q (F0 m 850 ls [])) : W p l e room_1 s m #[Value.ref b] below meth c H locs 169 2451 Q (F0 m 185 ls []) := by
  have hx := hC.1
  have hb := hC.2.1
  have hts := hC.2.2.2.1
  obtain ⟨⟨M4, M, hI⟩, hkn, hln⟩ := hst.1 Z hLR
  refine lv_aload_n hx hb dL_law_185 rfl (lv_at hl 2 rfl) ?_
  refine lv_aload_n hx hb dL_law_186 rfl (lv_at hl 3 rfl) ?_
  refine lv_iload_n hx hb dL_law_187 rfl (lv_at hl 0 rfl) ?_
  refine lv_iconst (v := 1) hx hb dL_law_188 (by decide) ?_
  refine lv_iadd hx hb dL_law_189 ?_
  refine lv_re (y := nI (j + 1)) (nI_add j 1) ?_
  refine va_sld hx hb hX hbl hbA hS (vp_in_nI (show j + 1 < L by omega) (by omega)) dL_law_190 ?_
  refine lv_re (y := xs (j + 1)) (congrArg xs (nI_clamp (show j + 1 < 2 ^ 31 by omega))) ?_
  have hs := hst.2.2.1 Z (xs (j + 1)) hLR
  refine wc_il hC hml (kX6_shaft l G Z (xs (j + 1))) (cwV 1 hts gL_law_X6_shaft rfl rfl rfl (by decide +kernel) ⟨Nat.le_of_ble_eq_true rfl, Nat.le_of_ble_eq_true rfl⟩) hW hS (vS (by decide)) we_s0 rfl rfl rfl rfl hl.1 (Nat.le_of_ble_eq_true rfl) ⟨Nat.le_of_ble_eq_true rfl, Nat.le_of_ble_eq_true rfl⟩ dL_law_191 (fun H locs hW hS => ?_)
  obtain ⟨q, eq⟩ : ∃ q : wZ × Int32, q = (fX6_shaft Z (xs (j + 1))) := ⟨_, rfl⟩
  rw [← eq] at hs
  have hW : wW G q.1 H := by rw [eq]; exact hW
  refine lv_re (y := q.2) (by rw [eq]) ?_
  obtain ⟨h12, han, hnx⟩ := hs
  have hW : wW G (wset q.1 12 (Z 12)) H := by rw [← h12, wset_self]; exact hW
  refine lv_aload_n hx hb dL_law_194 rfl (lv_at hl 1 rfl) ?_
  refine lv_aload_n hx hb dL_law_195 rfl (lv_at hl 3 rfl) ?_
  refine lv_iload_n hx hb dL_law_196 rfl (lv_at hl 0 rfl) ?_
  refine lv_iconst (v := 1) hx hb dL_law_197 (by decide) ?_
  refine lv_iadd hx hb dL_law_198 ?_
  refine lv_re (y := nI (j + 1)) (nI_add j 1) ?_
  refine va_sld hx hb hX hbl hbA hS (vp_in_nI (show j + 1 < L by omega) (by omega)) dL_law_199 ?_
  refine lv_re (y := xs (j + 1)) (congrArg xs (nI_clamp (show j + 1 < 2 ^ 31 by omega))) ?_
  refine wc_il hC hml (kX7_shaft l G q.1 (Z 12) (xs (j + 1)) M M4 hI hkn) (cwV 1 hts gL_law_X7_shaft rfl rfl rfl (by decide +kernel) ⟨Nat.le_of_ble_eq_true rfl, Nat.le_of_ble_eq_true rfl⟩) hW hS (vM (by decide)) ce_m0 rfl rfl rfl rfl hl.1 (Nat.le_of_ble_eq_true rfl) ⟨Nat.le_of_ble_eq_true rfl, Nat.le_of_ble_eq_true rfl⟩ dL_law_200 (fun H locs hW hS => ?_)
  refine lv_icmp_eq (tgt := 850) hx hb dL_law_203 (by decide) (fun _ => ?_) (fun c9 => ?_)
  · exact kk _ H locs hnx hW hS
  · exact absurd han c9
set_option maxHeartbeats 4000000 in
set_option maxRecDepth 100000 in
theorem lc_load {p : Program} {l : Launch} {e : Env} {s : State} {m : MethodId} {below : List Frame} {meth : Method} {c : Code} {H : Heap} {locs : List Loc} {Q : State → Prop} {ls : Array Slot} {G : wG} {Z : wZ} {b L j : Nat} {xs : Nat → Int32} {LR : wZ → Prop} (hC : wX p s m c cL_law #[Value.ref b] wsL_law RL G) (hml : c.maxLocals = 4) (hX : va_X b L xs s s.heap) (hbl : b < s.heap.size) (hbA : ¬ wA G b) (hL : L ≤ 2048) (hst : lS LR) (hLR : LR Z) (hj : j + 3 < L) (hW : wW G Z H) (hS : va_S (wA G) s.heap H locs) (hl : lv_has ls 4 [(3, .int (nI j)), (2, .ref (G.2.2.1 12 0)), (1, .ref (G.2.2.1 11 0)), (0, .ref b)]) (kk : ∀ (Z' : wZ) (H1 : Heap) (locs1 : List Loc), LR Z' → wW G Z' H1 → va_S (wA G) s.heap H1 locs1 → W p l e room_1 s m #[Value.ref b] below meth c H1 locs1 169 2451 Q (F0 m 850 ls [])) : W p l e room_1 s m #[Value.ref b] below meth c H locs 169 2451 Q (F0 m 208 ls []) := by
  have hx := hC.1
  have hb := hC.2.1
  have hts := hC.2.2.2.1
  obtain ⟨⟨M4, M, hI⟩, hkn, hln⟩ := hst.1 Z hLR
  refine lv_aload_n hx hb dL_law_208 rfl (lv_at hl 2 rfl) ?_
  refine lv_aload_n hx hb dL_law_209 rfl (lv_at hl 3 rfl) ?_
  refine lv_iload_n hx hb dL_law_210 rfl (lv_at hl 0 rfl) ?_
  refine lv_iconst (v := 1) hx hb dL_law_211 (by decide) ?_
  refine lv_iadd hx hb dL_law_212 ?_
  refine lv_re (y := nI (j + 1)) (nI_add j 1) ?_
  refine va_sld hx hb hX hbl hbA hS (vp_in_nI (show j + 1 < L by omega) (by omega)) dL_law_213 ?_
  refine lv_re (y := xs (j + 1)) (congrArg xs (nI_clamp (show j + 1 < 2 ^ 31 by omega))) ?_
  refine lv_aload_n hx hb dL_law_214 rfl (lv_at hl 3 rfl) ?_
  refine lv_iload_n hx hb dL_law_215 rfl (lv_at hl 0 rfl) ?_
  refine lv_iconst (v := 2) hx hb dL_law_216 (by decide) ?_
  refine lv_iadd hx hb dL_law_217 ?_
  refine lv_re (y := nI (j + 2)) (nI_add j 2) ?_
  refine va_sld hx hb hX hbl hbA hS (vp_in_nI (show j + 2 < L by omega) (by omega)) dL_law_218 ?_
  refine lv_re (y := xs (j + 2)) (congrArg xs (nI_clamp (show j + 2 < 2 ^ 31 by omega))) ?_
  have hs := hst.2.2.2.1 Z (xs (j + 1)) (xs (j + 2)) hLR
  refine wc_il hC hml (kX6_load l G Z (xs (j + 1)) (xs (j + 2))) (cwV 2 hts gL_law_X6_load rfl rfl rfl (by decide +kernel) ⟨Nat.le_of_ble_eq_true rfl, Nat.le_of_ble_eq_true rfl⟩) hW hS (vS (by decide)) we_s0 rfl rfl rfl rfl hl.1 (Nat.le_of_ble_eq_true rfl) ⟨Nat.le_of_ble_eq_true rfl, Nat.le_of_ble_eq_true rfl⟩ dL_law_219 (fun H locs hW hS => ?_)
  obtain ⟨q, eq⟩ : ∃ q : wZ × Int32, q = (fX6_load Z (xs (j + 1)) (xs (j + 2))) := ⟨_, rfl⟩
  rw [← eq] at hs
  have hW : wW G q.1 H := by rw [eq]; exact hW
  refine lv_re (y := q.2) (by rw [eq]) ?_
  obtain ⟨h12, han, hnx⟩ := hs
  have hW : wW G (wset q.1 12 (Z 12)) H := by rw [← h12, wset_self]; exact hW
  refine lv_aload_n hx hb dL_law_222 rfl (lv_at hl 1 rfl) ?_
  refine lv_aload_n hx hb dL_law_223 rfl (lv_at hl 3 rfl) ?_
  refine lv_iload_n hx hb dL_law_224 rfl (lv_at hl 0 rfl) ?_
  refine lv_iconst (v := 1) hx hb dL_law_225 (by decide) ?_
  refine lv_iadd hx hb dL_law_226 ?_
  refine lv_re (y := nI (j + 1)) (nI_add j 1) ?_
  refine va_sld hx hb hX hbl hbA hS (vp_in_nI (show j + 1 < L by omega) (by omega)) dL_law_227 ?_
  refine lv_re (y := xs (j + 1)) (congrArg xs (nI_clamp (show j + 1 < 2 ^ 31 by omega))) ?_
  refine lv_aload_n hx hb dL_law_228 rfl (lv_at hl 3 rfl) ?_
  refine lv_iload_n hx hb dL_law_229 rfl (lv_at hl 0 rfl) ?_
  refine lv_iconst (v := 2) hx hb dL_law_230 (by decide) ?_
  refine lv_iadd hx hb dL_law_231 ?_
  refine lv_re (y := nI (j + 2)) (nI_add j 2) ?_
  refine va_sld hx hb hX hbl hbA hS (vp_in_nI (show j + 2 < L by omega) (by omega)) dL_law_232 ?_
  refine lv_re (y := xs (j + 2)) (congrArg xs (nI_clamp (show j + 2 < 2 ^ 31 by omega))) ?_
  refine wc_il hC hml (kX7_load l G q.1 (Z 12) (xs (j + 1)) (xs (j + 2)) M M4 hI hkn) (cwV 2 hts gL_law_X7_load rfl rfl rfl (by decide +kernel) ⟨Nat.le_of_ble_eq_true rfl, Nat.le_of_ble_eq_true rfl⟩) hW hS (vM (by decide)) ce_m0 rfl rfl rfl rfl hl.1 (Nat.le_of_ble_eq_true rfl) ⟨Nat.le_of_ble_eq_true rfl, Nat.le_of_ble_eq_true rfl⟩ dL_law_233 (fun H locs hW hS => ?_)
  refine lv_icmp_eq (tgt := 850) hx hb dL_law_236 (by decide) (fun _ => ?_) (fun c9 => ?_)
  · exact kk _ H locs hnx hW hS
  · exact absurd han c9
set_option maxHeartbeats 4000000 in
set_option maxRecDepth 100000 in
theorem lc_move {p : Program} {l : Launch} {e : Env} {s : State} {m : MethodId} {below : List Frame} {meth : Method} {c : Code} {H : Heap} {locs : List Loc} {Q : State → Prop} {ls : Array Slot} {G : wG} {Z : wZ} {b L j : Nat} {xs : Nat → Int32} {LR : wZ → Prop} (hC : wX p s m c cL_law #[Value.ref b] wsL_law RL G) (hml : c.maxLocals = 4) (hX : va_X b L xs s s.heap) (hbl : b < s.heap.size) (hbA : ¬ wA G b) (hL : L ≤ 2048) (hst : lS LR) (hLR : LR Z) (hj : j + 3 < L) (hW : wW G Z H) (hS : va_S (wA G) s.heap H locs) (hl : lv_has ls 4 [(3, .int (nI j)), (2, .ref (G.2.2.1 12 0)), (1, .ref (G.2.2.1 11 0)), (0, .ref b)]) (kk : ∀ (Z' : wZ) (H1 : Heap) (locs1 : List Loc), LR Z' → wW G Z' H1 → va_S (wA G) s.heap H1 locs1 → W p l e room_1 s m #[Value.ref b] below meth c H1 locs1 169 2451 Q (F0 m 850 ls [])) : W p l e room_1 s m #[Value.ref b] below meth c H locs 169 2451 Q (F0 m 241 ls []) := by
  have hx := hC.1
  have hb := hC.2.1
  have hts := hC.2.2.2.1
  obtain ⟨⟨M4, M, hI⟩, hkn, hln⟩ := hst.1 Z hLR
  refine lv_aload_n hx hb dL_law_241 rfl (lv_at hl 2 rfl) ?_
  refine lv_aload_n hx hb dL_law_242 rfl (lv_at hl 3 rfl) ?_
  refine lv_iload_n hx hb dL_law_243 rfl (lv_at hl 0 rfl) ?_
  refine lv_iconst (v := 1) hx hb dL_law_244 (by decide) ?_
  refine lv_iadd hx hb dL_law_245 ?_
  refine lv_re (y := nI (j + 1)) (nI_add j 1) ?_
  refine va_sld hx hb hX hbl hbA hS (vp_in_nI (show j + 1 < L by omega) (by omega)) dL_law_246 ?_
  refine lv_re (y := xs (j + 1)) (congrArg xs (nI_clamp (show j + 1 < 2 ^ 31 by omega))) ?_
  refine lv_aload_n hx hb dL_law_247 rfl (lv_at hl 3 rfl) ?_
  refine lv_iload_n hx hb dL_law_248 rfl (lv_at hl 0 rfl) ?_
  refine lv_iconst (v := 2) hx hb dL_law_249 (by decide) ?_
  refine lv_iadd hx hb dL_law_250 ?_
  refine lv_re (y := nI (j + 2)) (nI_add j 2) ?_
  refine va_sld hx hb hX hbl hbA hS (vp_in_nI (show j + 2 < L by omega) (by omega)) dL_law_251 ?_
  refine lv_re (y := xs (j + 2)) (congrArg xs (nI_clamp (show j + 2 < 2 ^ 31 by omega))) ?_
  have hs := hst.2.2.2.2.1 Z (xs (j + 1)) (xs (j + 2)) hLR
  refine wc_il hC hml (kX6_move l G Z (xs (j + 1)) (xs (j + 2))) (cwV 2 hts gL_law_X6_move rfl rfl rfl (by decide +kernel) ⟨Nat.le_of_ble_eq_true rfl, Nat.le_of_ble_eq_true rfl⟩) hW hS (vS (by decide)) we_s0 rfl rfl rfl rfl hl.1 (Nat.le_of_ble_eq_true rfl) ⟨Nat.le_of_ble_eq_true rfl, Nat.le_of_ble_eq_true rfl⟩ dL_law_252 (fun H locs hW hS => ?_)
  obtain ⟨q, eq⟩ : ∃ q : wZ × Int32, q = (fX6_move Z (xs (j + 1)) (xs (j + 2))) := ⟨_, rfl⟩
  rw [← eq] at hs
  have hW : wW G q.1 H := by rw [eq]; exact hW
  refine lv_re (y := q.2) (by rw [eq]) ?_
  obtain ⟨h12, han, hnx⟩ := hs
  have hW : wW G (wset q.1 12 (Z 12)) H := by rw [← h12, wset_self]; exact hW
  refine lv_aload_n hx hb dL_law_255 rfl (lv_at hl 1 rfl) ?_
  refine lv_aload_n hx hb dL_law_256 rfl (lv_at hl 3 rfl) ?_
  refine lv_iload_n hx hb dL_law_257 rfl (lv_at hl 0 rfl) ?_
  refine lv_iconst (v := 1) hx hb dL_law_258 (by decide) ?_
  refine lv_iadd hx hb dL_law_259 ?_
  refine lv_re (y := nI (j + 1)) (nI_add j 1) ?_
  refine va_sld hx hb hX hbl hbA hS (vp_in_nI (show j + 1 < L by omega) (by omega)) dL_law_260 ?_
  refine lv_re (y := xs (j + 1)) (congrArg xs (nI_clamp (show j + 1 < 2 ^ 31 by omega))) ?_
  refine lv_aload_n hx hb dL_law_261 rfl (lv_at hl 3 rfl) ?_
  refine lv_iload_n hx hb dL_law_262 rfl (lv_at hl 0 rfl) ?_
  refine lv_iconst (v := 2) hx hb dL_law_263 (by decide) ?_
  refine lv_iadd hx hb dL_law_264 ?_
  refine lv_re (y := nI (j + 2)) (nI_add j 2) ?_
  refine va_sld hx hb hX hbl hbA hS (vp_in_nI (show j + 2 < L by omega) (by omega)) dL_law_265 ?_
  refine lv_re (y := xs (j + 2)) (congrArg xs (nI_clamp (show j + 2 < 2 ^ 31 by omega))) ?_
  refine wc_il hC hml (kX7_move l G q.1 (Z 12) (xs (j + 1)) (xs (j + 2)) M M4 hI hkn) (cwV 2 hts gL_law_X7_move rfl rfl rfl (by decide +kernel) ⟨Nat.le_of_ble_eq_true rfl, Nat.le_of_ble_eq_true rfl⟩) hW hS (vM (by decide)) ce_m0 rfl rfl rfl rfl hl.1 (Nat.le_of_ble_eq_true rfl) ⟨Nat.le_of_ble_eq_true rfl, Nat.le_of_ble_eq_true rfl⟩ dL_law_266 (fun H locs hW hS => ?_)
  refine lv_icmp_eq (tgt := 850) hx hb dL_law_269 (by decide) (fun _ => ?_) (fun c9 => ?_)
  · exact kk _ H locs hnx hW hS
  · exact absurd han c9
set_option maxHeartbeats 4000000 in
set_option maxRecDepth 100000 in
theorem lc_plan {p : Program} {l : Launch} {e : Env} {s : State} {m : MethodId} {below : List Frame} {meth : Method} {c : Code} {H : Heap} {locs : List Loc} {Q : State → Prop} {ls : Array Slot} {G : wG} {Z : wZ} {b L j : Nat} {xs : Nat → Int32} {LR : wZ → Prop} (hC : wX p s m c cL_law #[Value.ref b] wsL_law RL G) (hml : c.maxLocals = 4) (hX : va_X b L xs s s.heap) (hbl : b < s.heap.size) (hbA : ¬ wA G b) (hL : L ≤ 2048) (hst : lS LR) (hLR : LR Z) (hj : j + 3 < L) (hW : wW G Z H) (hS : va_S (wA G) s.heap H locs) (hl : lv_has ls 4 [(3, .int (nI j)), (2, .ref (G.2.2.1 12 0)), (1, .ref (G.2.2.1 11 0)), (0, .ref b)]) (kk : ∀ (Z' : wZ) (H1 : Heap) (locs1 : List Loc), LR Z' → wW G Z' H1 → va_S (wA G) s.heap H1 locs1 → W p l e room_1 s m #[Value.ref b] below meth c H1 locs1 169 2451 Q (F0 m 850 ls [])) : W p l e room_1 s m #[Value.ref b] below meth c H locs 169 2451 Q (F0 m 274 ls []) := by
  have hx := hC.1
  have hb := hC.2.1
  have hts := hC.2.2.2.1
  obtain ⟨⟨M4, M, hI⟩, hkn, hln⟩ := hst.1 Z hLR
  refine lv_aload_n hx hb dL_law_274 rfl (lv_at hl 2 rfl) ?_
  refine lv_aload_n hx hb dL_law_275 rfl (lv_at hl 3 rfl) ?_
  refine lv_iload_n hx hb dL_law_276 rfl (lv_at hl 0 rfl) ?_
  refine lv_iconst (v := 1) hx hb dL_law_277 (by decide) ?_
  refine lv_iadd hx hb dL_law_278 ?_
  refine lv_re (y := nI (j + 1)) (nI_add j 1) ?_
  refine va_sld hx hb hX hbl hbA hS (vp_in_nI (show j + 1 < L by omega) (by omega)) dL_law_279 ?_
  refine lv_re (y := xs (j + 1)) (congrArg xs (nI_clamp (show j + 1 < 2 ^ 31 by omega))) ?_
  refine lv_aload_n hx hb dL_law_280 rfl (lv_at hl 3 rfl) ?_
  refine lv_iload_n hx hb dL_law_281 rfl (lv_at hl 0 rfl) ?_
  refine lv_iconst (v := 2) hx hb dL_law_282 (by decide) ?_
  refine lv_iadd hx hb dL_law_283 ?_
  refine lv_re (y := nI (j + 2)) (nI_add j 2) ?_
  refine va_sld hx hb hX hbl hbA hS (vp_in_nI (show j + 2 < L by omega) (by omega)) dL_law_284 ?_
  refine lv_re (y := xs (j + 2)) (congrArg xs (nI_clamp (show j + 2 < 2 ^ 31 by omega))) ?_
  refine lv_aload_n hx hb dL_law_285 rfl (lv_at hl 3 rfl) ?_
  refine lv_iload_n hx hb dL_law_286 rfl (lv_at hl 0 rfl) ?_
  refine lv_iconst (v := 3) hx hb dL_law_287 (by decide) ?_
  refine lv_iadd hx hb dL_law_288 ?_
  refine lv_re (y := nI (j + 3)) (nI_add j 3) ?_
  refine va_sld hx hb hX hbl hbA hS (vp_in_nI (show j + 3 < L by omega) (by omega)) dL_law_289 ?_
  refine lv_re (y := xs (j + 3)) (congrArg xs (nI_clamp (show j + 3 < 2 ^ 31 by omega))) ?_
  have hs := hst.2.2.2.2.2.1 Z (xs (j + 1)) (xs (j + 2)) (xs (j + 3)) hLR
  refine wc_il hC hml (kX6_plan l G Z (xs (j + 1)) (xs (j + 2)) (xs (j + 3))) (cwV 3 hts gL_law_X6_plan rfl rfl rfl (by decide +kernel) ⟨Nat.le_of_ble_eq_true rfl, Nat.le_of_ble_eq_true rfl⟩) hW hS (vS (by decide)) we_s0 rfl rfl rfl rfl hl.1 (Nat.le_of_ble_eq_true rfl) ⟨Nat.le_of_ble_eq_true rfl, Nat.le_of_ble_eq_true rfl⟩ dL_law_290 (fun H locs hW hS => ?_)
  obtain ⟨q, eq⟩ : ∃ q : wZ × Int32, q = (fX6_plan Z (xs (j + 1)) (xs (j + 2)) (xs (j + 3))) := ⟨_, rfl⟩
  rw [← eq] at hs
  have hW : wW G q.1 H := by rw [eq]; exact hW
  refine lv_re (y := q.2) (by rw [eq]) ?_
  obtain ⟨h12, han, hnx⟩ := hs
  have hW : wW G (wset q.1 12 (Z 12)) H := by rw [← h12, wset_self]; exact hW
  refine lv_aload_n hx hb dL_law_293 rfl (lv_at hl 1 rfl) ?_
  refine lv_aload_n hx hb dL_law_294 rfl (lv_at hl 3 rfl) ?_
  refine lv_iload_n hx hb dL_law_295 rfl (lv_at hl 0 rfl) ?_
  refine lv_iconst (v := 1) hx hb dL_law_296 (by decide) ?_
  refine lv_iadd hx hb dL_law_297 ?_
  refine lv_re (y := nI (j + 1)) (nI_add j 1) ?_
  refine va_sld hx hb hX hbl hbA hS (vp_in_nI (show j + 1 < L by omega) (by omega)) dL_law_298 ?_
  refine lv_re (y := xs (j + 1)) (congrArg xs (nI_clamp (show j + 1 < 2 ^ 31 by omega))) ?_
  refine lv_aload_n hx hb dL_law_299 rfl (lv_at hl 3 rfl) ?_
  refine lv_iload_n hx hb dL_law_300 rfl (lv_at hl 0 rfl) ?_
  refine lv_iconst (v := 2) hx hb dL_law_301 (by decide) ?_
  refine lv_iadd hx hb dL_law_302 ?_
  refine lv_re (y := nI (j + 2)) (nI_add j 2) ?_
  refine va_sld hx hb hX hbl hbA hS (vp_in_nI (show j + 2 < L by omega) (by omega)) dL_law_303 ?_
  refine lv_re (y := xs (j + 2)) (congrArg xs (nI_clamp (show j + 2 < 2 ^ 31 by omega))) ?_
  refine lv_aload_n hx hb dL_law_304 rfl (lv_at hl 3 rfl) ?_
  refine lv_iload_n hx hb dL_law_305 rfl (lv_at hl 0 rfl) ?_
  refine lv_iconst (v := 3) hx hb dL_law_306 (by decide) ?_
  refine lv_iadd hx hb dL_law_307 ?_
  refine lv_re (y := nI (j + 3)) (nI_add j 3) ?_
  refine va_sld hx hb hX hbl hbA hS (vp_in_nI (show j + 3 < L by omega) (by omega)) dL_law_308 ?_
  refine lv_re (y := xs (j + 3)) (congrArg xs (nI_clamp (show j + 3 < 2 ^ 31 by omega))) ?_
  refine wc_il hC hml (kX7_plan l G q.1 (Z 12) (xs (j + 1)) (xs (j + 2)) (xs (j + 3)) M M4 hI hkn) (cwV 3 hts gL_law_X7_plan rfl rfl rfl (by decide +kernel) ⟨Nat.le_of_ble_eq_true rfl, Nat.le_of_ble_eq_true rfl⟩) hW hS (vM (by decide)) ce_m0 rfl rfl rfl rfl hl.1 (Nat.le_of_ble_eq_true rfl) ⟨Nat.le_of_ble_eq_true rfl, Nat.le_of_ble_eq_true rfl⟩ dL_law_309 (fun H locs hW hS => ?_)
  refine lv_icmp_eq (tgt := 850) hx hb dL_law_312 (by decide) (fun _ => ?_) (fun c9 => ?_)
  · exact kk _ H locs hnx hW hS
  · exact absurd han c9
set_option maxHeartbeats 4000000 in
set_option maxRecDepth 100000 in
theorem lc_stop {p : Program} {l : Launch} {e : Env} {s : State} {m : MethodId} {below : List Frame} {meth : Method} {c : Code} {H : Heap} {locs : List Loc} {Q : State → Prop} {ls : Array Slot} {G : wG} {Z : wZ} {b L j : Nat} {xs : Nat → Int32} {LR : wZ → Prop} (hC : wX p s m c cL_law #[Value.ref b] wsL_law RL G) (hml : c.maxLocals = 4) (hX : va_X b L xs s s.heap) (hbl : b < s.heap.size) (hbA : ¬ wA G b) (hL : L ≤ 2048) (hst : lS LR) (hLR : LR Z) (hj : j + 3 < L) (hW : wW G Z H) (hS : va_S (wA G) s.heap H locs) (hl : lv_has ls 4 [(3, .int (nI j)), (2, .ref (G.2.2.1 12 0)), (1, .ref (G.2.2.1 11 0)), (0, .ref b)]) (kk : ∀ (Z' : wZ) (H1 : Heap) (locs1 : List Loc), LR Z' → wW G Z' H1 → va_S (wA G) s.heap H1 locs1 → W p l e room_1 s m #[Value.ref b] below meth c H1 locs1 169 2451 Q (F0 m 850 ls [])) : W p l e room_1 s m #[Value.ref b] below meth c H locs 169 2451 Q (F0 m 317 ls []) := by
  have hx := hC.1
  have hb := hC.2.1
  have hts := hC.2.2.2.1
  obtain ⟨⟨M4, M, hI⟩, hkn, hln⟩ := hst.1 Z hLR
  refine lv_aload_n hx hb dL_law_317 rfl (lv_at hl 2 rfl) ?_
  refine lv_aload_n hx hb dL_law_318 rfl (lv_at hl 3 rfl) ?_
  refine lv_iload_n hx hb dL_law_319 rfl (lv_at hl 0 rfl) ?_
  refine lv_iconst (v := 1) hx hb dL_law_320 (by decide) ?_
  refine lv_iadd hx hb dL_law_321 ?_
  refine lv_re (y := nI (j + 1)) (nI_add j 1) ?_
  refine va_sld hx hb hX hbl hbA hS (vp_in_nI (show j + 1 < L by omega) (by omega)) dL_law_322 ?_
  refine lv_re (y := xs (j + 1)) (congrArg xs (nI_clamp (show j + 1 < 2 ^ 31 by omega))) ?_
  have hs := hst.2.2.2.2.2.2.1 Z (xs (j + 1)) hLR
  refine wc_il hC hml (kX6_stop l G Z (xs (j + 1))) (cwV 1 hts gL_law_X6_stop rfl rfl rfl (by decide +kernel) ⟨Nat.le_of_ble_eq_true rfl, Nat.le_of_ble_eq_true rfl⟩) hW hS (vS (by decide)) we_s0 rfl rfl rfl rfl hl.1 (Nat.le_of_ble_eq_true rfl) ⟨Nat.le_of_ble_eq_true rfl, Nat.le_of_ble_eq_true rfl⟩ dL_law_323 (fun H locs hW hS => ?_)
  obtain ⟨q, eq⟩ : ∃ q : wZ × Int32, q = (fX6_stop Z (xs (j + 1))) := ⟨_, rfl⟩
  rw [← eq] at hs
  have hW : wW G q.1 H := by rw [eq]; exact hW
  refine lv_re (y := q.2) (by rw [eq]) ?_
  obtain ⟨h12, han, hnx⟩ := hs
  have hW : wW G (wset q.1 12 (Z 12)) H := by rw [← h12, wset_self]; exact hW
  refine lv_aload_n hx hb dL_law_326 rfl (lv_at hl 1 rfl) ?_
  refine lv_aload_n hx hb dL_law_327 rfl (lv_at hl 3 rfl) ?_
  refine lv_iload_n hx hb dL_law_328 rfl (lv_at hl 0 rfl) ?_
  refine lv_iconst (v := 1) hx hb dL_law_329 (by decide) ?_
  refine lv_iadd hx hb dL_law_330 ?_
  refine lv_re (y := nI (j + 1)) (nI_add j 1) ?_
  refine va_sld hx hb hX hbl hbA hS (vp_in_nI (show j + 1 < L by omega) (by omega)) dL_law_331 ?_
  refine lv_re (y := xs (j + 1)) (congrArg xs (nI_clamp (show j + 1 < 2 ^ 31 by omega))) ?_
  refine wc_il hC hml (kX7_stop l G q.1 (Z 12) (xs (j + 1)) M M4 hI hkn) (cwV 1 hts gL_law_X7_stop rfl rfl rfl (by decide +kernel) ⟨Nat.le_of_ble_eq_true rfl, Nat.le_of_ble_eq_true rfl⟩) hW hS (vM (by decide)) ce_m0 rfl rfl rfl rfl hl.1 (Nat.le_of_ble_eq_true rfl) ⟨Nat.le_of_ble_eq_true rfl, Nat.le_of_ble_eq_true rfl⟩ dL_law_332 (fun H locs hW hS => ?_)
  refine lv_icmp_eq (tgt := 850) hx hb dL_law_335 (by decide) (fun _ => ?_) (fun c9 => ?_)
  · exact kk _ H locs hnx hW hS
  · exact absurd han c9
set_option maxHeartbeats 4000000 in
set_option maxRecDepth 100000 in
theorem lc_home {p : Program} {l : Launch} {e : Env} {s : State} {m : MethodId} {below : List Frame} {meth : Method} {c : Code} {H : Heap} {locs : List Loc} {Q : State → Prop} {ls : Array Slot} {G : wG} {Z : wZ} {b L j : Nat} {xs : Nat → Int32} {LR : wZ → Prop} (hC : wX p s m c cL_law #[Value.ref b] wsL_law RL G) (hml : c.maxLocals = 4) (hX : va_X b L xs s s.heap) (hbl : b < s.heap.size) (hbA : ¬ wA G b) (hL : L ≤ 2048) (hst : lS LR) (hLR : LR Z) (hj : j + 3 < L) (hW : wW G Z H) (hS : va_S (wA G) s.heap H locs) (hl : lv_has ls 4 [(3, .int (nI j)), (2, .ref (G.2.2.1 12 0)), (1, .ref (G.2.2.1 11 0)), (0, .ref b)]) (kk : ∀ (Z' : wZ) (H1 : Heap) (locs1 : List Loc), LR Z' → wW G Z' H1 → va_S (wA G) s.heap H1 locs1 → W p l e room_1 s m #[Value.ref b] below meth c H1 locs1 169 2451 Q (F0 m 850 ls [])) : W p l e room_1 s m #[Value.ref b] below meth c H locs 169 2451 Q (F0 m 340 ls []) := by
  have hx := hC.1
  have hb := hC.2.1
  have hts := hC.2.2.2.1
  obtain ⟨⟨M4, M, hI⟩, hkn, hln⟩ := hst.1 Z hLR
  refine lv_aload_n hx hb dL_law_340 rfl (lv_at hl 2 rfl) ?_
  refine lv_aload_n hx hb dL_law_341 rfl (lv_at hl 3 rfl) ?_
  refine lv_iload_n hx hb dL_law_342 rfl (lv_at hl 0 rfl) ?_
  refine lv_iconst (v := 1) hx hb dL_law_343 (by decide) ?_
  refine lv_iadd hx hb dL_law_344 ?_
  refine lv_re (y := nI (j + 1)) (nI_add j 1) ?_
  refine va_sld hx hb hX hbl hbA hS (vp_in_nI (show j + 1 < L by omega) (by omega)) dL_law_345 ?_
  refine lv_re (y := xs (j + 1)) (congrArg xs (nI_clamp (show j + 1 < 2 ^ 31 by omega))) ?_
  have hs := hst.2.2.2.2.2.2.2.1 Z (xs (j + 1)) hLR
  refine wc_il hC hml (kX6_home l G Z (xs (j + 1))) (cwV 1 hts gL_law_X6_home rfl rfl rfl (by decide +kernel) ⟨Nat.le_of_ble_eq_true rfl, Nat.le_of_ble_eq_true rfl⟩) hW hS (vS (by decide)) we_s0 rfl rfl rfl rfl hl.1 (Nat.le_of_ble_eq_true rfl) ⟨Nat.le_of_ble_eq_true rfl, Nat.le_of_ble_eq_true rfl⟩ dL_law_346 (fun H locs hW hS => ?_)
  obtain ⟨q, eq⟩ : ∃ q : wZ × Int32, q = (fX6_home Z (xs (j + 1))) := ⟨_, rfl⟩
  rw [← eq] at hs
  have hW : wW G q.1 H := by rw [eq]; exact hW
  refine lv_re (y := q.2) (by rw [eq]) ?_
  obtain ⟨h12, han, hnx⟩ := hs
  have hW : wW G (wset q.1 12 (Z 12)) H := by rw [← h12, wset_self]; exact hW
  refine lv_aload_n hx hb dL_law_349 rfl (lv_at hl 1 rfl) ?_
  refine lv_aload_n hx hb dL_law_350 rfl (lv_at hl 3 rfl) ?_
  refine lv_iload_n hx hb dL_law_351 rfl (lv_at hl 0 rfl) ?_
  refine lv_iconst (v := 1) hx hb dL_law_352 (by decide) ?_
  refine lv_iadd hx hb dL_law_353 ?_
  refine lv_re (y := nI (j + 1)) (nI_add j 1) ?_
  refine va_sld hx hb hX hbl hbA hS (vp_in_nI (show j + 1 < L by omega) (by omega)) dL_law_354 ?_
  refine lv_re (y := xs (j + 1)) (congrArg xs (nI_clamp (show j + 1 < 2 ^ 31 by omega))) ?_
  refine wc_il hC hml (kX7_home l G q.1 (Z 12) (xs (j + 1)) M M4 hI hkn) (cwV 1 hts gL_law_X7_home rfl rfl rfl (by decide +kernel) ⟨Nat.le_of_ble_eq_true rfl, Nat.le_of_ble_eq_true rfl⟩) hW hS (vM (by decide)) ce_m0 rfl rfl rfl rfl hl.1 (Nat.le_of_ble_eq_true rfl) ⟨Nat.le_of_ble_eq_true rfl, Nat.le_of_ble_eq_true rfl⟩ dL_law_355 (fun H locs hW hS => ?_)
  refine lv_icmp_eq (tgt := 850) hx hb dL_law_358 (by decide) (fun _ => ?_) (fun c9 => ?_)
  · exact kk _ H locs hnx hW hS
  · exact absurd han c9

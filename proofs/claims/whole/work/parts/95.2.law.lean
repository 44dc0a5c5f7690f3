set_option maxHeartbeats 4000000 in
set_option maxRecDepth 100000 in
theorem lc_pass {p : Program} {l : Launch} {e : Env} {s : State} {m : MethodId} {below : List Frame} {meth : Method} {c : Code} {H : Heap} {locs : List Loc} {Q : State → Prop} {ls : Array Slot} {G : wG} {Z : wZ} {b L j : Nat} {xs : Nat → Int32} {LR : wZ → Prop} (hC : wX p s m c cL_law #[Value.ref b] wsL_law RL G) (hml : c.maxLocals = 4) (hX : va_X b L xs s s.heap) (hbl : b < s.heap.size) (hbA : ¬ wA G b) (hL : L ≤ 2048) (hst : lS LR) (hLR : LR Z) (hj : j + 3 < L) (hW : wW G Z H) (hS : va_S (wA G) s.heap H locs) (hl : lv_has ls 4 [(3, .int (nI j)), (2, .ref (G.2.2.1 12 0)), (1, .ref (G.2.2.1 11 0)), (0, .ref b)]) (kk : ∀ (Z' : wZ) (H1 : Heap) (locs1 : List Loc), LR Z' → wW G Z' H1 → va_S (wA G) s.heap H1 locs1 → W p l e room_1 s m #[Value.ref b] below meth c H1 locs1 169 2451 Q (F0 m 850 ls [])) : W p l e room_1 s m #[Value.ref b] below meth c H locs 169 2451 Q (F0 m 363 ls []) := by
  have hx := hC.1
  have hb := hC.2.1
  have hts := hC.2.2.2.1
  obtain ⟨⟨M4, M, hI⟩, hkn, hln⟩ := hst.1 Z hLR
  refine lv_aload_n hx hb dL_law_363 rfl (lv_at hl 2 rfl) ?_
  refine lv_aload_n hx hb dL_law_364 rfl (lv_at hl 3 rfl) ?_
  refine lv_iload_n hx hb dL_law_365 rfl (lv_at hl 0 rfl) ?_
  refine lv_iconst (v := 1) hx hb dL_law_366 (by decide) ?_
  refine lv_iadd hx hb dL_law_367 ?_
  refine lv_re (y := nI (j + 1)) (nI_add j 1) ?_
  refine va_sld hx hb hX hbl hbA hS (vp_in_nI (show j + 1 < L by omega) (by omega)) dL_law_368 ?_
  refine lv_re (y := xs (j + 1)) (congrArg xs (nI_clamp (show j + 1 < 2 ^ 31 by omega))) ?_
  have hs := hst.2.2.2.2.2.2.2.2.1 Z (xs (j + 1)) hLR
  refine wc_il hC hml (kX6_pass l G Z (xs (j + 1))) (cwV 1 hts gL_law_X6_pass rfl rfl rfl (by decide +kernel) ⟨Nat.le_of_ble_eq_true rfl, Nat.le_of_ble_eq_true rfl⟩) hW hS (vS (by decide)) we_s0 rfl rfl rfl rfl hl.1 (Nat.le_of_ble_eq_true rfl) ⟨Nat.le_of_ble_eq_true rfl, Nat.le_of_ble_eq_true rfl⟩ dL_law_369 (fun H locs hW hS => ?_)
  obtain ⟨q, eq⟩ : ∃ q : wZ × Int32, q = (fX6_pass Z (xs (j + 1))) := ⟨_, rfl⟩
  rw [← eq] at hs
  have hW : wW G q.1 H := by rw [eq]; exact hW
  refine lv_re (y := q.2) (by rw [eq]) ?_
  obtain ⟨h12, han, hnx⟩ := hs
  have hW : wW G (wset q.1 12 (Z 12)) H := by rw [← h12, wset_self]; exact hW
  refine lv_aload_n hx hb dL_law_372 rfl (lv_at hl 1 rfl) ?_
  refine lv_aload_n hx hb dL_law_373 rfl (lv_at hl 3 rfl) ?_
  refine lv_iload_n hx hb dL_law_374 rfl (lv_at hl 0 rfl) ?_
  refine lv_iconst (v := 1) hx hb dL_law_375 (by decide) ?_
  refine lv_iadd hx hb dL_law_376 ?_
  refine lv_re (y := nI (j + 1)) (nI_add j 1) ?_
  refine va_sld hx hb hX hbl hbA hS (vp_in_nI (show j + 1 < L by omega) (by omega)) dL_law_377 ?_
  refine lv_re (y := xs (j + 1)) (congrArg xs (nI_clamp (show j + 1 < 2 ^ 31 by omega))) ?_
  refine wc_il hC hml (kX7_pass l G q.1 (Z 12) (xs (j + 1)) M M4 hI hkn) (cwV 1 hts gL_law_X7_pass rfl rfl rfl (by decide +kernel) ⟨Nat.le_of_ble_eq_true rfl, Nat.le_of_ble_eq_true rfl⟩) hW hS (vM (by decide)) ce_m0 rfl rfl rfl rfl hl.1 (Nat.le_of_ble_eq_true rfl) ⟨Nat.le_of_ble_eq_true rfl, Nat.le_of_ble_eq_true rfl⟩ dL_law_378 (fun H locs hW hS => ?_)
  refine lv_icmp_eq (tgt := 850) hx hb dL_law_381 (by decide) (fun _ => ?_) (fun c9 => ?_)
  · exact kk _ H locs hnx hW hS
  · exact absurd han c9
set_option maxHeartbeats 4000000 in
set_option maxRecDepth 100000 in
theorem lc_of {p : Program} {l : Launch} {e : Env} {s : State} {m : MethodId} {below : List Frame} {meth : Method} {c : Code} {H : Heap} {locs : List Loc} {Q : State → Prop} {ls : Array Slot} {G : wG} {Z : wZ} {b L j : Nat} {xs : Nat → Int32} {LR : wZ → Prop} (hC : wX p s m c cL_law #[Value.ref b] wsL_law RL G) (hml : c.maxLocals = 4) (hX : va_X b L xs s s.heap) (hbl : b < s.heap.size) (hbA : ¬ wA G b) (hL : L ≤ 2048) (hst : lS LR) (hLR : LR Z) (hj : j + 3 < L) (hW : wW G Z H) (hS : va_S (wA G) s.heap H locs) (hl : lv_has ls 4 [(3, .int (nI j)), (2, .ref (G.2.2.1 12 0)), (1, .ref (G.2.2.1 11 0)), (0, .ref b)]) (kk : ∀ (Z' : wZ) (H1 : Heap) (locs1 : List Loc), LR Z' → wW G Z' H1 → va_S (wA G) s.heap H1 locs1 → W p l e room_1 s m #[Value.ref b] below meth c H1 locs1 169 2451 Q (F0 m 850 ls [])) : W p l e room_1 s m #[Value.ref b] below meth c H locs 169 2451 Q (F0 m 386 ls []) := by
  have hx := hC.1
  have hb := hC.2.1
  have hts := hC.2.2.2.1
  obtain ⟨⟨M4, M, hI⟩, hkn, hln⟩ := hst.1 Z hLR
  refine lv_aload_n hx hb dL_law_386 rfl (lv_at hl 2 rfl) ?_
  refine lv_aload_n hx hb dL_law_387 rfl (lv_at hl 3 rfl) ?_
  refine lv_iload_n hx hb dL_law_388 rfl (lv_at hl 0 rfl) ?_
  refine lv_iconst (v := 1) hx hb dL_law_389 (by decide) ?_
  refine lv_iadd hx hb dL_law_390 ?_
  refine lv_re (y := nI (j + 1)) (nI_add j 1) ?_
  refine va_sld hx hb hX hbl hbA hS (vp_in_nI (show j + 1 < L by omega) (by omega)) dL_law_391 ?_
  refine lv_re (y := xs (j + 1)) (congrArg xs (nI_clamp (show j + 1 < 2 ^ 31 by omega))) ?_
  refine lv_aload_n hx hb dL_law_392 rfl (lv_at hl 3 rfl) ?_
  refine lv_iload_n hx hb dL_law_393 rfl (lv_at hl 0 rfl) ?_
  refine lv_iconst (v := 2) hx hb dL_law_394 (by decide) ?_
  refine lv_iadd hx hb dL_law_395 ?_
  refine lv_re (y := nI (j + 2)) (nI_add j 2) ?_
  refine va_sld hx hb hX hbl hbA hS (vp_in_nI (show j + 2 < L by omega) (by omega)) dL_law_396 ?_
  refine lv_re (y := xs (j + 2)) (congrArg xs (nI_clamp (show j + 2 < 2 ^ 31 by omega))) ?_
  have hs := hst.2.2.2.2.2.2.2.2.2.1 Z (xs (j + 1)) (xs (j + 2)) hLR
  refine wc_il hC hml (kX6_of l G Z (xs (j + 1)) (xs (j + 2))) (cwV 2 hts gL_law_X6_of rfl rfl rfl (by decide +kernel) ⟨Nat.le_of_ble_eq_true rfl, Nat.le_of_ble_eq_true rfl⟩) hW hS (vS (by decide)) we_s0 rfl rfl rfl rfl hl.1 (Nat.le_of_ble_eq_true rfl) ⟨Nat.le_of_ble_eq_true rfl, Nat.le_of_ble_eq_true rfl⟩ dL_law_397 (fun H locs hW hS => ?_)
  obtain ⟨q, eq⟩ : ∃ q : wZ × Int32, q = (Z, fX6_of Z (xs (j + 1)) (xs (j + 2))) := ⟨_, rfl⟩
  rw [← eq] at hs
  have hW : wW G q.1 H := by rw [eq]; exact hW
  refine lv_re (y := q.2) (by rw [eq]) ?_
  obtain ⟨h12, han, hnx⟩ := hs
  have hW : wW G (wset q.1 12 (Z 12)) H := by rw [← h12, wset_self]; exact hW
  refine lv_aload_n hx hb dL_law_400 rfl (lv_at hl 1 rfl) ?_
  refine lv_aload_n hx hb dL_law_401 rfl (lv_at hl 3 rfl) ?_
  refine lv_iload_n hx hb dL_law_402 rfl (lv_at hl 0 rfl) ?_
  refine lv_iconst (v := 1) hx hb dL_law_403 (by decide) ?_
  refine lv_iadd hx hb dL_law_404 ?_
  refine lv_re (y := nI (j + 1)) (nI_add j 1) ?_
  refine va_sld hx hb hX hbl hbA hS (vp_in_nI (show j + 1 < L by omega) (by omega)) dL_law_405 ?_
  refine lv_re (y := xs (j + 1)) (congrArg xs (nI_clamp (show j + 1 < 2 ^ 31 by omega))) ?_
  refine lv_aload_n hx hb dL_law_406 rfl (lv_at hl 3 rfl) ?_
  refine lv_iload_n hx hb dL_law_407 rfl (lv_at hl 0 rfl) ?_
  refine lv_iconst (v := 2) hx hb dL_law_408 (by decide) ?_
  refine lv_iadd hx hb dL_law_409 ?_
  refine lv_re (y := nI (j + 2)) (nI_add j 2) ?_
  refine va_sld hx hb hX hbl hbA hS (vp_in_nI (show j + 2 < L by omega) (by omega)) dL_law_410 ?_
  refine lv_re (y := xs (j + 2)) (congrArg xs (nI_clamp (show j + 2 < 2 ^ 31 by omega))) ?_
  refine wc_il hC hml (kX7_of l G q.1 (Z 12) (xs (j + 1)) (xs (j + 2)) (hm_of hI)) (cwV 2 hts gL_law_X7_of rfl rfl rfl (by decide +kernel) ⟨Nat.le_of_ble_eq_true rfl, Nat.le_of_ble_eq_true rfl⟩) hW hS (vM (by decide)) ce_m0 rfl rfl rfl rfl hl.1 (Nat.le_of_ble_eq_true rfl) ⟨Nat.le_of_ble_eq_true rfl, Nat.le_of_ble_eq_true rfl⟩ dL_law_411 (fun H locs hW hS => ?_)
  refine lv_icmp_eq (tgt := 850) hx hb dL_law_414 (by decide) (fun _ => ?_) (fun c9 => ?_)
  · exact kk _ H locs hnx hW hS
  · exact absurd han c9
set_option maxHeartbeats 4000000 in
set_option maxRecDepth 100000 in
theorem lc_waiting {p : Program} {l : Launch} {e : Env} {s : State} {m : MethodId} {below : List Frame} {meth : Method} {c : Code} {H : Heap} {locs : List Loc} {Q : State → Prop} {ls : Array Slot} {G : wG} {Z : wZ} {b L j : Nat} {xs : Nat → Int32} {LR : wZ → Prop} (hC : wX p s m c cL_law #[Value.ref b] wsL_law RL G) (hml : c.maxLocals = 4) (hX : va_X b L xs s s.heap) (hbl : b < s.heap.size) (hbA : ¬ wA G b) (hL : L ≤ 2048) (hst : lS LR) (hLR : LR Z) (hj : j + 3 < L) (hW : wW G Z H) (hS : va_S (wA G) s.heap H locs) (hl : lv_has ls 4 [(3, .int (nI j)), (2, .ref (G.2.2.1 12 0)), (1, .ref (G.2.2.1 11 0)), (0, .ref b)]) (kk : ∀ (Z' : wZ) (H1 : Heap) (locs1 : List Loc), LR Z' → wW G Z' H1 → va_S (wA G) s.heap H1 locs1 → W p l e room_1 s m #[Value.ref b] below meth c H1 locs1 169 2451 Q (F0 m 850 ls [])) : W p l e room_1 s m #[Value.ref b] below meth c H locs 169 2451 Q (F0 m 419 ls []) := by
  have hx := hC.1
  have hb := hC.2.1
  have hts := hC.2.2.2.1
  obtain ⟨⟨M4, M, hI⟩, hkn, hln⟩ := hst.1 Z hLR
  refine lv_aload_n hx hb dL_law_419 rfl (lv_at hl 2 rfl) ?_
  refine lv_aload_n hx hb dL_law_420 rfl (lv_at hl 3 rfl) ?_
  refine lv_iload_n hx hb dL_law_421 rfl (lv_at hl 0 rfl) ?_
  refine lv_iconst (v := 1) hx hb dL_law_422 (by decide) ?_
  refine lv_iadd hx hb dL_law_423 ?_
  refine lv_re (y := nI (j + 1)) (nI_add j 1) ?_
  refine va_sld hx hb hX hbl hbA hS (vp_in_nI (show j + 1 < L by omega) (by omega)) dL_law_424 ?_
  refine lv_re (y := xs (j + 1)) (congrArg xs (nI_clamp (show j + 1 < 2 ^ 31 by omega))) ?_
  refine lv_aload_n hx hb dL_law_425 rfl (lv_at hl 3 rfl) ?_
  refine lv_iload_n hx hb dL_law_426 rfl (lv_at hl 0 rfl) ?_
  refine lv_iconst (v := 2) hx hb dL_law_427 (by decide) ?_
  refine lv_iadd hx hb dL_law_428 ?_
  refine lv_re (y := nI (j + 2)) (nI_add j 2) ?_
  refine va_sld hx hb hX hbl hbA hS (vp_in_nI (show j + 2 < L by omega) (by omega)) dL_law_429 ?_
  refine lv_re (y := xs (j + 2)) (congrArg xs (nI_clamp (show j + 2 < 2 ^ 31 by omega))) ?_
  have hs := hst.2.2.2.2.2.2.2.2.2.2.1 Z (xs (j + 1)) (xs (j + 2)) hLR
  refine wc_il hC hml (kX6_waiting l G Z (xs (j + 1)) (xs (j + 2))) (cwV 2 hts gL_law_X6_waiting rfl rfl rfl (by decide +kernel) ⟨Nat.le_of_ble_eq_true rfl, Nat.le_of_ble_eq_true rfl⟩) hW hS (vS (by decide)) we_s0 rfl rfl rfl rfl hl.1 (Nat.le_of_ble_eq_true rfl) ⟨Nat.le_of_ble_eq_true rfl, Nat.le_of_ble_eq_true rfl⟩ dL_law_430 (fun H locs hW hS => ?_)
  obtain ⟨q, eq⟩ : ∃ q : wZ × Int32, q = (Z, fX6_waiting Z (xs (j + 1)) (xs (j + 2))) := ⟨_, rfl⟩
  rw [← eq] at hs
  have hW : wW G q.1 H := by rw [eq]; exact hW
  refine lv_re (y := q.2) (by rw [eq]) ?_
  obtain ⟨h12, han, hnx⟩ := hs
  have hW : wW G (wset q.1 12 (Z 12)) H := by rw [← h12, wset_self]; exact hW
  refine lv_aload_n hx hb dL_law_433 rfl (lv_at hl 1 rfl) ?_
  refine lv_aload_n hx hb dL_law_434 rfl (lv_at hl 3 rfl) ?_
  refine lv_iload_n hx hb dL_law_435 rfl (lv_at hl 0 rfl) ?_
  refine lv_iconst (v := 1) hx hb dL_law_436 (by decide) ?_
  refine lv_iadd hx hb dL_law_437 ?_
  refine lv_re (y := nI (j + 1)) (nI_add j 1) ?_
  refine va_sld hx hb hX hbl hbA hS (vp_in_nI (show j + 1 < L by omega) (by omega)) dL_law_438 ?_
  refine lv_re (y := xs (j + 1)) (congrArg xs (nI_clamp (show j + 1 < 2 ^ 31 by omega))) ?_
  refine lv_aload_n hx hb dL_law_439 rfl (lv_at hl 3 rfl) ?_
  refine lv_iload_n hx hb dL_law_440 rfl (lv_at hl 0 rfl) ?_
  refine lv_iconst (v := 2) hx hb dL_law_441 (by decide) ?_
  refine lv_iadd hx hb dL_law_442 ?_
  refine lv_re (y := nI (j + 2)) (nI_add j 2) ?_
  refine va_sld hx hb hX hbl hbA hS (vp_in_nI (show j + 2 < L by omega) (by omega)) dL_law_443 ?_
  refine lv_re (y := xs (j + 2)) (congrArg xs (nI_clamp (show j + 2 < 2 ^ 31 by omega))) ?_
  refine wc_il hC hml (kX7_waiting l G q.1 (Z 12) (xs (j + 1)) (xs (j + 2)) (hm_of hI) (hw_of hI)) (cwV 2 hts gL_law_X7_waiting rfl rfl rfl (by decide +kernel) ⟨Nat.le_of_ble_eq_true rfl, Nat.le_of_ble_eq_true rfl⟩) hW hS (vM (by decide)) ce_m0 rfl rfl rfl rfl hl.1 (Nat.le_of_ble_eq_true rfl) ⟨Nat.le_of_ble_eq_true rfl, Nat.le_of_ble_eq_true rfl⟩ dL_law_444 (fun H locs hW hS => ?_)
  refine lv_icmp_eq (tgt := 850) hx hb dL_law_447 (by decide) (fun _ => ?_) (fun c9 => ?_)
  · exact kk _ H locs hnx hW hS
  · exact absurd han c9
set_option maxHeartbeats 4000000 in
set_option maxRecDepth 100000 in
theorem lc_planned {p : Program} {l : Launch} {e : Env} {s : State} {m : MethodId} {below : List Frame} {meth : Method} {c : Code} {H : Heap} {locs : List Loc} {Q : State → Prop} {ls : Array Slot} {G : wG} {Z : wZ} {b L j : Nat} {xs : Nat → Int32} {LR : wZ → Prop} (hC : wX p s m c cL_law #[Value.ref b] wsL_law RL G) (hml : c.maxLocals = 4) (hX : va_X b L xs s s.heap) (hbl : b < s.heap.size) (hbA : ¬ wA G b) (hL : L ≤ 2048) (hst : lS LR) (hLR : LR Z) (hj : j + 3 < L) (hW : wW G Z H) (hS : va_S (wA G) s.heap H locs) (hl : lv_has ls 4 [(3, .int (nI j)), (2, .ref (G.2.2.1 12 0)), (1, .ref (G.2.2.1 11 0)), (0, .ref b)]) (kk : ∀ (Z' : wZ) (H1 : Heap) (locs1 : List Loc), LR Z' → wW G Z' H1 → va_S (wA G) s.heap H1 locs1 → W p l e room_1 s m #[Value.ref b] below meth c H1 locs1 169 2451 Q (F0 m 850 ls [])) : W p l e room_1 s m #[Value.ref b] below meth c H locs 169 2451 Q (F0 m 452 ls []) := by
  have hx := hC.1
  have hb := hC.2.1
  have hts := hC.2.2.2.1
  obtain ⟨⟨M4, M, hI⟩, hkn, hln⟩ := hst.1 Z hLR
  refine lv_aload_n hx hb dL_law_452 rfl (lv_at hl 2 rfl) ?_
  refine lv_aload_n hx hb dL_law_453 rfl (lv_at hl 3 rfl) ?_
  refine lv_iload_n hx hb dL_law_454 rfl (lv_at hl 0 rfl) ?_
  refine lv_iconst (v := 1) hx hb dL_law_455 (by decide) ?_
  refine lv_iadd hx hb dL_law_456 ?_
  refine lv_re (y := nI (j + 1)) (nI_add j 1) ?_
  refine va_sld hx hb hX hbl hbA hS (vp_in_nI (show j + 1 < L by omega) (by omega)) dL_law_457 ?_
  refine lv_re (y := xs (j + 1)) (congrArg xs (nI_clamp (show j + 1 < 2 ^ 31 by omega))) ?_
  refine lv_aload_n hx hb dL_law_458 rfl (lv_at hl 3 rfl) ?_
  refine lv_iload_n hx hb dL_law_459 rfl (lv_at hl 0 rfl) ?_
  refine lv_iconst (v := 2) hx hb dL_law_460 (by decide) ?_
  refine lv_iadd hx hb dL_law_461 ?_
  refine lv_re (y := nI (j + 2)) (nI_add j 2) ?_
  refine va_sld hx hb hX hbl hbA hS (vp_in_nI (show j + 2 < L by omega) (by omega)) dL_law_462 ?_
  refine lv_re (y := xs (j + 2)) (congrArg xs (nI_clamp (show j + 2 < 2 ^ 31 by omega))) ?_
  have hs := hst.2.2.2.2.2.2.2.2.2.2.2.1 Z (xs (j + 1)) (xs (j + 2)) hLR
  refine wc_il hC hml (kX6_planned l G Z (xs (j + 1)) (xs (j + 2))) (cwV 2 hts gL_law_X6_planned rfl rfl rfl (by decide +kernel) ⟨Nat.le_of_ble_eq_true rfl, Nat.le_of_ble_eq_true rfl⟩) hW hS (vS (by decide)) we_s0 rfl rfl rfl rfl hl.1 (Nat.le_of_ble_eq_true rfl) ⟨Nat.le_of_ble_eq_true rfl, Nat.le_of_ble_eq_true rfl⟩ dL_law_463 (fun H locs hW hS => ?_)
  obtain ⟨q, eq⟩ : ∃ q : wZ × Int32, q = (Z, fX6_planned Z (xs (j + 1)) (xs (j + 2))) := ⟨_, rfl⟩
  rw [← eq] at hs
  have hW : wW G q.1 H := by rw [eq]; exact hW
  refine lv_re (y := q.2) (by rw [eq]) ?_
  obtain ⟨h12, han, hnx⟩ := hs
  have hW : wW G (wset q.1 12 (Z 12)) H := by rw [← h12, wset_self]; exact hW
  refine lv_aload_n hx hb dL_law_466 rfl (lv_at hl 1 rfl) ?_
  refine lv_aload_n hx hb dL_law_467 rfl (lv_at hl 3 rfl) ?_
  refine lv_iload_n hx hb dL_law_468 rfl (lv_at hl 0 rfl) ?_
  refine lv_iconst (v := 1) hx hb dL_law_469 (by decide) ?_
  refine lv_iadd hx hb dL_law_470 ?_
  refine lv_re (y := nI (j + 1)) (nI_add j 1) ?_
  refine va_sld hx hb hX hbl hbA hS (vp_in_nI (show j + 1 < L by omega) (by omega)) dL_law_471 ?_
  refine lv_re (y := xs (j + 1)) (congrArg xs (nI_clamp (show j + 1 < 2 ^ 31 by omega))) ?_
  refine lv_aload_n hx hb dL_law_472 rfl (lv_at hl 3 rfl) ?_
  refine lv_iload_n hx hb dL_law_473 rfl (lv_at hl 0 rfl) ?_
  refine lv_iconst (v := 2) hx hb dL_law_474 (by decide) ?_
  refine lv_iadd hx hb dL_law_475 ?_
  refine lv_re (y := nI (j + 2)) (nI_add j 2) ?_
  refine va_sld hx hb hX hbl hbA hS (vp_in_nI (show j + 2 < L by omega) (by omega)) dL_law_476 ?_
  refine lv_re (y := xs (j + 2)) (congrArg xs (nI_clamp (show j + 2 < 2 ^ 31 by omega))) ?_
  refine wc_il hC hml (kX7_planned l G q.1 (Z 12) (xs (j + 1)) (xs (j + 2)) M hI.2.1 hI.2.2.1) (cwV 2 hts gL_law_X7_planned rfl rfl rfl (by decide +kernel) ⟨Nat.le_of_ble_eq_true rfl, Nat.le_of_ble_eq_true rfl⟩) hW hS (vM (by decide)) ce_m0 rfl rfl rfl rfl hl.1 (Nat.le_of_ble_eq_true rfl) ⟨Nat.le_of_ble_eq_true rfl, Nat.le_of_ble_eq_true rfl⟩ dL_law_477 (fun H locs hW hS => ?_)
  refine lv_icmp_eq (tgt := 850) hx hb dL_law_480 (by decide) (fun _ => ?_) (fun c9 => ?_)
  · exact kk _ H locs hnx hW hS
  · exact absurd han c9
set_option maxHeartbeats 4000000 in
set_option maxRecDepth 100000 in
theorem lc_count {p : Program} {l : Launch} {e : Env} {s : State} {m : MethodId} {below : List Frame} {meth : Method} {c : Code} {H : Heap} {locs : List Loc} {Q : State → Prop} {ls : Array Slot} {G : wG} {Z : wZ} {b L j : Nat} {xs : Nat → Int32} {LR : wZ → Prop} (hC : wX p s m c cL_law #[Value.ref b] wsL_law RL G) (hml : c.maxLocals = 4) (hX : va_X b L xs s s.heap) (hbl : b < s.heap.size) (hbA : ¬ wA G b) (hL : L ≤ 2048) (hst : lS LR) (hLR : LR Z) (hj : j + 3 < L) (hW : wW G Z H) (hS : va_S (wA G) s.heap H locs) (hl : lv_has ls 4 [(3, .int (nI j)), (2, .ref (G.2.2.1 12 0)), (1, .ref (G.2.2.1 11 0)), (0, .ref b)]) (kk : ∀ (Z' : wZ) (H1 : Heap) (locs1 : List Loc), LR Z' → wW G Z' H1 → va_S (wA G) s.heap H1 locs1 → W p l e room_1 s m #[Value.ref b] below meth c H1 locs1 169 2451 Q (F0 m 850 ls [])) : W p l e room_1 s m #[Value.ref b] below meth c H locs 169 2451 Q (F0 m 485 ls []) := by
  have hx := hC.1
  have hb := hC.2.1
  have hts := hC.2.2.2.1
  obtain ⟨⟨M4, M, hI⟩, hkn, hln⟩ := hst.1 Z hLR
  refine lv_aload_n hx hb dL_law_485 rfl (lv_at hl 2 rfl) ?_
  refine lv_aload_n hx hb dL_law_486 rfl (lv_at hl 3 rfl) ?_
  refine lv_iload_n hx hb dL_law_487 rfl (lv_at hl 0 rfl) ?_
  refine lv_iconst (v := 1) hx hb dL_law_488 (by decide) ?_
  refine lv_iadd hx hb dL_law_489 ?_
  refine lv_re (y := nI (j + 1)) (nI_add j 1) ?_
  refine va_sld hx hb hX hbl hbA hS (vp_in_nI (show j + 1 < L by omega) (by omega)) dL_law_490 ?_
  refine lv_re (y := xs (j + 1)) (congrArg xs (nI_clamp (show j + 1 < 2 ^ 31 by omega))) ?_
  have hs := hst.2.2.2.2.2.2.2.2.2.2.2.2.1 Z (xs (j + 1)) hLR
  refine wc_il hC hml (kX6_count l G Z (xs (j + 1))) (cwV 1 hts gL_law_X6_count rfl rfl rfl (by decide +kernel) ⟨Nat.le_of_ble_eq_true rfl, Nat.le_of_ble_eq_true rfl⟩) hW hS (vS (by decide)) we_s0 rfl rfl rfl rfl hl.1 (Nat.le_of_ble_eq_true rfl) ⟨Nat.le_of_ble_eq_true rfl, Nat.le_of_ble_eq_true rfl⟩ dL_law_491 (fun H locs hW hS => ?_)
  obtain ⟨q, eq⟩ : ∃ q : wZ × Int32, q = (Z, fX6_count Z (xs (j + 1))) := ⟨_, rfl⟩
  rw [← eq] at hs
  have hW : wW G q.1 H := by rw [eq]; exact hW
  refine lv_re (y := q.2) (by rw [eq]) ?_
  obtain ⟨h12, han, hnx⟩ := hs
  have hW : wW G (wset q.1 12 (Z 12)) H := by rw [← h12, wset_self]; exact hW
  refine lv_aload_n hx hb dL_law_494 rfl (lv_at hl 1 rfl) ?_
  refine lv_aload_n hx hb dL_law_495 rfl (lv_at hl 3 rfl) ?_
  refine lv_iload_n hx hb dL_law_496 rfl (lv_at hl 0 rfl) ?_
  refine lv_iconst (v := 1) hx hb dL_law_497 (by decide) ?_
  refine lv_iadd hx hb dL_law_498 ?_
  refine lv_re (y := nI (j + 1)) (nI_add j 1) ?_
  refine va_sld hx hb hX hbl hbA hS (vp_in_nI (show j + 1 < L by omega) (by omega)) dL_law_499 ?_
  refine lv_re (y := xs (j + 1)) (congrArg xs (nI_clamp (show j + 1 < 2 ^ 31 by omega))) ?_
  refine wc_il hC hml (kX7_count l G q.1 (Z 12) (xs (j + 1)) M4 hI.1.1 hI.1.2.1 hI.1.2.2.2.2) (cwV 1 hts gL_law_X7_count rfl rfl rfl (by decide +kernel) ⟨Nat.le_of_ble_eq_true rfl, Nat.le_of_ble_eq_true rfl⟩) hW hS (vM (by decide)) ce_m0 rfl rfl rfl rfl hl.1 (Nat.le_of_ble_eq_true rfl) ⟨Nat.le_of_ble_eq_true rfl, Nat.le_of_ble_eq_true rfl⟩ dL_law_500 (fun H locs hW hS => ?_)
  refine lv_icmp_eq (tgt := 850) hx hb dL_law_503 (by decide) (fun _ => ?_) (fun c9 => ?_)
  · exact kk _ H locs hnx hW hS
  · exact absurd han c9
set_option maxHeartbeats 4000000 in
set_option maxRecDepth 100000 in
theorem lc_interval {p : Program} {l : Launch} {e : Env} {s : State} {m : MethodId} {below : List Frame} {meth : Method} {c : Code} {H : Heap} {locs : List Loc} {Q : State → Prop} {ls : Array Slot} {G : wG} {Z : wZ} {b L j : Nat} {xs : Nat → Int32} {LR : wZ → Prop} (hC : wX p s m c cL_law #[Value.ref b] wsL_law RL G) (hml : c.maxLocals = 4) (hX : va_X b L xs s s.heap) (hbl : b < s.heap.size) (hbA : ¬ wA G b) (hL : L ≤ 2048) (hst : lS LR) (hLR : LR Z) (hj : j + 3 < L) (hW : wW G Z H) (hS : va_S (wA G) s.heap H locs) (hl : lv_has ls 4 [(3, .int (nI j)), (2, .ref (G.2.2.1 12 0)), (1, .ref (G.2.2.1 11 0)), (0, .ref b)]) (kk : ∀ (Z' : wZ) (H1 : Heap) (locs1 : List Loc), LR Z' → wW G Z' H1 → va_S (wA G) s.heap H1 locs1 → W p l e room_1 s m #[Value.ref b] below meth c H1 locs1 169 2451 Q (F0 m 850 ls [])) : W p l e room_1 s m #[Value.ref b] below meth c H locs 169 2451 Q (F0 m 508 ls []) := by
  have hx := hC.1
  have hb := hC.2.1
  have hts := hC.2.2.2.1
  obtain ⟨⟨M4, M, hI⟩, hkn, hln⟩ := hst.1 Z hLR
  refine lv_aload_n hx hb dL_law_508 rfl (lv_at hl 2 rfl) ?_
  refine lv_aload_n hx hb dL_law_509 rfl (lv_at hl 3 rfl) ?_
  refine lv_iload_n hx hb dL_law_510 rfl (lv_at hl 0 rfl) ?_
  refine lv_iconst (v := 1) hx hb dL_law_511 (by decide) ?_
  refine lv_iadd hx hb dL_law_512 ?_
  refine lv_re (y := nI (j + 1)) (nI_add j 1) ?_
  refine va_sld hx hb hX hbl hbA hS (vp_in_nI (show j + 1 < L by omega) (by omega)) dL_law_513 ?_
  refine lv_re (y := xs (j + 1)) (congrArg xs (nI_clamp (show j + 1 < 2 ^ 31 by omega))) ?_
  have hs := hst.2.2.2.2.2.2.2.2.2.2.2.2.2.1 Z (xs (j + 1)) hLR
  refine wc_il hC hml (kX6_interval l G Z (xs (j + 1))) (cwV 1 hts gL_law_X6_interval rfl rfl rfl (by decide +kernel) ⟨Nat.le_of_ble_eq_true rfl, Nat.le_of_ble_eq_true rfl⟩) hW hS (vS (by decide)) we_s0 rfl rfl rfl rfl hl.1 (Nat.le_of_ble_eq_true rfl) ⟨Nat.le_of_ble_eq_true rfl, Nat.le_of_ble_eq_true rfl⟩ dL_law_514 (fun H locs hW hS => ?_)
  obtain ⟨q, eq⟩ : ∃ q : wZ × Int32, q = (Z, fX6_interval Z (xs (j + 1))) := ⟨_, rfl⟩
  rw [← eq] at hs
  have hW : wW G q.1 H := by rw [eq]; exact hW
  refine lv_re (y := q.2) (by rw [eq]) ?_
  obtain ⟨h12, han, hnx⟩ := hs
  have hW : wW G (wset q.1 12 (Z 12)) H := by rw [← h12, wset_self]; exact hW
  refine lv_aload_n hx hb dL_law_517 rfl (lv_at hl 1 rfl) ?_
  refine lv_aload_n hx hb dL_law_518 rfl (lv_at hl 3 rfl) ?_
  refine lv_iload_n hx hb dL_law_519 rfl (lv_at hl 0 rfl) ?_
  refine lv_iconst (v := 1) hx hb dL_law_520 (by decide) ?_
  refine lv_iadd hx hb dL_law_521 ?_
  refine lv_re (y := nI (j + 1)) (nI_add j 1) ?_
  refine va_sld hx hb hX hbl hbA hS (vp_in_nI (show j + 1 < L by omega) (by omega)) dL_law_522 ?_
  refine lv_re (y := xs (j + 1)) (congrArg xs (nI_clamp (show j + 1 < 2 ^ 31 by omega))) ?_
  refine wc_il hC hml (kX7_interval l G q.1 (Z 12) (xs (j + 1)) ) (cwV 1 hts gL_law_X7_interval rfl rfl rfl (by decide +kernel) ⟨Nat.le_of_ble_eq_true rfl, Nat.le_of_ble_eq_true rfl⟩) hW hS (vM (by decide)) ce_m0 rfl rfl rfl rfl hl.1 (Nat.le_of_ble_eq_true rfl) ⟨Nat.le_of_ble_eq_true rfl, Nat.le_of_ble_eq_true rfl⟩ dL_law_523 (fun H locs hW hS => ?_)
  refine lv_icmp_eq (tgt := 850) hx hb dL_law_526 (by decide) (fun _ => ?_) (fun c9 => ?_)
  · exact kk _ H locs hnx hW hS
  · exact absurd han c9
set_option maxHeartbeats 4000000 in
set_option maxRecDepth 100000 in
theorem lc_restsIn {p : Program} {l : Launch} {e : Env} {s : State} {m : MethodId} {below : List Frame} {meth : Method} {c : Code} {H : Heap} {locs : List Loc} {Q : State → Prop} {ls : Array Slot} {G : wG} {Z : wZ} {b L j : Nat} {xs : Nat → Int32} {LR : wZ → Prop} (hC : wX p s m c cL_law #[Value.ref b] wsL_law RL G) (hml : c.maxLocals = 4) (hX : va_X b L xs s s.heap) (hbl : b < s.heap.size) (hbA : ¬ wA G b) (hL : L ≤ 2048) (hst : lS LR) (hLR : LR Z) (hj : j + 3 < L) (hW : wW G Z H) (hS : va_S (wA G) s.heap H locs) (hl : lv_has ls 4 [(3, .int (nI j)), (2, .ref (G.2.2.1 12 0)), (1, .ref (G.2.2.1 11 0)), (0, .ref b)]) (kk : ∀ (Z' : wZ) (H1 : Heap) (locs1 : List Loc), LR Z' → wW G Z' H1 → va_S (wA G) s.heap H1 locs1 → W p l e room_1 s m #[Value.ref b] below meth c H1 locs1 169 2451 Q (F0 m 850 ls [])) : W p l e room_1 s m #[Value.ref b] below meth c H locs 169 2451 Q (F0 m 531 ls []) := by
  have hx := hC.1
  have hb := hC.2.1
  have hts := hC.2.2.2.1
  obtain ⟨⟨M4, M, hI⟩, hkn, hln⟩ := hst.1 Z hLR
  refine lv_aload_n hx hb dL_law_531 rfl (lv_at hl 2 rfl) ?_
  refine lv_aload_n hx hb dL_law_532 rfl (lv_at hl 3 rfl) ?_
  refine lv_iload_n hx hb dL_law_533 rfl (lv_at hl 0 rfl) ?_
  refine lv_iconst (v := 1) hx hb dL_law_534 (by decide) ?_
  refine lv_iadd hx hb dL_law_535 ?_
  refine lv_re (y := nI (j + 1)) (nI_add j 1) ?_
  refine va_sld hx hb hX hbl hbA hS (vp_in_nI (show j + 1 < L by omega) (by omega)) dL_law_536 ?_
  refine lv_re (y := xs (j + 1)) (congrArg xs (nI_clamp (show j + 1 < 2 ^ 31 by omega))) ?_
  have hs := hst.2.2.2.2.2.2.2.2.2.2.2.2.2.2.1 Z (xs (j + 1)) hLR
  refine wc_il hC hml (kX6_restsIn l G Z (xs (j + 1))) (cwV 1 hts gL_law_X6_restsIn rfl rfl rfl (by decide +kernel) ⟨Nat.le_of_ble_eq_true rfl, Nat.le_of_ble_eq_true rfl⟩) hW hS (vS (by decide)) we_s0 rfl rfl rfl rfl hl.1 (Nat.le_of_ble_eq_true rfl) ⟨Nat.le_of_ble_eq_true rfl, Nat.le_of_ble_eq_true rfl⟩ dL_law_537 (fun H locs hW hS => ?_)
  obtain ⟨q, eq⟩ : ∃ q : wZ × Int32, q = (fX6_restsIn Z (xs (j + 1))) := ⟨_, rfl⟩
  rw [← eq] at hs
  have hW : wW G q.1 H := by rw [eq]; exact hW
  refine lv_re (y := q.2) (by rw [eq]) ?_
  obtain ⟨h12, han, hnx⟩ := hs
  have hW : wW G (wset q.1 12 (Z 12)) H := by rw [← h12, wset_self]; exact hW
  refine lv_aload_n hx hb dL_law_540 rfl (lv_at hl 1 rfl) ?_
  refine lv_aload_n hx hb dL_law_541 rfl (lv_at hl 3 rfl) ?_
  refine lv_iload_n hx hb dL_law_542 rfl (lv_at hl 0 rfl) ?_
  refine lv_iconst (v := 1) hx hb dL_law_543 (by decide) ?_
  refine lv_iadd hx hb dL_law_544 ?_
  refine lv_re (y := nI (j + 1)) (nI_add j 1) ?_
  refine va_sld hx hb hX hbl hbA hS (vp_in_nI (show j + 1 < L by omega) (by omega)) dL_law_545 ?_
  refine lv_re (y := xs (j + 1)) (congrArg xs (nI_clamp (show j + 1 < 2 ^ 31 by omega))) ?_
  refine wc_il hC hml (kX7_restsIn l G q.1 (Z 12) (xs (j + 1)) M M4 hI) (cwV 1 hts gL_law_X7_restsIn rfl rfl rfl (by decide +kernel) ⟨Nat.le_of_ble_eq_true rfl, Nat.le_of_ble_eq_true rfl⟩) hW hS (vM (by decide)) ce_m0 rfl rfl rfl rfl hl.1 (Nat.le_of_ble_eq_true rfl) ⟨Nat.le_of_ble_eq_true rfl, Nat.le_of_ble_eq_true rfl⟩ dL_law_546 (fun H locs hW hS => ?_)
  refine lv_icmp_eq (tgt := 850) hx hb dL_law_549 (by decide) (fun _ => ?_) (fun c9 => ?_)
  · exact kk _ H locs hnx hW hS
  · exact absurd han c9

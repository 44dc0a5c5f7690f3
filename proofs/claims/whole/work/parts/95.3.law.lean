set_option maxHeartbeats 4000000 in
set_option maxRecDepth 100000 in
theorem lc_stopsAt {p : Program} {l : Launch} {e : Env} {s : State} {m : MethodId} {below : List Frame} {meth : Method} {c : Code} {H : Heap} {locs : List Loc} {Q : State → Prop} {ls : Array Slot} {G : wG} {Z : wZ} {b L j : Nat} {xs : Nat → Int32} {LR : wZ → Prop} (hC : wX p s m c cL_law #[Value.ref b] wsL_law RL G) (hml : c.maxLocals = 4) (hX : va_X b L xs s s.heap) (hbl : b < s.heap.size) (hbA : ¬ wA G b) (hL : L ≤ 2048) (hst : lS LR) (hLR : LR Z) (hj : j + 3 < L) (hW : wW G Z H) (hS : va_S (wA G) s.heap H locs) (hl : lv_has ls 4 [(3, .int (nI j)), (2, .ref (G.2.2.1 12 0)), (1, .ref (G.2.2.1 11 0)), (0, .ref b)]) (kk : ∀ (Z' : wZ) (H1 : Heap) (locs1 : List Loc), LR Z' → wW G Z' H1 → va_S (wA G) s.heap H1 locs1 → W p l e room_1 s m #[Value.ref b] below meth c H1 locs1 169 2451 Q (F0 m 850 ls [])) : W p l e room_1 s m #[Value.ref b] below meth c H locs 169 2451 Q (F0 m 554 ls []) := by
  have hx := hC.1
  have hb := hC.2.1
  have hts := hC.2.2.2.1
  obtain ⟨⟨M4, M, hI⟩, hkn, hln⟩ := hst.1 Z hLR
  refine lv_aload_n hx hb dL_law_554 rfl (lv_at hl 2 rfl) ?_
  refine lv_aload_n hx hb dL_law_555 rfl (lv_at hl 3 rfl) ?_
  refine lv_iload_n hx hb dL_law_556 rfl (lv_at hl 0 rfl) ?_
  refine lv_iconst (v := 1) hx hb dL_law_557 (by decide) ?_
  refine lv_iadd hx hb dL_law_558 ?_
  refine lv_re (y := nI (j + 1)) (nI_add j 1) ?_
  refine va_sld hx hb hX hbl hbA hS (vp_in_nI (show j + 1 < L by omega) (by omega)) dL_law_559 ?_
  refine lv_re (y := xs (j + 1)) (congrArg xs (nI_clamp (show j + 1 < 2 ^ 31 by omega))) ?_
  have hs := hst.2.2.2.2.2.2.2.2.2.2.2.2.2.2.2.1 Z (xs (j + 1)) hLR
  refine wc_il hC hml (kX6_stopsAt l G Z (xs (j + 1))) (cwV 1 hts gL_law_X6_stopsAt rfl rfl rfl (by decide +kernel) ⟨Nat.le_of_ble_eq_true rfl, Nat.le_of_ble_eq_true rfl⟩) hW hS (vS (by decide)) we_s0 rfl rfl rfl rfl hl.1 (Nat.le_of_ble_eq_true rfl) ⟨Nat.le_of_ble_eq_true rfl, Nat.le_of_ble_eq_true rfl⟩ dL_law_560 (fun H locs hW hS => ?_)
  obtain ⟨q, eq⟩ : ∃ q : wZ × Int32, q = (Z, fX6_stopsAt Z (xs (j + 1))) := ⟨_, rfl⟩
  rw [← eq] at hs
  have hW : wW G q.1 H := by rw [eq]; exact hW
  refine lv_re (y := q.2) (by rw [eq]) ?_
  obtain ⟨h12, han, hnx⟩ := hs
  have hW : wW G (wset q.1 12 (Z 12)) H := by rw [← h12, wset_self]; exact hW
  refine lv_aload_n hx hb dL_law_563 rfl (lv_at hl 1 rfl) ?_
  refine lv_aload_n hx hb dL_law_564 rfl (lv_at hl 3 rfl) ?_
  refine lv_iload_n hx hb dL_law_565 rfl (lv_at hl 0 rfl) ?_
  refine lv_iconst (v := 1) hx hb dL_law_566 (by decide) ?_
  refine lv_iadd hx hb dL_law_567 ?_
  refine lv_re (y := nI (j + 1)) (nI_add j 1) ?_
  refine va_sld hx hb hX hbl hbA hS (vp_in_nI (show j + 1 < L by omega) (by omega)) dL_law_568 ?_
  refine lv_re (y := xs (j + 1)) (congrArg xs (nI_clamp (show j + 1 < 2 ^ 31 by omega))) ?_
  refine wc_il hC hml (kX7_stopsAt l G q.1 (Z 12) (xs (j + 1)) (hm_of hI)) (cwV 1 hts gL_law_X7_stopsAt rfl rfl rfl (by decide +kernel) ⟨Nat.le_of_ble_eq_true rfl, Nat.le_of_ble_eq_true rfl⟩) hW hS (vM (by decide)) ce_m0 rfl rfl rfl rfl hl.1 (Nat.le_of_ble_eq_true rfl) ⟨Nat.le_of_ble_eq_true rfl, Nat.le_of_ble_eq_true rfl⟩ dL_law_569 (fun H locs hW hS => ?_)
  refine lv_icmp_eq (tgt := 850) hx hb dL_law_572 (by decide) (fun _ => ?_) (fun c9 => ?_)
  · exact kk _ H locs hnx hW hS
  · exact absurd han c9
set_option maxHeartbeats 4000000 in
set_option maxRecDepth 100000 in
theorem lc_nextStep {p : Program} {l : Launch} {e : Env} {s : State} {m : MethodId} {below : List Frame} {meth : Method} {c : Code} {H : Heap} {locs : List Loc} {Q : State → Prop} {ls : Array Slot} {G : wG} {Z : wZ} {b L j : Nat} {xs : Nat → Int32} {LR : wZ → Prop} (hC : wX p s m c cL_law #[Value.ref b] wsL_law RL G) (hml : c.maxLocals = 4) (hX : va_X b L xs s s.heap) (hbl : b < s.heap.size) (hbA : ¬ wA G b) (hL : L ≤ 2048) (hst : lS LR) (hLR : LR Z) (hj : j + 3 < L) (hW : wW G Z H) (hS : va_S (wA G) s.heap H locs) (hl : lv_has ls 4 [(3, .int (nI j)), (2, .ref (G.2.2.1 12 0)), (1, .ref (G.2.2.1 11 0)), (0, .ref b)]) (kk : ∀ (Z' : wZ) (H1 : Heap) (locs1 : List Loc), LR Z' → wW G Z' H1 → va_S (wA G) s.heap H1 locs1 → W p l e room_1 s m #[Value.ref b] below meth c H1 locs1 169 2451 Q (F0 m 850 ls [])) : W p l e room_1 s m #[Value.ref b] below meth c H locs 169 2451 Q (F0 m 577 ls []) := by
  have hx := hC.1
  have hb := hC.2.1
  have hts := hC.2.2.2.1
  obtain ⟨⟨M4, M, hI⟩, hkn, hln⟩ := hst.1 Z hLR
  refine lv_aload_n hx hb dL_law_577 rfl (lv_at hl 2 rfl) ?_
  refine lv_aload_n hx hb dL_law_578 rfl (lv_at hl 3 rfl) ?_
  refine lv_iload_n hx hb dL_law_579 rfl (lv_at hl 0 rfl) ?_
  refine lv_iconst (v := 1) hx hb dL_law_580 (by decide) ?_
  refine lv_iadd hx hb dL_law_581 ?_
  refine lv_re (y := nI (j + 1)) (nI_add j 1) ?_
  refine va_sld hx hb hX hbl hbA hS (vp_in_nI (show j + 1 < L by omega) (by omega)) dL_law_582 ?_
  refine lv_re (y := xs (j + 1)) (congrArg xs (nI_clamp (show j + 1 < 2 ^ 31 by omega))) ?_
  refine lv_aload_n hx hb dL_law_583 rfl (lv_at hl 3 rfl) ?_
  refine lv_iload_n hx hb dL_law_584 rfl (lv_at hl 0 rfl) ?_
  refine lv_iconst (v := 2) hx hb dL_law_585 (by decide) ?_
  refine lv_iadd hx hb dL_law_586 ?_
  refine lv_re (y := nI (j + 2)) (nI_add j 2) ?_
  refine va_sld hx hb hX hbl hbA hS (vp_in_nI (show j + 2 < L by omega) (by omega)) dL_law_587 ?_
  refine lv_re (y := xs (j + 2)) (congrArg xs (nI_clamp (show j + 2 < 2 ^ 31 by omega))) ?_
  have hs := hst.2.2.2.2.2.2.2.2.2.2.2.2.2.2.2.2.1 Z (xs (j + 1)) (xs (j + 2)) hLR
  refine wc_il hC hml (kX6_nextStep l G Z (xs (j + 1)) (xs (j + 2))) (cwV 2 hts gL_law_X6_nextStep rfl rfl rfl (by decide +kernel) ⟨Nat.le_of_ble_eq_true rfl, Nat.le_of_ble_eq_true rfl⟩) hW hS (vS (by decide)) we_s0 rfl rfl rfl rfl hl.1 (Nat.le_of_ble_eq_true rfl) ⟨Nat.le_of_ble_eq_true rfl, Nat.le_of_ble_eq_true rfl⟩ dL_law_588 (fun H locs hW hS => ?_)
  obtain ⟨q, eq⟩ : ∃ q : wZ × Int32, q = (fX6_nextStep Z (xs (j + 1)) (xs (j + 2))) := ⟨_, rfl⟩
  rw [← eq] at hs
  have hW : wW G q.1 H := by rw [eq]; exact hW
  refine lv_re (y := q.2) (by rw [eq]) ?_
  obtain ⟨h12, han, hnx⟩ := hs
  have hW : wW G (wset q.1 12 (Z 12)) H := by rw [← h12, wset_self]; exact hW
  refine lv_aload_n hx hb dL_law_591 rfl (lv_at hl 1 rfl) ?_
  refine lv_aload_n hx hb dL_law_592 rfl (lv_at hl 3 rfl) ?_
  refine lv_iload_n hx hb dL_law_593 rfl (lv_at hl 0 rfl) ?_
  refine lv_iconst (v := 1) hx hb dL_law_594 (by decide) ?_
  refine lv_iadd hx hb dL_law_595 ?_
  refine lv_re (y := nI (j + 1)) (nI_add j 1) ?_
  refine va_sld hx hb hX hbl hbA hS (vp_in_nI (show j + 1 < L by omega) (by omega)) dL_law_596 ?_
  refine lv_re (y := xs (j + 1)) (congrArg xs (nI_clamp (show j + 1 < 2 ^ 31 by omega))) ?_
  refine lv_aload_n hx hb dL_law_597 rfl (lv_at hl 3 rfl) ?_
  refine lv_iload_n hx hb dL_law_598 rfl (lv_at hl 0 rfl) ?_
  refine lv_iconst (v := 2) hx hb dL_law_599 (by decide) ?_
  refine lv_iadd hx hb dL_law_600 ?_
  refine lv_re (y := nI (j + 2)) (nI_add j 2) ?_
  refine va_sld hx hb hX hbl hbA hS (vp_in_nI (show j + 2 < L by omega) (by omega)) dL_law_601 ?_
  refine lv_re (y := xs (j + 2)) (congrArg xs (nI_clamp (show j + 2 < 2 ^ 31 by omega))) ?_
  refine wc_il hC hml (kX7_nextStep l G q.1 (Z 12) (xs (j + 1)) (xs (j + 2)) M M4 hI) (cwV 2 hts gL_law_X7_nextStep rfl rfl rfl (by decide +kernel) ⟨Nat.le_of_ble_eq_true rfl, Nat.le_of_ble_eq_true rfl⟩) hW hS (vM (by decide)) ce_m0 rfl rfl rfl rfl hl.1 (Nat.le_of_ble_eq_true rfl) ⟨Nat.le_of_ble_eq_true rfl, Nat.le_of_ble_eq_true rfl⟩ dL_law_602 (fun H locs hW hS => ?_)
  refine lv_icmp_eq (tgt := 850) hx hb dL_law_605 (by decide) (fun _ => ?_) (fun c9 => ?_)
  · exact kk _ H locs hnx hW hS
  · exact absurd han c9
set_option maxHeartbeats 4000000 in
set_option maxRecDepth 100000 in
theorem lc_moveOf {p : Program} {l : Launch} {e : Env} {s : State} {m : MethodId} {below : List Frame} {meth : Method} {c : Code} {H : Heap} {locs : List Loc} {Q : State → Prop} {ls : Array Slot} {G : wG} {Z : wZ} {b L j : Nat} {xs : Nat → Int32} {LR : wZ → Prop} (hC : wX p s m c cL_law #[Value.ref b] wsL_law RL G) (hml : c.maxLocals = 4) (hX : va_X b L xs s s.heap) (hbl : b < s.heap.size) (hbA : ¬ wA G b) (hL : L ≤ 2048) (hst : lS LR) (hLR : LR Z) (hj : j + 3 < L) (hW : wW G Z H) (hS : va_S (wA G) s.heap H locs) (hl : lv_has ls 4 [(3, .int (nI j)), (2, .ref (G.2.2.1 12 0)), (1, .ref (G.2.2.1 11 0)), (0, .ref b)]) (kk : ∀ (Z' : wZ) (H1 : Heap) (locs1 : List Loc), LR Z' → wW G Z' H1 → va_S (wA G) s.heap H1 locs1 → W p l e room_1 s m #[Value.ref b] below meth c H1 locs1 169 2451 Q (F0 m 850 ls [])) : W p l e room_1 s m #[Value.ref b] below meth c H locs 169 2451 Q (F0 m 610 ls []) := by
  have hx := hC.1
  have hb := hC.2.1
  have hts := hC.2.2.2.1
  obtain ⟨⟨M4, M, hI⟩, hkn, hln⟩ := hst.1 Z hLR
  refine lv_aload_n hx hb dL_law_610 rfl (lv_at hl 2 rfl) ?_
  refine lv_aload_n hx hb dL_law_611 rfl (lv_at hl 3 rfl) ?_
  refine lv_iload_n hx hb dL_law_612 rfl (lv_at hl 0 rfl) ?_
  refine lv_iconst (v := 1) hx hb dL_law_613 (by decide) ?_
  refine lv_iadd hx hb dL_law_614 ?_
  refine lv_re (y := nI (j + 1)) (nI_add j 1) ?_
  refine va_sld hx hb hX hbl hbA hS (vp_in_nI (show j + 1 < L by omega) (by omega)) dL_law_615 ?_
  refine lv_re (y := xs (j + 1)) (congrArg xs (nI_clamp (show j + 1 < 2 ^ 31 by omega))) ?_
  refine lv_aload_n hx hb dL_law_616 rfl (lv_at hl 3 rfl) ?_
  refine lv_iload_n hx hb dL_law_617 rfl (lv_at hl 0 rfl) ?_
  refine lv_iconst (v := 2) hx hb dL_law_618 (by decide) ?_
  refine lv_iadd hx hb dL_law_619 ?_
  refine lv_re (y := nI (j + 2)) (nI_add j 2) ?_
  refine va_sld hx hb hX hbl hbA hS (vp_in_nI (show j + 2 < L by omega) (by omega)) dL_law_620 ?_
  refine lv_re (y := xs (j + 2)) (congrArg xs (nI_clamp (show j + 2 < 2 ^ 31 by omega))) ?_
  have hs := hst.2.2.2.2.2.2.2.2.2.2.2.2.2.2.2.2.2.1 Z (xs (j + 1)) (xs (j + 2)) hLR
  refine wc_il hC hml (kX6_moveOf l G Z (xs (j + 1)) (xs (j + 2))) (cwV 2 hts gL_law_X6_moveOf rfl rfl rfl (by decide +kernel) ⟨Nat.le_of_ble_eq_true rfl, Nat.le_of_ble_eq_true rfl⟩) hW hS (vS (by decide)) we_s0 rfl rfl rfl rfl hl.1 (Nat.le_of_ble_eq_true rfl) ⟨Nat.le_of_ble_eq_true rfl, Nat.le_of_ble_eq_true rfl⟩ dL_law_621 (fun H locs hW hS => ?_)
  obtain ⟨q, eq⟩ : ∃ q : wZ × Int32, q = (Z, fX6_moveOf Z (xs (j + 1)) (xs (j + 2))) := ⟨_, rfl⟩
  rw [← eq] at hs
  have hW : wW G q.1 H := by rw [eq]; exact hW
  refine lv_re (y := q.2) (by rw [eq]) ?_
  obtain ⟨h12, han, hnx⟩ := hs
  have hW : wW G (wset q.1 12 (Z 12)) H := by rw [← h12, wset_self]; exact hW
  refine lv_aload_n hx hb dL_law_624 rfl (lv_at hl 1 rfl) ?_
  refine lv_aload_n hx hb dL_law_625 rfl (lv_at hl 3 rfl) ?_
  refine lv_iload_n hx hb dL_law_626 rfl (lv_at hl 0 rfl) ?_
  refine lv_iconst (v := 1) hx hb dL_law_627 (by decide) ?_
  refine lv_iadd hx hb dL_law_628 ?_
  refine lv_re (y := nI (j + 1)) (nI_add j 1) ?_
  refine va_sld hx hb hX hbl hbA hS (vp_in_nI (show j + 1 < L by omega) (by omega)) dL_law_629 ?_
  refine lv_re (y := xs (j + 1)) (congrArg xs (nI_clamp (show j + 1 < 2 ^ 31 by omega))) ?_
  refine lv_aload_n hx hb dL_law_630 rfl (lv_at hl 3 rfl) ?_
  refine lv_iload_n hx hb dL_law_631 rfl (lv_at hl 0 rfl) ?_
  refine lv_iconst (v := 2) hx hb dL_law_632 (by decide) ?_
  refine lv_iadd hx hb dL_law_633 ?_
  refine lv_re (y := nI (j + 2)) (nI_add j 2) ?_
  refine va_sld hx hb hX hbl hbA hS (vp_in_nI (show j + 2 < L by omega) (by omega)) dL_law_634 ?_
  refine lv_re (y := xs (j + 2)) (congrArg xs (nI_clamp (show j + 2 < 2 ^ 31 by omega))) ?_
  refine wc_il hC hml (kX7_moveOf l G q.1 (Z 12) (xs (j + 1)) (xs (j + 2)) hI.1.2.2.2.2) (cwV 2 hts gL_law_X7_moveOf rfl rfl rfl (by decide +kernel) ⟨Nat.le_of_ble_eq_true rfl, Nat.le_of_ble_eq_true rfl⟩) hW hS (vM (by decide)) ce_m0 rfl rfl rfl rfl hl.1 (Nat.le_of_ble_eq_true rfl) ⟨Nat.le_of_ble_eq_true rfl, Nat.le_of_ble_eq_true rfl⟩ dL_law_635 (fun H locs hW hS => ?_)
  refine lv_icmp_eq (tgt := 850) hx hb dL_law_638 (by decide) (fun _ => ?_) (fun c9 => ?_)
  · exact kk _ H locs hnx hW hS
  · exact absurd han c9
set_option maxHeartbeats 4000000 in
set_option maxRecDepth 100000 in
theorem lc_bestGain {p : Program} {l : Launch} {e : Env} {s : State} {m : MethodId} {below : List Frame} {meth : Method} {c : Code} {H : Heap} {locs : List Loc} {Q : State → Prop} {ls : Array Slot} {G : wG} {Z : wZ} {b L j : Nat} {xs : Nat → Int32} {LR : wZ → Prop} (hC : wX p s m c cL_law #[Value.ref b] wsL_law RL G) (hml : c.maxLocals = 4) (hX : va_X b L xs s s.heap) (hbl : b < s.heap.size) (hbA : ¬ wA G b) (hL : L ≤ 2048) (hst : lS LR) (hLR : LR Z) (hj : j + 3 < L) (hW : wW G Z H) (hS : va_S (wA G) s.heap H locs) (hl : lv_has ls 4 [(3, .int (nI j)), (2, .ref (G.2.2.1 12 0)), (1, .ref (G.2.2.1 11 0)), (0, .ref b)]) (kk : ∀ (Z' : wZ) (H1 : Heap) (locs1 : List Loc), LR Z' → wW G Z' H1 → va_S (wA G) s.heap H1 locs1 → W p l e room_1 s m #[Value.ref b] below meth c H1 locs1 169 2451 Q (F0 m 850 ls [])) : W p l e room_1 s m #[Value.ref b] below meth c H locs 169 2451 Q (F0 m 643 ls []) := by
  have hx := hC.1
  have hb := hC.2.1
  have hts := hC.2.2.2.1
  obtain ⟨⟨M4, M, hI⟩, hkn, hln⟩ := hst.1 Z hLR
  refine lv_aload_n hx hb dL_law_643 rfl (lv_at hl 2 rfl) ?_
  refine lv_aload_n hx hb dL_law_644 rfl (lv_at hl 3 rfl) ?_
  refine lv_iload_n hx hb dL_law_645 rfl (lv_at hl 0 rfl) ?_
  refine lv_iconst (v := 1) hx hb dL_law_646 (by decide) ?_
  refine lv_iadd hx hb dL_law_647 ?_
  refine lv_re (y := nI (j + 1)) (nI_add j 1) ?_
  refine va_sld hx hb hX hbl hbA hS (vp_in_nI (show j + 1 < L by omega) (by omega)) dL_law_648 ?_
  refine lv_re (y := xs (j + 1)) (congrArg xs (nI_clamp (show j + 1 < 2 ^ 31 by omega))) ?_
  refine lv_aload_n hx hb dL_law_649 rfl (lv_at hl 3 rfl) ?_
  refine lv_iload_n hx hb dL_law_650 rfl (lv_at hl 0 rfl) ?_
  refine lv_iconst (v := 2) hx hb dL_law_651 (by decide) ?_
  refine lv_iadd hx hb dL_law_652 ?_
  refine lv_re (y := nI (j + 2)) (nI_add j 2) ?_
  refine va_sld hx hb hX hbl hbA hS (vp_in_nI (show j + 2 < L by omega) (by omega)) dL_law_653 ?_
  refine lv_re (y := xs (j + 2)) (congrArg xs (nI_clamp (show j + 2 < 2 ^ 31 by omega))) ?_
  have hs := hst.2.2.2.2.2.2.2.2.2.2.2.2.2.2.2.2.2.2.1 Z (xs (j + 1)) (xs (j + 2)) hLR
  refine wc_il hC hml (kX6_bestGain l G Z (xs (j + 1)) (xs (j + 2))) (cwV 2 hts gL_law_X6_bestGain rfl rfl rfl (by decide +kernel) ⟨Nat.le_of_ble_eq_true rfl, Nat.le_of_ble_eq_true rfl⟩) hW hS (vS (by decide)) we_s0 rfl rfl rfl rfl hl.1 (Nat.le_of_ble_eq_true rfl) ⟨Nat.le_of_ble_eq_true rfl, Nat.le_of_ble_eq_true rfl⟩ dL_law_654 (fun H locs hW hS => ?_)
  obtain ⟨q, eq⟩ : ∃ q : wZ × Int32, q = (fX6_bestGain Z (xs (j + 1)) (xs (j + 2))) := ⟨_, rfl⟩
  rw [← eq] at hs
  have hW : wW G q.1 H := by rw [eq]; exact hW
  refine lv_re (y := q.2) (by rw [eq]) ?_
  obtain ⟨h12, han, hnx⟩ := hs
  have hW : wW G (wset q.1 12 (Z 12)) H := by rw [← h12, wset_self]; exact hW
  refine lv_aload_n hx hb dL_law_657 rfl (lv_at hl 1 rfl) ?_
  refine lv_aload_n hx hb dL_law_658 rfl (lv_at hl 3 rfl) ?_
  refine lv_iload_n hx hb dL_law_659 rfl (lv_at hl 0 rfl) ?_
  refine lv_iconst (v := 1) hx hb dL_law_660 (by decide) ?_
  refine lv_iadd hx hb dL_law_661 ?_
  refine lv_re (y := nI (j + 1)) (nI_add j 1) ?_
  refine va_sld hx hb hX hbl hbA hS (vp_in_nI (show j + 1 < L by omega) (by omega)) dL_law_662 ?_
  refine lv_re (y := xs (j + 1)) (congrArg xs (nI_clamp (show j + 1 < 2 ^ 31 by omega))) ?_
  refine lv_aload_n hx hb dL_law_663 rfl (lv_at hl 3 rfl) ?_
  refine lv_iload_n hx hb dL_law_664 rfl (lv_at hl 0 rfl) ?_
  refine lv_iconst (v := 2) hx hb dL_law_665 (by decide) ?_
  refine lv_iadd hx hb dL_law_666 ?_
  refine lv_re (y := nI (j + 2)) (nI_add j 2) ?_
  refine va_sld hx hb hX hbl hbA hS (vp_in_nI (show j + 2 < L by omega) (by omega)) dL_law_667 ?_
  refine lv_re (y := xs (j + 2)) (congrArg xs (nI_clamp (show j + 2 < 2 ^ 31 by omega))) ?_
  refine wc_il hC hml (kX7_bestGain l G q.1 (Z 12) (xs (j + 1)) (xs (j + 2)) ) (cwV 2 hts gL_law_X7_bestGain rfl rfl rfl (by decide +kernel) ⟨Nat.le_of_ble_eq_true rfl, Nat.le_of_ble_eq_true rfl⟩) hW hS (vM (by decide)) ce_m0 rfl rfl rfl rfl hl.1 (Nat.le_of_ble_eq_true rfl) ⟨Nat.le_of_ble_eq_true rfl, Nat.le_of_ble_eq_true rfl⟩ dL_law_668 (fun H locs hW hS => ?_)
  refine lv_icmp_eq (tgt := 850) hx hb dL_law_671 (by decide) (fun _ => ?_) (fun c9 => ?_)
  · exact kk _ H locs hnx hW hS
  · exact absurd han c9
set_option maxHeartbeats 4000000 in
set_option maxRecDepth 100000 in
theorem lc_bears {p : Program} {l : Launch} {e : Env} {s : State} {m : MethodId} {below : List Frame} {meth : Method} {c : Code} {H : Heap} {locs : List Loc} {Q : State → Prop} {ls : Array Slot} {G : wG} {Z : wZ} {b L j : Nat} {xs : Nat → Int32} {LR : wZ → Prop} (hC : wX p s m c cL_law #[Value.ref b] wsL_law RL G) (hml : c.maxLocals = 4) (hX : va_X b L xs s s.heap) (hbl : b < s.heap.size) (hbA : ¬ wA G b) (hL : L ≤ 2048) (hst : lS LR) (hLR : LR Z) (hj : j + 3 < L) (hW : wW G Z H) (hS : va_S (wA G) s.heap H locs) (hl : lv_has ls 4 [(3, .int (nI j)), (2, .ref (G.2.2.1 12 0)), (1, .ref (G.2.2.1 11 0)), (0, .ref b)]) (kk : ∀ (Z' : wZ) (H1 : Heap) (locs1 : List Loc), LR Z' → wW G Z' H1 → va_S (wA G) s.heap H1 locs1 → W p l e room_1 s m #[Value.ref b] below meth c H1 locs1 169 2451 Q (F0 m 850 ls [])) : W p l e room_1 s m #[Value.ref b] below meth c H locs 169 2451 Q (F0 m 676 ls []) := by
  have hx := hC.1
  have hb := hC.2.1
  have hts := hC.2.2.2.1
  obtain ⟨⟨M4, M, hI⟩, hkn, hln⟩ := hst.1 Z hLR
  refine lv_aload_n hx hb dL_law_676 rfl (lv_at hl 2 rfl) ?_
  refine lv_aload_n hx hb dL_law_677 rfl (lv_at hl 3 rfl) ?_
  refine lv_iload_n hx hb dL_law_678 rfl (lv_at hl 0 rfl) ?_
  refine lv_iconst (v := 1) hx hb dL_law_679 (by decide) ?_
  refine lv_iadd hx hb dL_law_680 ?_
  refine lv_re (y := nI (j + 1)) (nI_add j 1) ?_
  refine va_sld hx hb hX hbl hbA hS (vp_in_nI (show j + 1 < L by omega) (by omega)) dL_law_681 ?_
  refine lv_re (y := xs (j + 1)) (congrArg xs (nI_clamp (show j + 1 < 2 ^ 31 by omega))) ?_
  have hs := hst.2.2.2.2.2.2.2.2.2.2.2.2.2.2.2.2.2.2.2.1 Z (xs (j + 1)) hLR
  refine wc_il hC hml (kX6_bears l G Z (xs (j + 1))) (cwV 1 hts gL_law_X6_bears rfl rfl rfl (by decide +kernel) ⟨Nat.le_of_ble_eq_true rfl, Nat.le_of_ble_eq_true rfl⟩) hW hS (vS (by decide)) we_s0 rfl rfl rfl rfl hl.1 (Nat.le_of_ble_eq_true rfl) ⟨Nat.le_of_ble_eq_true rfl, Nat.le_of_ble_eq_true rfl⟩ dL_law_682 (fun H locs hW hS => ?_)
  obtain ⟨q, eq⟩ : ∃ q : wZ × Int32, q = (Z, fX6_bears Z (xs (j + 1))) := ⟨_, rfl⟩
  rw [← eq] at hs
  have hW : wW G q.1 H := by rw [eq]; exact hW
  refine lv_re (y := q.2) (by rw [eq]) ?_
  obtain ⟨h12, han, hnx⟩ := hs
  have hW : wW G (wset q.1 12 (Z 12)) H := by rw [← h12, wset_self]; exact hW
  refine lv_aload_n hx hb dL_law_685 rfl (lv_at hl 1 rfl) ?_
  refine lv_aload_n hx hb dL_law_686 rfl (lv_at hl 3 rfl) ?_
  refine lv_iload_n hx hb dL_law_687 rfl (lv_at hl 0 rfl) ?_
  refine lv_iconst (v := 1) hx hb dL_law_688 (by decide) ?_
  refine lv_iadd hx hb dL_law_689 ?_
  refine lv_re (y := nI (j + 1)) (nI_add j 1) ?_
  refine va_sld hx hb hX hbl hbA hS (vp_in_nI (show j + 1 < L by omega) (by omega)) dL_law_690 ?_
  refine lv_re (y := xs (j + 1)) (congrArg xs (nI_clamp (show j + 1 < 2 ^ 31 by omega))) ?_
  refine wc_il hC hml (kX7_bears l G q.1 (Z 12) (xs (j + 1)) (hm_of hI)) (cwV 1 hts gL_law_X7_bears rfl rfl rfl (by decide +kernel) ⟨Nat.le_of_ble_eq_true rfl, Nat.le_of_ble_eq_true rfl⟩) hW hS (vM (by decide)) ce_m0 rfl rfl rfl rfl hl.1 (Nat.le_of_ble_eq_true rfl) ⟨Nat.le_of_ble_eq_true rfl, Nat.le_of_ble_eq_true rfl⟩ dL_law_691 (fun H locs hW hS => ?_)
  refine lv_icmp_eq (tgt := 850) hx hb dL_law_694 (by decide) (fun _ => ?_) (fun c9 => ?_)
  · exact kk _ H locs hnx hW hS
  · exact absurd han c9
set_option maxHeartbeats 4000000 in
set_option maxRecDepth 100000 in
theorem lc_put {p : Program} {l : Launch} {e : Env} {s : State} {m : MethodId} {below : List Frame} {meth : Method} {c : Code} {H : Heap} {locs : List Loc} {Q : State → Prop} {ls : Array Slot} {G : wG} {Z : wZ} {b L j : Nat} {xs : Nat → Int32} {LR : wZ → Prop} (hC : wX p s m c cL_law #[Value.ref b] wsL_law RL G) (hml : c.maxLocals = 4) (hX : va_X b L xs s s.heap) (hbl : b < s.heap.size) (hbA : ¬ wA G b) (hL : L ≤ 2048) (hst : lS LR) (hLR : LR Z) (hj : j + 3 < L) (hW : wW G Z H) (hS : va_S (wA G) s.heap H locs) (hl : lv_has ls 4 [(3, .int (nI j)), (2, .ref (G.2.2.1 12 0)), (1, .ref (G.2.2.1 11 0)), (0, .ref b)]) (kk : ∀ (Z' : wZ) (H1 : Heap) (locs1 : List Loc), LR Z' → wW G Z' H1 → va_S (wA G) s.heap H1 locs1 → W p l e room_1 s m #[Value.ref b] below meth c H1 locs1 169 2451 Q (F0 m 850 ls [])) : W p l e room_1 s m #[Value.ref b] below meth c H locs 169 2451 Q (F0 m 699 ls []) := by
  have hx := hC.1
  have hb := hC.2.1
  have hts := hC.2.2.2.1
  obtain ⟨⟨M4, M, hI⟩, hkn, hln⟩ := hst.1 Z hLR
  have hk92 := hts (.constantLong RL 92 4294967295) (by decide +kernel)
  refine lv_aload_n hx hb dL_law_699 rfl (lv_at hl 2 rfl) ?_
  refine lv_aload_n hx hb dL_law_700 rfl (lv_at hl 3 rfl) ?_
  refine lv_iload_n hx hb dL_law_701 rfl (lv_at hl 0 rfl) ?_
  refine lv_iconst (v := 1) hx hb dL_law_702 (by decide) ?_
  refine lv_iadd hx hb dL_law_703 ?_
  refine lv_re (y := nI (j + 1)) (nI_add j 1) ?_
  refine va_sld hx hb hX hbl hbA hS (vp_in_nI (show j + 1 < L by omega) (by omega)) dL_law_704 ?_
  refine lv_re (y := xs (j + 1)) (congrArg xs (nI_clamp (show j + 1 < 2 ^ 31 by omega))) ?_
  refine lv_i2l (v := (xs (j + 1)).toInt64) hx hb dL_law_705 rfl ?_
  refine lv_bipush (v := 32) hx hb dL_law_706 (by decide) ?_
  refine lv_lshl (v := ((xs (j + 1)).toInt64 <<< ((32 : Int32).toInt64 &&& 63))) hx hb dL_law_708 rfl ?_
  refine lv_aload_n hx hb dL_law_709 rfl (lv_at hl 3 rfl) ?_
  refine lv_iload_n hx hb dL_law_710 rfl (lv_at hl 0 rfl) ?_
  refine lv_iconst (v := 2) hx hb dL_law_711 (by decide) ?_
  refine lv_iadd hx hb dL_law_712 ?_
  refine lv_re (y := nI (j + 2)) (nI_add j 2) ?_
  refine va_sld hx hb hX hbl hbA hS (vp_in_nI (show j + 2 < L by omega) (by omega)) dL_law_713 ?_
  refine lv_re (y := xs (j + 2)) (congrArg xs (nI_clamp (show j + 2 < 2 ^ 31 by omega))) ?_
  refine lv_i2l (v := (xs (j + 2)).toInt64) hx hb dL_law_714 rfl ?_
  refine lv_ldc2 (v := 4294967295) hx hb hC.2.2.1 hk92 dL_law_715 ?_
  refine lv_land hx hb dL_law_718 ?_
  refine lv_lor hx hb dL_law_719 ?_
  have hs := hst.2.2.2.2.2.2.2.2.2.2.2.2.2.2.2.2.2.2.2.2.1 Z (((xs (j + 1)).toInt64 <<< ((32 : Int32).toInt64 &&& 63)) ||| ((xs (j + 2)).toInt64 &&& 4294967295)) hLR
  refine wc_il hC hml (kX6_put l G Z (((xs (j + 1)).toInt64 <<< ((32 : Int32).toInt64 &&& 63)) ||| ((xs (j + 2)).toInt64 &&& 4294967295))) (cwV 1 hts gL_law_X6_put rfl rfl rfl (by decide +kernel) ⟨Nat.le_of_ble_eq_true rfl, Nat.le_of_ble_eq_true rfl⟩) hW hS (vS (by decide)) we_s0 rfl rfl rfl rfl hl.1 (Nat.le_of_ble_eq_true rfl) ⟨Nat.le_of_ble_eq_true rfl, Nat.le_of_ble_eq_true rfl⟩ dL_law_720 (fun H locs hW hS => ?_)
  obtain ⟨q, eq⟩ : ∃ q : wZ × Int32, q = (fX6_put Z (((xs (j + 1)).toInt64 <<< ((32 : Int32).toInt64 &&& 63)) ||| ((xs (j + 2)).toInt64 &&& 4294967295))) := ⟨_, rfl⟩
  rw [← eq] at hs
  have hW : wW G q.1 H := by rw [eq]; exact hW
  refine lv_re (y := q.2) (by rw [eq]) ?_
  obtain ⟨h12, han, hnx⟩ := hs
  have hW : wW G (wset q.1 12 (Z 12)) H := by rw [← h12, wset_self]; exact hW
  refine lv_aload_n hx hb dL_law_723 rfl (lv_at hl 1 rfl) ?_
  refine lv_aload_n hx hb dL_law_724 rfl (lv_at hl 3 rfl) ?_
  refine lv_iload_n hx hb dL_law_725 rfl (lv_at hl 0 rfl) ?_
  refine lv_iconst (v := 1) hx hb dL_law_726 (by decide) ?_
  refine lv_iadd hx hb dL_law_727 ?_
  refine lv_re (y := nI (j + 1)) (nI_add j 1) ?_
  refine va_sld hx hb hX hbl hbA hS (vp_in_nI (show j + 1 < L by omega) (by omega)) dL_law_728 ?_
  refine lv_re (y := xs (j + 1)) (congrArg xs (nI_clamp (show j + 1 < 2 ^ 31 by omega))) ?_
  refine lv_i2l (v := (xs (j + 1)).toInt64) hx hb dL_law_729 rfl ?_
  refine lv_bipush (v := 32) hx hb dL_law_730 (by decide) ?_
  refine lv_lshl (v := ((xs (j + 1)).toInt64 <<< ((32 : Int32).toInt64 &&& 63))) hx hb dL_law_732 rfl ?_
  refine lv_aload_n hx hb dL_law_733 rfl (lv_at hl 3 rfl) ?_
  refine lv_iload_n hx hb dL_law_734 rfl (lv_at hl 0 rfl) ?_
  refine lv_iconst (v := 2) hx hb dL_law_735 (by decide) ?_
  refine lv_iadd hx hb dL_law_736 ?_
  refine lv_re (y := nI (j + 2)) (nI_add j 2) ?_
  refine va_sld hx hb hX hbl hbA hS (vp_in_nI (show j + 2 < L by omega) (by omega)) dL_law_737 ?_
  refine lv_re (y := xs (j + 2)) (congrArg xs (nI_clamp (show j + 2 < 2 ^ 31 by omega))) ?_
  refine lv_i2l (v := (xs (j + 2)).toInt64) hx hb dL_law_738 rfl ?_
  refine lv_ldc2 (v := 4294967295) hx hb hC.2.2.1 hk92 dL_law_739 ?_
  refine lv_land hx hb dL_law_742 ?_
  refine lv_lor hx hb dL_law_743 ?_
  refine wc_il hC hml (kX7_put l G q.1 (Z 12) (((xs (j + 1)).toInt64 <<< ((32 : Int32).toInt64 &&& 63)) ||| ((xs (j + 2)).toInt64 &&& 4294967295)) hln) (cwV 1 hts gL_law_X7_put rfl rfl rfl (by decide +kernel) ⟨Nat.le_of_ble_eq_true rfl, Nat.le_of_ble_eq_true rfl⟩) hW hS (vM (by decide)) ce_m0 rfl rfl rfl rfl hl.1 (Nat.le_of_ble_eq_true rfl) ⟨Nat.le_of_ble_eq_true rfl, Nat.le_of_ble_eq_true rfl⟩ dL_law_744 (fun H locs hW hS => ?_)
  refine lv_icmp_eq (tgt := 850) hx hb dL_law_747 (by decide) (fun _ => ?_) (fun c9 => ?_)
  · exact kk _ H locs hnx hW hS
  · exact absurd han c9
set_option maxHeartbeats 4000000 in
set_option maxRecDepth 100000 in
theorem lc_wipe {p : Program} {l : Launch} {e : Env} {s : State} {m : MethodId} {below : List Frame} {meth : Method} {c : Code} {H : Heap} {locs : List Loc} {Q : State → Prop} {ls : Array Slot} {G : wG} {Z : wZ} {b L j : Nat} {xs : Nat → Int32} {LR : wZ → Prop} (hC : wX p s m c cL_law #[Value.ref b] wsL_law RL G) (hml : c.maxLocals = 4) (hX : va_X b L xs s s.heap) (hbl : b < s.heap.size) (hbA : ¬ wA G b) (hL : L ≤ 2048) (hst : lS LR) (hLR : LR Z) (hj : j + 3 < L) (hW : wW G Z H) (hS : va_S (wA G) s.heap H locs) (hl : lv_has ls 4 [(3, .int (nI j)), (2, .ref (G.2.2.1 12 0)), (1, .ref (G.2.2.1 11 0)), (0, .ref b)]) (kk : ∀ (Z' : wZ) (H1 : Heap) (locs1 : List Loc), LR Z' → wW G Z' H1 → va_S (wA G) s.heap H1 locs1 → W p l e room_1 s m #[Value.ref b] below meth c H1 locs1 169 2451 Q (F0 m 850 ls [])) : W p l e room_1 s m #[Value.ref b] below meth c H locs 169 2451 Q (F0 m 752 ls []) := by
  have hx := hC.1
  have hb := hC.2.1
  have hts := hC.2.2.2.1
  obtain ⟨⟨M4, M, hI⟩, hkn, hln⟩ := hst.1 Z hLR
  refine lv_aload_n hx hb dL_law_752 rfl (lv_at hl 2 rfl) ?_
  have hs := hst.2.2.2.2.2.2.2.2.2.2.2.2.2.2.2.2.2.2.2.2.2.1 Z hLR
  refine wc_il hC hml (kX6_wipe l G Z) (cwV 0 hts gL_law_X6_wipe rfl rfl rfl (by decide +kernel) ⟨Nat.le_of_ble_eq_true rfl, Nat.le_of_ble_eq_true rfl⟩) hW hS (vS (by decide)) we_s0 rfl rfl rfl rfl hl.1 (Nat.le_of_ble_eq_true rfl) ⟨Nat.le_of_ble_eq_true rfl, Nat.le_of_ble_eq_true rfl⟩ dL_law_753 (fun H locs hW hS => ?_)
  obtain ⟨q, eq⟩ : ∃ q : wZ × Int32, q = (fX6_wipe Z) := ⟨_, rfl⟩
  rw [← eq] at hs
  have hW : wW G q.1 H := by rw [eq]; exact hW
  refine lv_re (y := q.2) (by rw [eq]) ?_
  obtain ⟨h12, han, hnx⟩ := hs
  have hW : wW G (wset q.1 12 (Z 12)) H := by rw [← h12, wset_self]; exact hW
  refine lv_aload_n hx hb dL_law_756 rfl (lv_at hl 1 rfl) ?_
  refine wc_il hC hml (kX7_wipe l G q.1 (Z 12) ) (cwV 0 hts gL_law_X7_wipe rfl rfl rfl (by decide +kernel) ⟨Nat.le_of_ble_eq_true rfl, Nat.le_of_ble_eq_true rfl⟩) hW hS (vM (by decide)) ce_m0 rfl rfl rfl rfl hl.1 (Nat.le_of_ble_eq_true rfl) ⟨Nat.le_of_ble_eq_true rfl, Nat.le_of_ble_eq_true rfl⟩ dL_law_757 (fun H locs hW hS => ?_)
  refine lv_icmp_eq (tgt := 850) hx hb dL_law_760 (by decide) (fun _ => ?_) (fun c9 => ?_)
  · exact kk _ H locs hnx hW hS
  · exact absurd han c9

set_option maxHeartbeats 4000000 in
set_option maxRecDepth 100000 in
theorem lc_fault {p : Program} {l : Launch} {e : Env} {s : State} {m : MethodId} {below : List Frame} {meth : Method} {c : Code} {H : Heap} {locs : List Loc} {Q : State → Prop} {ls : Array Slot} {G : wG} {Z : wZ} {b L j : Nat} {xs : Nat → Int32} {LR : wZ → Prop} (hC : wX p s m c cL_law #[Value.ref b] wsL_law RL G) (hml : c.maxLocals = 4) (hX : va_X b L xs s s.heap) (hbl : b < s.heap.size) (hbA : ¬ wA G b) (hL : L ≤ 2048) (hst : lS LR) (hLR : LR Z) (hj : j + 3 < L) (hW : wW G Z H) (hS : va_S (wA G) s.heap H locs) (hl : lv_has ls 4 [(3, .int (nI j)), (2, .ref (G.2.2.1 12 0)), (1, .ref (G.2.2.1 11 0)), (0, .ref b)]) (kk : ∀ (Z' : wZ) (H1 : Heap) (locs1 : List Loc), LR Z' → wW G Z' H1 → va_S (wA G) s.heap H1 locs1 → W p l e room_1 s m #[Value.ref b] below meth c H1 locs1 169 2451 Q (F0 m 850 ls [])) : W p l e room_1 s m #[Value.ref b] below meth c H locs 169 2451 Q (F0 m 765 ls []) := by
  have hx := hC.1
  have hb := hC.2.1
  have hts := hC.2.2.2.1
  obtain ⟨⟨M4, M, hI⟩, hkn, hln⟩ := hst.1 Z hLR
  refine lv_aload_n hx hb dL_law_765 rfl (lv_at hl 2 rfl) ?_
  have hs := hst.2.2.2.2.2.2.2.2.2.2.2.2.2.2.2.2.2.2.2.2.2.2.1 Z hLR
  refine wc_il hC hml (kX6_fault l G Z) (cwV 0 hts gL_law_X6_fault rfl rfl rfl (by decide +kernel) ⟨Nat.le_of_ble_eq_true rfl, Nat.le_of_ble_eq_true rfl⟩) hW hS (vS (by decide)) we_s0 rfl rfl rfl rfl hl.1 (Nat.le_of_ble_eq_true rfl) ⟨Nat.le_of_ble_eq_true rfl, Nat.le_of_ble_eq_true rfl⟩ dL_law_766 (fun H locs hW hS => ?_)
  obtain ⟨q, eq⟩ : ∃ q : wZ × Int32, q = (fX6_fault Z) := ⟨_, rfl⟩
  rw [← eq] at hs
  have hW : wW G q.1 H := by rw [eq]; exact hW
  refine lv_re (y := q.2) (by rw [eq]) ?_
  obtain ⟨h12, han, hnx⟩ := hs
  have hW : wW G (wset q.1 12 (Z 12)) H := by rw [← h12, wset_self]; exact hW
  refine lv_aload_n hx hb dL_law_769 rfl (lv_at hl 1 rfl) ?_
  refine wc_il hC hml (kX7_fault l G q.1 (Z 12) hln.2) (cwV 0 hts gL_law_X7_fault rfl rfl rfl (by decide +kernel) ⟨Nat.le_of_ble_eq_true rfl, Nat.le_of_ble_eq_true rfl⟩) hW hS (vM (by decide)) ce_m0 rfl rfl rfl rfl hl.1 (Nat.le_of_ble_eq_true rfl) ⟨Nat.le_of_ble_eq_true rfl, Nat.le_of_ble_eq_true rfl⟩ dL_law_770 (fun H locs hW hS => ?_)
  refine lv_icmp_eq (tgt := 850) hx hb dL_law_773 (by decide) (fun _ => ?_) (fun c9 => ?_)
  · exact kk _ H locs hnx hW hS
  · exact absurd han c9
set_option maxHeartbeats 4000000 in
set_option maxRecDepth 100000 in
theorem lc_carryOut {p : Program} {l : Launch} {e : Env} {s : State} {m : MethodId} {below : List Frame} {meth : Method} {c : Code} {H : Heap} {locs : List Loc} {Q : State → Prop} {ls : Array Slot} {G : wG} {Z : wZ} {b L j : Nat} {xs : Nat → Int32} {LR : wZ → Prop} (hC : wX p s m c cL_law #[Value.ref b] wsL_law RL G) (hml : c.maxLocals = 4) (hX : va_X b L xs s s.heap) (hbl : b < s.heap.size) (hbA : ¬ wA G b) (hL : L ≤ 2048) (hst : lS LR) (hLR : LR Z) (hj : j + 3 < L) (hW : wW G Z H) (hS : va_S (wA G) s.heap H locs) (hl : lv_has ls 4 [(3, .int (nI j)), (2, .ref (G.2.2.1 12 0)), (1, .ref (G.2.2.1 11 0)), (0, .ref b)]) (kk : ∀ (Z' : wZ) (H1 : Heap) (locs1 : List Loc), LR Z' → wW G Z' H1 → va_S (wA G) s.heap H1 locs1 → W p l e room_1 s m #[Value.ref b] below meth c H1 locs1 169 2451 Q (F0 m 850 ls [])) : W p l e room_1 s m #[Value.ref b] below meth c H locs 169 2451 Q (F0 m 778 ls []) := by
  have hx := hC.1
  have hb := hC.2.1
  have hts := hC.2.2.2.1
  obtain ⟨⟨M4, M, hI⟩, hkn, hln⟩ := hst.1 Z hLR
  refine lv_aload_n hx hb dL_law_778 rfl (lv_at hl 2 rfl) ?_
  have hs := hst.2.2.2.2.2.2.2.2.2.2.2.2.2.2.2.2.2.2.2.2.2.2.2.1 Z hLR
  refine wc_il hC hml (kX6_carryOut l G Z) (cwV 0 hts gL_law_X6_carryOut rfl rfl rfl (by decide +kernel) ⟨Nat.le_of_ble_eq_true rfl, Nat.le_of_ble_eq_true rfl⟩) hW hS (vS (by decide)) we_s0 rfl rfl rfl rfl hl.1 (Nat.le_of_ble_eq_true rfl) ⟨Nat.le_of_ble_eq_true rfl, Nat.le_of_ble_eq_true rfl⟩ dL_law_779 (fun H locs hW hS => ?_)
  obtain ⟨q, eq⟩ : ∃ q : wZ × Int32, q = (fX6_carryOut Z) := ⟨_, rfl⟩
  rw [← eq] at hs
  have hW : wW G q.1 H := by rw [eq]; exact hW
  refine lv_re (y := q.2) (by rw [eq]) ?_
  obtain ⟨h12, han, hnx⟩ := hs
  have hW : wW G (wset q.1 12 (Z 12)) H := by rw [← h12, wset_self]; exact hW
  refine lv_aload_n hx hb dL_law_782 rfl (lv_at hl 1 rfl) ?_
  refine wc_il hC hml (kX7_carryOut l G q.1 (Z 12) M M4 hI hkn hln) (cwV 0 hts gL_law_X7_carryOut rfl rfl rfl (by decide +kernel) ⟨Nat.le_of_ble_eq_true rfl, Nat.le_of_ble_eq_true rfl⟩) hW hS (vM (by decide)) ce_m0 rfl rfl rfl rfl hl.1 (Nat.le_of_ble_eq_true rfl) ⟨Nat.le_of_ble_eq_true rfl, Nat.le_of_ble_eq_true rfl⟩ dL_law_783 (fun H locs hW hS => ?_)
  refine lv_icmp_eq (tgt := 850) hx hb dL_law_786 (by decide) (fun _ => ?_) (fun c9 => ?_)
  · exact kk _ H locs hnx hW hS
  · exact absurd han c9
set_option maxHeartbeats 4000000 in
set_option maxRecDepth 100000 in
theorem lc_undo {p : Program} {l : Launch} {e : Env} {s : State} {m : MethodId} {below : List Frame} {meth : Method} {c : Code} {H : Heap} {locs : List Loc} {Q : State → Prop} {ls : Array Slot} {G : wG} {Z : wZ} {b L j : Nat} {xs : Nat → Int32} {LR : wZ → Prop} (hC : wX p s m c cL_law #[Value.ref b] wsL_law RL G) (hml : c.maxLocals = 4) (hX : va_X b L xs s s.heap) (hbl : b < s.heap.size) (hbA : ¬ wA G b) (hL : L ≤ 2048) (hst : lS LR) (hLR : LR Z) (hj : j + 3 < L) (hW : wW G Z H) (hS : va_S (wA G) s.heap H locs) (hl : lv_has ls 4 [(3, .int (nI j)), (2, .ref (G.2.2.1 12 0)), (1, .ref (G.2.2.1 11 0)), (0, .ref b)]) (kk : ∀ (Z' : wZ) (H1 : Heap) (locs1 : List Loc), LR Z' → wW G Z' H1 → va_S (wA G) s.heap H1 locs1 → W p l e room_1 s m #[Value.ref b] below meth c H1 locs1 169 2451 Q (F0 m 850 ls [])) : W p l e room_1 s m #[Value.ref b] below meth c H locs 169 2451 Q (F0 m 791 ls []) := by
  have hx := hC.1
  have hb := hC.2.1
  have hts := hC.2.2.2.1
  obtain ⟨⟨M4, M, hI⟩, hkn, hln⟩ := hst.1 Z hLR
  refine lv_aload_n hx hb dL_law_791 rfl (lv_at hl 2 rfl) ?_
  have hs := hst.2.2.2.2.2.2.2.2.2.2.2.2.2.2.2.2.2.2.2.2.2.2.2.2.1 Z hLR
  refine wc_il hC hml (kX6_undo l G Z) (cwV 0 hts gL_law_X6_undo rfl rfl rfl (by decide +kernel) ⟨Nat.le_of_ble_eq_true rfl, Nat.le_of_ble_eq_true rfl⟩) hW hS (vS (by decide)) we_s0 rfl rfl rfl rfl hl.1 (Nat.le_of_ble_eq_true rfl) ⟨Nat.le_of_ble_eq_true rfl, Nat.le_of_ble_eq_true rfl⟩ dL_law_792 (fun H locs hW hS => ?_)
  obtain ⟨q, eq⟩ : ∃ q : wZ × Int32, q = (fX6_undo Z) := ⟨_, rfl⟩
  rw [← eq] at hs
  have hW : wW G q.1 H := by rw [eq]; exact hW
  refine lv_re (y := q.2) (by rw [eq]) ?_
  obtain ⟨h12, han, hnx⟩ := hs
  have hW : wW G (wset q.1 12 (Z 12)) H := by rw [← h12, wset_self]; exact hW
  refine lv_aload_n hx hb dL_law_795 rfl (lv_at hl 1 rfl) ?_
  refine wc_il hC hml (kX7_undo l G q.1 (Z 12) hkn) (cwV 0 hts gL_law_X7_undo rfl rfl rfl (by decide +kernel) ⟨Nat.le_of_ble_eq_true rfl, Nat.le_of_ble_eq_true rfl⟩) hW hS (vM (by decide)) ce_m0 rfl rfl rfl rfl hl.1 (Nat.le_of_ble_eq_true rfl) ⟨Nat.le_of_ble_eq_true rfl, Nat.le_of_ble_eq_true rfl⟩ dL_law_796 (fun H locs hW hS => ?_)
  refine lv_icmp_eq (tgt := 850) hx hb dL_law_799 (by decide) (fun _ => ?_) (fun c9 => ?_)
  · exact kk _ H locs hnx hW hS
  · exact absurd han c9
set_option maxHeartbeats 4000000 in
set_option maxRecDepth 100000 in
theorem lc_save {p : Program} {l : Launch} {e : Env} {s : State} {m : MethodId} {below : List Frame} {meth : Method} {c : Code} {H : Heap} {locs : List Loc} {Q : State → Prop} {ls : Array Slot} {G : wG} {Z : wZ} {b L j : Nat} {xs : Nat → Int32} {LR : wZ → Prop} (hC : wX p s m c cL_law #[Value.ref b] wsL_law RL G) (hml : c.maxLocals = 4) (hX : va_X b L xs s s.heap) (hbl : b < s.heap.size) (hbA : ¬ wA G b) (hL : L ≤ 2048) (hst : lS LR) (hLR : LR Z) (hj : j + 3 < L) (hW : wW G Z H) (hS : va_S (wA G) s.heap H locs) (hl : lv_has ls 4 [(3, .int (nI j)), (2, .ref (G.2.2.1 12 0)), (1, .ref (G.2.2.1 11 0)), (0, .ref b)]) (kk : ∀ (Z' : wZ) (H1 : Heap) (locs1 : List Loc), LR Z' → wW G Z' H1 → va_S (wA G) s.heap H1 locs1 → W p l e room_1 s m #[Value.ref b] below meth c H1 locs1 169 2451 Q (F0 m 850 ls [])) : W p l e room_1 s m #[Value.ref b] below meth c H locs 169 2451 Q (F0 m 804 ls []) := by
  have hx := hC.1
  have hb := hC.2.1
  have hts := hC.2.2.2.1
  obtain ⟨⟨M4, M, hI⟩, hkn, hln⟩ := hst.1 Z hLR
  refine lv_aload_n hx hb dL_law_804 rfl (lv_at hl 2 rfl) ?_
  refine lv_aload_n hx hb dL_law_805 rfl (lv_at hl 3 rfl) ?_
  refine lv_iload_n hx hb dL_law_806 rfl (lv_at hl 0 rfl) ?_
  refine lv_iconst (v := 1) hx hb dL_law_807 (by decide) ?_
  refine lv_iadd hx hb dL_law_808 ?_
  refine lv_re (y := nI (j + 1)) (nI_add j 1) ?_
  refine va_sld hx hb hX hbl hbA hS (vp_in_nI (show j + 1 < L by omega) (by omega)) dL_law_809 ?_
  refine lv_re (y := xs (j + 1)) (congrArg xs (nI_clamp (show j + 1 < 2 ^ 31 by omega))) ?_
  have hs := hst.2.2.2.2.2.2.2.2.2.2.2.2.2.2.2.2.2.2.2.2.2.2.2.2.2.1 Z (xs (j + 1)) hLR
  refine wc_il hC hml (kX6_save l G Z (xs (j + 1))) (cwV 1 hts gL_law_X6_save rfl rfl rfl (by decide +kernel) ⟨Nat.le_of_ble_eq_true rfl, Nat.le_of_ble_eq_true rfl⟩) hW hS (vS (by decide)) we_s0 rfl rfl rfl rfl hl.1 (Nat.le_of_ble_eq_true rfl) ⟨Nat.le_of_ble_eq_true rfl, Nat.le_of_ble_eq_true rfl⟩ dL_law_810 (fun H locs hW hS => ?_)
  obtain ⟨q, eq⟩ : ∃ q : wZ × Int32, q = (fX6_save Z (xs (j + 1))) := ⟨_, rfl⟩
  rw [← eq] at hs
  have hW : wW G q.1 H := by rw [eq]; exact hW
  refine lv_re (y := q.2) (by rw [eq]) ?_
  obtain ⟨h12, han, hnx⟩ := hs
  have hW : wW G (wset q.1 12 (Z 12)) H := by rw [← h12, wset_self]; exact hW
  refine lv_aload_n hx hb dL_law_813 rfl (lv_at hl 1 rfl) ?_
  refine lv_aload_n hx hb dL_law_814 rfl (lv_at hl 3 rfl) ?_
  refine lv_iload_n hx hb dL_law_815 rfl (lv_at hl 0 rfl) ?_
  refine lv_iconst (v := 1) hx hb dL_law_816 (by decide) ?_
  refine lv_iadd hx hb dL_law_817 ?_
  refine lv_re (y := nI (j + 1)) (nI_add j 1) ?_
  refine va_sld hx hb hX hbl hbA hS (vp_in_nI (show j + 1 < L by omega) (by omega)) dL_law_818 ?_
  refine lv_re (y := xs (j + 1)) (congrArg xs (nI_clamp (show j + 1 < 2 ^ 31 by omega))) ?_
  refine wc_il hC hml (kX7_save l G q.1 (Z 12) (xs (j + 1)) ) (cwV 1 hts gL_law_X7_save rfl rfl rfl (by decide +kernel) ⟨Nat.le_of_ble_eq_true rfl, Nat.le_of_ble_eq_true rfl⟩) hW hS (vM (by decide)) ce_m0 rfl rfl rfl rfl hl.1 (Nat.le_of_ble_eq_true rfl) ⟨Nat.le_of_ble_eq_true rfl, Nat.le_of_ble_eq_true rfl⟩ dL_law_819 (fun H locs hW hS => ?_)
  refine lv_icmp_eq (tgt := 850) hx hb dL_law_822 (by decide) (fun _ => ?_) (fun c9 => ?_)
  · exact kk _ H locs hnx hW hS
  · exact absurd han c9
set_option maxHeartbeats 4000000 in
set_option maxRecDepth 100000 in
theorem lc_restore {p : Program} {l : Launch} {e : Env} {s : State} {m : MethodId} {below : List Frame} {meth : Method} {c : Code} {H : Heap} {locs : List Loc} {Q : State → Prop} {ls : Array Slot} {G : wG} {Z : wZ} {b L j : Nat} {xs : Nat → Int32} {LR : wZ → Prop} (hC : wX p s m c cL_law #[Value.ref b] wsL_law RL G) (hml : c.maxLocals = 4) (hX : va_X b L xs s s.heap) (hbl : b < s.heap.size) (hbA : ¬ wA G b) (hL : L ≤ 2048) (hst : lS LR) (hLR : LR Z) (hj : j + 3 < L) (hW : wW G Z H) (hS : va_S (wA G) s.heap H locs) (hl : lv_has ls 4 [(3, .int (nI j)), (2, .ref (G.2.2.1 12 0)), (1, .ref (G.2.2.1 11 0)), (0, .ref b)]) (kk : ∀ (Z' : wZ) (H1 : Heap) (locs1 : List Loc), LR Z' → wW G Z' H1 → va_S (wA G) s.heap H1 locs1 → W p l e room_1 s m #[Value.ref b] below meth c H1 locs1 169 2451 Q (F0 m 850 ls [])) : W p l e room_1 s m #[Value.ref b] below meth c H locs 169 2451 Q (F0 m 827 ls []) := by
  have hx := hC.1
  have hb := hC.2.1
  have hts := hC.2.2.2.1
  obtain ⟨⟨M4, M, hI⟩, hkn, hln⟩ := hst.1 Z hLR
  refine lv_aload_n hx hb dL_law_827 rfl (lv_at hl 2 rfl) ?_
  refine lv_aload_n hx hb dL_law_828 rfl (lv_at hl 3 rfl) ?_
  refine lv_iload_n hx hb dL_law_829 rfl (lv_at hl 0 rfl) ?_
  refine lv_iconst (v := 1) hx hb dL_law_830 (by decide) ?_
  refine lv_iadd hx hb dL_law_831 ?_
  refine lv_re (y := nI (j + 1)) (nI_add j 1) ?_
  refine va_sld hx hb hX hbl hbA hS (vp_in_nI (show j + 1 < L by omega) (by omega)) dL_law_832 ?_
  refine lv_re (y := xs (j + 1)) (congrArg xs (nI_clamp (show j + 1 < 2 ^ 31 by omega))) ?_
  have hs := hst.2.2.2.2.2.2.2.2.2.2.2.2.2.2.2.2.2.2.2.2.2.2.2.2.2.2 Z (xs (j + 1)) hLR
  refine wc_il hC hml (kX6_restore l G Z (xs (j + 1))) (cwV 1 hts gL_law_X6_restore rfl rfl rfl (by decide +kernel) ⟨Nat.le_of_ble_eq_true rfl, Nat.le_of_ble_eq_true rfl⟩) hW hS (vS (by decide)) we_s0 rfl rfl rfl rfl hl.1 (Nat.le_of_ble_eq_true rfl) ⟨Nat.le_of_ble_eq_true rfl, Nat.le_of_ble_eq_true rfl⟩ dL_law_833 (fun H locs hW hS => ?_)
  obtain ⟨q, eq⟩ : ∃ q : wZ × Int32, q = (fX6_restore Z (xs (j + 1))) := ⟨_, rfl⟩
  rw [← eq] at hs
  have hW : wW G q.1 H := by rw [eq]; exact hW
  refine lv_re (y := q.2) (by rw [eq]) ?_
  obtain ⟨h12, han, hnx⟩ := hs
  have hW : wW G (wset q.1 12 (Z 12)) H := by rw [← h12, wset_self]; exact hW
  refine lv_aload_n hx hb dL_law_836 rfl (lv_at hl 1 rfl) ?_
  refine lv_aload_n hx hb dL_law_837 rfl (lv_at hl 3 rfl) ?_
  refine lv_iload_n hx hb dL_law_838 rfl (lv_at hl 0 rfl) ?_
  refine lv_iconst (v := 1) hx hb dL_law_839 (by decide) ?_
  refine lv_iadd hx hb dL_law_840 ?_
  refine lv_re (y := nI (j + 1)) (nI_add j 1) ?_
  refine va_sld hx hb hX hbl hbA hS (vp_in_nI (show j + 1 < L by omega) (by omega)) dL_law_841 ?_
  refine lv_re (y := xs (j + 1)) (congrArg xs (nI_clamp (show j + 1 < 2 ^ 31 by omega))) ?_
  refine wc_il hC hml (kX7_restore l G q.1 (Z 12) (xs (j + 1)) hkn) (cwV 1 hts gL_law_X7_restore rfl rfl rfl (by decide +kernel) ⟨Nat.le_of_ble_eq_true rfl, Nat.le_of_ble_eq_true rfl⟩) hW hS (vM (by decide)) ce_m0 rfl rfl rfl rfl hl.1 (Nat.le_of_ble_eq_true rfl) ⟨Nat.le_of_ble_eq_true rfl, Nat.le_of_ble_eq_true rfl⟩ dL_law_842 (fun H locs hW hS => ?_)
  refine lv_icmp_eq (tgt := 850) hx hb dL_law_845 (by decide) (fun _ => ?_) (fun c9 => ?_)
  · exact kk _ H locs hnx hW hS
  · exact absurd han c9

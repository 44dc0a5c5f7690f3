theorem law_in {L j : Nat} (hL : L ≤ 2048) (hj : j < 2 ^ 30) (h : ¬ Int32.ofNat L - 4 < nI j) : j + 3 < L := by
  rw [Int32.lt_iff_toInt_lt] at h
  have e1 : (Int32.ofNat L).toInt = (L : Int) := Int32.toInt_ofNat_of_lt (by omega)
  have e2 : (nI j).toInt = (j : Int) := Int32.toInt_ofNat_of_lt (by omega)
  have e3 : (Int32.ofNat L - 4).toInt = (L : Int) - 4 := by
    rw [Int32.toInt_sub, e1]
    have e4 : (4 : Int32).toInt = 4 := by decide
    rw [e4]
    exact Int.bmod_eq_of_le (by omega) (by omega)
  rw [e2, e3] at h
  omega
set_option maxHeartbeats 4000000 in
set_option maxRecDepth 100000 in
theorem law_loop {p : Program} {l : Launch} {e : Env} {s : State} {m : MethodId} {below : List Frame} {meth : Method} {c : Code} {Q : State → Prop} {G : wG} {b L : Nat} {xs : Nat → Int32} {LR : wZ → Prop} (hC : wX p s m c cL_law #[Value.ref b] wsL_law RL G) (hml : c.maxLocals = 4) (hX : va_X b L xs s s.heap) (hbl : b < s.heap.size) (hbA : ¬ wA G b) (hL : L ≤ 2048) (hst : lS LR) (kk : ∀ (H1 : Heap) (locs1 : List Loc) (ls : Array Slot), va_S (wA G) s.heap H1 locs1 → W p l e room_1 s m #[Value.ref b] below meth c H1 locs1 169 2451 Q (F0 m 856 ls [])) : ∀ (n j : Nat) (Z : wZ) (H : Heap) (locs : List Loc) (ls : Array Slot), L < j + n → j < 2 ^ 30 → LR Z → wW G Z H → va_S (wA G) s.heap H locs → lv_has ls 4 [(3, .int (nI j)), (2, .ref (G.2.2.1 12 0)), (1, .ref (G.2.2.1 11 0)), (0, .ref b)] → W p l e room_1 s m #[Value.ref b] below meth c H locs 169 2451 Q (F0 m 18 ls []) := by
  have hx := hC.1
  have hb := hC.2.1
  intro n
  induction n with
  | zero =>
    intro j Z H locs ls hn hj9 hLR hW hS hl
    refine lv_iload_n hx hb dL_law_18 rfl (lv_at hl 0 rfl) ?_
    refine lv_aload_n hx hb dL_law_19 rfl (lv_at hl 3 rfl) ?_
    refine va_slen hx hb hX hbl hbA hS dL_law_20 ?_
    refine lv_iconst (v := 4) hx hb dL_law_21 (by decide) ?_
    refine lv_isub hx hb dL_law_22 ?_
    refine lv_icmp_gt (tgt := 856) hx hb dL_law_23 (by decide) (fun _ => kk H locs ls hS) (fun c9 => ?_)
    exact absurd (law_in hL hj9 c9) (by omega)
  | succ n ih =>
    intro j Z H locs ls hn hj9 hLR hW hS hl
    refine lv_iload_n hx hb dL_law_18 rfl (lv_at hl 0 rfl) ?_
    refine lv_aload_n hx hb dL_law_19 rfl (lv_at hl 3 rfl) ?_
    refine va_slen hx hb hX hbl hbA hS dL_law_20 ?_
    refine lv_iconst (v := 4) hx hb dL_law_21 (by decide) ?_
    refine lv_isub hx hb dL_law_22 ?_
    refine lv_icmp_gt (tgt := 856) hx hb dL_law_23 (by decide) (fun _ => kk H locs ls hS) (fun c9 => ?_)
    have hj : j + 3 < L := law_in hL hj9 c9
    refine lv_aload_n hx hb dL_law_26 rfl (lv_at hl 3 rfl) ?_
    refine lv_iload_n hx hb dL_law_27 rfl (lv_at hl 0 rfl) ?_
    refine va_sld hx hb hX hbl hbA hS (vp_in_nI (show j < L by omega) (by omega)) dL_law_28 ?_
    refine lv_bipush (v := 31) hx hb dL_law_29 (by decide) ?_
    refine lv_iand hx hb dL_law_31 ?_
    refine lv_topi (fun x ex => ?_)
    have hnext : ∀ (Z' : wZ) (H1 : Heap) (locs1 : List Loc), LR Z' → wW G Z' H1 → va_S (wA G) s.heap H1 locs1 → W p l e room_1 s m #[Value.ref b] below meth c H1 locs1 169 2451 Q (F0 m 850 ls []) := by
      intro Z' H1 locs1 hLR' hW' hS'
      refine lv_iinc (v := nI (j + 4)) (lv' := [(3, .int (nI (j + 4))), (2, .ref (G.2.2.1 12 0)), (1, .ref (G.2.2.1 11 0)), (0, .ref b)]) hx hb dL_law_850 hl (k := 0) rfl (nI_add j 4) (by decide) rfl (fun ls hl => ?_)
      refine lv_goto (tgt := 18) hx hb dL_law_853 (by decide) ?_
      exact ih (j + 4) Z' H1 locs1 ls (by omega) (by omega) hLR' hW' hS' hl
    by_cases c0 : x = 0
    · refine lv_re c0 ?_
      refine lv_tableIn (tgt := 152) (off := 120) hx hb dL_law_32 (by decide) (by decide) (by decide) (by decide) ?_
      exact lc_set hC hml hX hbl hbA hL hst hLR hj hW hS hl hnext
    by_cases c1 : x = 1
    · refine lv_re c1 ?_
      refine lv_tableIn (tgt := 185) (off := 153) hx hb dL_law_32 (by decide) (by decide) (by decide) (by decide) ?_
      exact lc_shaft hC hml hX hbl hbA hL hst hLR hj hW hS hl hnext
    by_cases c2 : x = 2
    · refine lv_re c2 ?_
      refine lv_tableIn (tgt := 208) (off := 176) hx hb dL_law_32 (by decide) (by decide) (by decide) (by decide) ?_
      exact lc_load hC hml hX hbl hbA hL hst hLR hj hW hS hl hnext
    by_cases c3 : x = 3
    · refine lv_re c3 ?_
      refine lv_tableIn (tgt := 241) (off := 209) hx hb dL_law_32 (by decide) (by decide) (by decide) (by decide) ?_
      exact lc_move hC hml hX hbl hbA hL hst hLR hj hW hS hl hnext
    by_cases c4 : x = 4
    · refine lv_re c4 ?_
      refine lv_tableIn (tgt := 274) (off := 242) hx hb dL_law_32 (by decide) (by decide) (by decide) (by decide) ?_
      exact lc_plan hC hml hX hbl hbA hL hst hLR hj hW hS hl hnext
    by_cases c5 : x = 5
    · refine lv_re c5 ?_
      refine lv_tableIn (tgt := 317) (off := 285) hx hb dL_law_32 (by decide) (by decide) (by decide) (by decide) ?_
      exact lc_stop hC hml hX hbl hbA hL hst hLR hj hW hS hl hnext
    by_cases c6 : x = 6
    · refine lv_re c6 ?_
      refine lv_tableIn (tgt := 340) (off := 308) hx hb dL_law_32 (by decide) (by decide) (by decide) (by decide) ?_
      exact lc_home hC hml hX hbl hbA hL hst hLR hj hW hS hl hnext
    by_cases c7 : x = 7
    · refine lv_re c7 ?_
      refine lv_tableIn (tgt := 363) (off := 331) hx hb dL_law_32 (by decide) (by decide) (by decide) (by decide) ?_
      exact lc_pass hC hml hX hbl hbA hL hst hLR hj hW hS hl hnext
    by_cases c8 : x = 8
    · refine lv_re c8 ?_
      refine lv_tableIn (tgt := 386) (off := 354) hx hb dL_law_32 (by decide) (by decide) (by decide) (by decide) ?_
      exact lc_of hC hml hX hbl hbA hL hst hLR hj hW hS hl hnext
    by_cases c9 : x = 9
    · refine lv_re c9 ?_
      refine lv_tableIn (tgt := 419) (off := 387) hx hb dL_law_32 (by decide) (by decide) (by decide) (by decide) ?_
      exact lc_waiting hC hml hX hbl hbA hL hst hLR hj hW hS hl hnext
    by_cases c10 : x = 10
    · refine lv_re c10 ?_
      refine lv_tableIn (tgt := 452) (off := 420) hx hb dL_law_32 (by decide) (by decide) (by decide) (by decide) ?_
      exact lc_planned hC hml hX hbl hbA hL hst hLR hj hW hS hl hnext
    by_cases c11 : x = 11
    · refine lv_re c11 ?_
      refine lv_tableIn (tgt := 485) (off := 453) hx hb dL_law_32 (by decide) (by decide) (by decide) (by decide) ?_
      exact lc_count hC hml hX hbl hbA hL hst hLR hj hW hS hl hnext
    by_cases c12 : x = 12
    · refine lv_re c12 ?_
      refine lv_tableIn (tgt := 508) (off := 476) hx hb dL_law_32 (by decide) (by decide) (by decide) (by decide) ?_
      exact lc_interval hC hml hX hbl hbA hL hst hLR hj hW hS hl hnext
    by_cases c13 : x = 13
    · refine lv_re c13 ?_
      refine lv_tableIn (tgt := 531) (off := 499) hx hb dL_law_32 (by decide) (by decide) (by decide) (by decide) ?_
      exact lc_restsIn hC hml hX hbl hbA hL hst hLR hj hW hS hl hnext
    by_cases c14 : x = 14
    · refine lv_re c14 ?_
      refine lv_tableIn (tgt := 554) (off := 522) hx hb dL_law_32 (by decide) (by decide) (by decide) (by decide) ?_
      exact lc_stopsAt hC hml hX hbl hbA hL hst hLR hj hW hS hl hnext
    by_cases c15 : x = 15
    · refine lv_re c15 ?_
      refine lv_tableIn (tgt := 577) (off := 545) hx hb dL_law_32 (by decide) (by decide) (by decide) (by decide) ?_
      exact lc_nextStep hC hml hX hbl hbA hL hst hLR hj hW hS hl hnext
    by_cases c16 : x = 16
    · refine lv_re c16 ?_
      refine lv_tableIn (tgt := 610) (off := 578) hx hb dL_law_32 (by decide) (by decide) (by decide) (by decide) ?_
      exact lc_moveOf hC hml hX hbl hbA hL hst hLR hj hW hS hl hnext
    by_cases c17 : x = 17
    · refine lv_re c17 ?_
      refine lv_tableIn (tgt := 643) (off := 611) hx hb dL_law_32 (by decide) (by decide) (by decide) (by decide) ?_
      exact lc_bestGain hC hml hX hbl hbA hL hst hLR hj hW hS hl hnext
    by_cases c18 : x = 18
    · refine lv_re c18 ?_
      refine lv_tableIn (tgt := 676) (off := 644) hx hb dL_law_32 (by decide) (by decide) (by decide) (by decide) ?_
      exact lc_bears hC hml hX hbl hbA hL hst hLR hj hW hS hl hnext
    by_cases c19 : x = 19
    · refine lv_re c19 ?_
      refine lv_tableIn (tgt := 699) (off := 667) hx hb dL_law_32 (by decide) (by decide) (by decide) (by decide) ?_
      exact lc_put hC hml hX hbl hbA hL hst hLR hj hW hS hl hnext
    by_cases c20 : x = 20
    · refine lv_re c20 ?_
      refine lv_tableIn (tgt := 752) (off := 720) hx hb dL_law_32 (by decide) (by decide) (by decide) (by decide) ?_
      exact lc_wipe hC hml hX hbl hbA hL hst hLR hj hW hS hl hnext
    by_cases c21 : x = 21
    · refine lv_re c21 ?_
      refine lv_tableIn (tgt := 765) (off := 733) hx hb dL_law_32 (by decide) (by decide) (by decide) (by decide) ?_
      exact lc_fault hC hml hX hbl hbA hL hst hLR hj hW hS hl hnext
    by_cases c22 : x = 22
    · refine lv_re c22 ?_
      refine lv_tableIn (tgt := 778) (off := 746) hx hb dL_law_32 (by decide) (by decide) (by decide) (by decide) ?_
      exact lc_carryOut hC hml hX hbl hbA hL hst hLR hj hW hS hl hnext
    by_cases c23 : x = 23
    · refine lv_re c23 ?_
      refine lv_tableIn (tgt := 791) (off := 759) hx hb dL_law_32 (by decide) (by decide) (by decide) (by decide) ?_
      exact lc_undo hC hml hX hbl hbA hL hst hLR hj hW hS hl hnext
    by_cases c24 : x = 24
    · refine lv_re c24 ?_
      refine lv_tableIn (tgt := 804) (off := 772) hx hb dL_law_32 (by decide) (by decide) (by decide) (by decide) ?_
      exact lc_save hC hml hX hbl hbA hL hst hLR hj hW hS hl hnext
    by_cases c25 : x = 25
    · refine lv_re c25 ?_
      refine lv_tableIn (tgt := 827) (off := 795) hx hb dL_law_32 (by decide) (by decide) (by decide) (by decide) ?_
      exact lc_restore hC hml hX hbl hbA hL hst hLR hj hW hS hl hnext
    refine lv_tableOut (tgt := 850) hx hb dL_law_32 (by
      have hz : ∀ k : Int32, ¬ x = k → ¬ x.toInt = k.toInt := fun k h q => h (Int32.toInt_inj.mp q)
      have c0z : ¬ x.toInt = 0 := fun q => hz 0 c0 (q.trans (by decide))
      have c1z : ¬ x.toInt = 1 := fun q => hz 1 c1 (q.trans (by decide))
      have c2z : ¬ x.toInt = 2 := fun q => hz 2 c2 (q.trans (by decide))
      have c3z : ¬ x.toInt = 3 := fun q => hz 3 c3 (q.trans (by decide))
      have c4z : ¬ x.toInt = 4 := fun q => hz 4 c4 (q.trans (by decide))
      have c5z : ¬ x.toInt = 5 := fun q => hz 5 c5 (q.trans (by decide))
      have c6z : ¬ x.toInt = 6 := fun q => hz 6 c6 (q.trans (by decide))
      have c7z : ¬ x.toInt = 7 := fun q => hz 7 c7 (q.trans (by decide))
      have c8z : ¬ x.toInt = 8 := fun q => hz 8 c8 (q.trans (by decide))
      have c9z : ¬ x.toInt = 9 := fun q => hz 9 c9 (q.trans (by decide))
      have c10z : ¬ x.toInt = 10 := fun q => hz 10 c10 (q.trans (by decide))
      have c11z : ¬ x.toInt = 11 := fun q => hz 11 c11 (q.trans (by decide))
      have c12z : ¬ x.toInt = 12 := fun q => hz 12 c12 (q.trans (by decide))
      have c13z : ¬ x.toInt = 13 := fun q => hz 13 c13 (q.trans (by decide))
      have c14z : ¬ x.toInt = 14 := fun q => hz 14 c14 (q.trans (by decide))
      have c15z : ¬ x.toInt = 15 := fun q => hz 15 c15 (q.trans (by decide))
      have c16z : ¬ x.toInt = 16 := fun q => hz 16 c16 (q.trans (by decide))
      have c17z : ¬ x.toInt = 17 := fun q => hz 17 c17 (q.trans (by decide))
      have c18z : ¬ x.toInt = 18 := fun q => hz 18 c18 (q.trans (by decide))
      have c19z : ¬ x.toInt = 19 := fun q => hz 19 c19 (q.trans (by decide))
      have c20z : ¬ x.toInt = 20 := fun q => hz 20 c20 (q.trans (by decide))
      have c21z : ¬ x.toInt = 21 := fun q => hz 21 c21 (q.trans (by decide))
      have c22z : ¬ x.toInt = 22 := fun q => hz 22 c22 (q.trans (by decide))
      have c23z : ¬ x.toInt = 23 := fun q => hz 23 c23 (q.trans (by decide))
      have c24z : ¬ x.toInt = 24 := fun q => hz 24 c24 (q.trans (by decide))
      have c25z : ¬ x.toInt = 25 := fun q => hz 25 c25 (q.trans (by decide))
      omega) (by decide) ?_
    exact hnext Z H locs hLR hW hS

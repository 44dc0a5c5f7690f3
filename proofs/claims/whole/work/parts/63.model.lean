def gX7_rec (B : wB) : wB := bput B 0 0 (B 0 0 + 1)
def gX7_recC (C : wB) : wB := gX7_rec (rcp C 3 (100 * (C 0 0).toNatClampNeg) (C 1) 100)
def fX7_records (B : wB) : wB := if B 0 0 = 6 then gX7_recC (bput (rcp B 3 0 (fun q => B 3 (100 + q)) 500) 0 0 ((rcp B 3 0 (fun q => B 3 (100 + q)) 500) 0 0 - 1)) else gX7_recC B
abbrev rX7_records : Room := { frames := 0, cells := 0, slots := 0, locals := 0 }
set_option maxHeartbeats 4000000 in
set_option maxRecDepth 100000 in
theorem kX7_records (l : Launch) (G : wG) (Z : wZ) (B : wB)  (hkn : 0 ≤ (B 0 0).toInt ∧ (B 0 0).toInt ≤ 6) : mV l yX7_records wsX7_records rX7_records G [.ref (G.2.2.1 12 0)] (wset Z 12 B) (wset Z 12 (fX7_records B)) := by
  refine Met.ofW (cc := cX7_records) (maxL := 2) (ret := none) (by decide) rfl ?_
  intro p e s m args below meth c s₁ B0 hml hv
  obtain ⟨rfl, hW, hK, hL⟩ := hv
  have hlocks := B0.notSynchronized
  have hr := B0.returns
  have hC : wX p s m c cX7_records _ wsX7_records RX7 G := ⟨B0.exec, B0.bytes, findClass_of_methodNamed B0.named, atoms_spec (ws := wsX7_records) B0.pre, hK, hL⟩
  have hx := hC.1
  have hb := hC.2.1
  have hts := hC.2.2.2.1
  have hinRX7 : ∀ w ∈ wsX70, w ∈ wsX7_records := by decide +kernel
  have hk0 := hts (.fieldLink RX7 41 "RampShaftsModel" "known" "I") (by decide +kernel)
  have hk1 := hts (.fieldLink RX7 16 "RampShaftsModel" "before" "[I") (by decide +kernel)
  have hk2 := hts (.fieldLink RX7 7 "RampShaftsModel" "s" "[I") (by decide +kernel)
  have hS : va_S (wA G) s.heap s.heap [] := va_S.rf
  have hl := lv_entry ([.ref (G.2.2.1 12 0)]) (n := 2) (Nat.le_of_ble_eq_true rfl)
  rw [lg_entry_eq]
  generalize (lg_sl ([.ref (G.2.2.1 12 0)]) ++ List.replicate (2 - (lg_sl ([.ref (G.2.2.1 12 0)])).length) Slot.unset).toArray = ls at hl ⊢
  have hl : lv_has ls 2 [(0, .ref (G.2.2.1 12 0))] := hl
  obtain ⟨R, hR⟩ : ∃ R, R = fX7_records B := ⟨_, rfl⟩
  rw [← hR]
  unfold fX7_records at hR
  refine lv_aload_n hx hb dX7_records_0 rfl (lv_at hl 0 rfl) ?_
  refine wr_get hC hinRX7 hW (vM (by decide)) ce_m0 rfl 3 (by decide) hk0 rfl dX7_records_1 ?_
  refine lv_bipush (v := 6) hx hb dX7_records_4 (by decide) ?_
  refine lv_icmp_ne (tgt := 49) hx hb dX7_records_6 (by decide) (fun c_1 => ?_) (fun c_1 => ?_)
  · skip
    try rw [if_neg c_1] at hR
    have hn9 := tn_of hkn.1
    have hm9 : B 0 0 = nI (B 0 0).toNatClampNeg := nI_self hn9.1
    have hm8 : (B 0 0).toNatClampNeg ≤ 5 := by
      have h6 : ¬ (B 0 0).toInt = 6 := fun e9 => c_1 (Int32.toInt_inj.mp (e9.trans (by decide)))
      omega
    obtain ⟨m9, em9⟩ : ∃ y, y = (B 0 0).toNatClampNeg := ⟨_, rfl⟩
    rw [← em9] at hm9 hm8
    have hq9 : (B 0 0).toNatClampNeg = m9 := by rw [hm9, nI_clamp (by omega)]
    unfold gX7_recC at hR
    rw [hq9] at hR
    rw [show wset Z 12 B = wset Z 12 (rcp B 3 (100 * m9) (B 1) 0) from by rw [rcp_0]] at hW
    refine lv_iconst (v := 0) hx hb dX7_records_49 (by decide) ?_
    refine lv_istore_n (lv' := [(1, .int 0), (0, .ref (G.2.2.1 12 0))]) hx hb dX7_records_50 rfl hl (by decide) rfl (fun ls hl => ?_)
    have hlp_2 : ∀ (u : Nat) (C : wB) (w9 : Nat) (k : Nat), (hm : C 0 0 = nI w9) → (hm5 : w9 ≤ 5) → (hk : k + u = 100) → R = gX7_rec (rcp C 3 (100 * w9) (C 1) 100) → ∀ (H : Heap) (locs : List Loc) (ls : Array Slot), wW G (wset Z 12 (rcp C 3 (100 * w9) (C 1) k)) H → va_S (wA G) s.heap H locs → lv_has ls 2 [(0, .ref (G.2.2.1 12 0)), (1, .int (nI k))] → W p l e (headSpec wsX7_records rX7_records).room s m ([.ref (G.2.2.1 12 0)] : List Value).toArray below meth c H locs 0 0 (qV below ([.ref (G.2.2.1 12 0)] : List Value).toArray s G (wset Z 12 R)) (F0 m 51 ls []) := by
      intro u
      induction u with
      | zero =>
        intro C w9 k hm hm5 hk hR H locs ls hW hS hl
        have hk4 : k = 100 := by omega
        rw [hk4] at hW
        refine lv_iload_n hx hb dX7_records_51 rfl (lv_at hl 1 rfl) ?_
        refine lv_bipush (v := 100) hx hb dX7_records_52 (by decide) ?_
        refine lv_icmp_ge (tgt := 83) hx hb dX7_records_54 (by decide) (fun c_3 => ?_) (fun c_3 => ?_)
        · skip
          unfold gX7_rec at hR
          refine lv_aload_n hx hb dX7_records_83 rfl (lv_at hl 0 rfl) ?_
          refine lv_dup hx hb dX7_records_84 rfl ?_
          refine wr_get hC hinRX7 hW (vM (by decide)) ce_m0 rfl 3 (by decide) hk0 rfl dX7_records_85 ?_
          refine lv_iconst (v := 1) hx hb dX7_records_88 (by decide) ?_
          refine lv_iadd hx hb dX7_records_89 ?_
          refine wr_put (Z' := wset Z 12 (bput (rcp C 3 (100 * w9) (C 1) 100) 0 0 (((rcp C 3 (100 * w9) (C 1) 100) 0 0) + 1))) (v := .int (((rcp C 3 (100 * w9) (C 1) 100) 0 0) + 1)) hC hinRX7 tyX7 tyX7_ok nmX7 hW hS (vM (by decide)) ce_m0 rfl 3 (by decide) hk0 rfl (tyX7_ok 3 (by decide)) rfl rfl (Nat.le_of_ble_eq_true rfl) wset_off pu_m0_0 dX7_records_90 (fun H locs hW hS => ?_)
          exact we_v hC hr hlocks (congrArg (wset Z 12) hR).symm hW hS dX7_records_93
        · exact absurd ((nI_leI (a := 100) (by decide) (by omega)).mpr (by omega)) c_3
      | succ u ih =>
        intro C w9 k hm hm5 hk hR H locs ls hW hS hl
        refine lv_iload_n hx hb dX7_records_51 rfl (lv_at hl 1 rfl) ?_
        refine lv_bipush (v := 100) hx hb dX7_records_52 (by decide) ?_
        refine lv_icmp_ge (tgt := 83) hx hb dX7_records_54 (by decide) (fun c_4 => ?_) (fun c_4 => ?_)
        · exact absurd ((nI_leI (a := 100) (by decide) (by omega)).mp c_4) (by omega)
        · skip
          refine lv_aload_n hx hb dX7_records_57 rfl (lv_at hl 0 rfl) ?_
          refine wr_get hC hinRX7 hW (vM (by decide)) ce_m0 rfl 2 (by decide) hk1 rfl dX7_records_58 ?_
          refine lv_bipush (v := 100) hx hb dX7_records_61 (by decide) ?_
          refine lv_aload_n hx hb dX7_records_63 rfl (lv_at hl 0 rfl) ?_
          refine wr_get hC hinRX7 hW (vM (by decide)) ce_m0 rfl 3 (by decide) hk0 rfl dX7_records_64 ?_
          refine lv_re ((rcp_o (by decide)).trans hm) ?_
          refine lv_imul hx hb dX7_records_67 ?_
          refine lv_re (y := nI (100 * w9)) (pk_mul 100 w9) ?_
          refine lv_iload_n hx hb dX7_records_68 rfl (lv_at hl 1 rfl) ?_
          refine lv_iadd hx hb dX7_records_69 ?_
          refine lv_re (y := nI ((100 * w9) + k)) (nI_add (100 * w9) k) ?_
          refine lv_aload_n hx hb dX7_records_70 rfl (lv_at hl 0 rfl) ?_
          refine wr_get hC hinRX7 hW (vM (by decide)) ce_m0 rfl 0 (by decide) hk2 rfl dX7_records_71 ?_
          refine lv_iload_n hx hb dX7_records_74 rfl (lv_at hl 1 rfl) ?_
          refine wr_ald (kA := 0) hC hW (vM (by decide)) ce_m1 rfl (vp_in_nI (show k < 100 by omega) (by decide)) dX7_records_75 ?_
          refine lv_re (y := (rcp C 3 (100 * w9) (C 1) k) 1 k) ((congrArg ((rcp C 3 (100 * w9) (C 1) k) 1) (nI_clamp (by omega)))) ?_
          refine wr_ast (kA := 0) (Z' := wset Z 12 (bput (rcp C 3 (100 * w9) (C 1) k) 3 (nI ((100 * w9) + k)).toNatClampNeg ((rcp C 3 (100 * w9) (C 1) k) 1 k))) hC hW hS (vM (by decide)) ce_m3 rfl (vp_in_nI (show ((100 * w9) + k) < 600 by omega) (by decide)) wset_off pu_m3 dX7_records_76 (fun H locs hW hS => ?_)
          rw [nI_clamp (show ((100 * w9) + k) < 2 ^ 31 by omega)] at hW
          refine lv_iinc (v := nI (k + 1)) (lv' := [(1, .int (nI (k + 1))), (0, .ref (G.2.2.1 12 0))]) hx hb dX7_records_77 hl (k := 1) rfl (nI_1 _) (by decide) rfl (fun ls hl => ?_)
          refine lv_goto (tgt := 51) hx hb dX7_records_80 (by decide) ?_
          first | rw [rcp_s (by omega) (rcp_o (by decide))] at hW | rw [rcp_s (f := fun q => B 3 (100 + q)) (n := k) (o := 0) (by omega) (show (rcp B 3 0 (fun q => B 3 (100 + q)) k) 3 (100 + k) = B 3 (100 + k) from rcp_hi (by omega))] at hW
          exact ih C w9 (k + 1) hm hm5 (by omega) hR _ _ _ hW hS (lv_sub hl [1, 0] rfl)
    exact hlp_2 100 B m9 0 hm9 hm8 rfl hR _ _ _ hW hS (lv_sub hl [1, 0] rfl)
  · skip
    try rw [if_pos c_1] at hR
    have h6B : B 0 0 = 6 := c_1
    rw [show wset Z 12 B = wset Z 12 (rcp B 3 0 (fun q => B 3 (100 + q)) 0) from by rw [rcp_0]] at hW
    refine lv_iconst (v := 0) hx hb dX7_records_9 (by decide) ?_
    refine lv_istore_n (lv' := [(1, .int 0), (0, .ref (G.2.2.1 12 0))]) hx hb dX7_records_10 rfl hl (by decide) rfl (fun ls hl => ?_)
    have hlp_5 : ∀ (u : Nat) (k : Nat), (hk : k + u = 500) → R = gX7_recC (bput (rcp B 3 0 (fun q => B 3 (100 + q)) 500) 0 0 ((rcp B 3 0 (fun q => B 3 (100 + q)) 500) 0 0 - 1)) → ∀ (H : Heap) (locs : List Loc) (ls : Array Slot), wW G (wset Z 12 (rcp B 3 0 (fun q => B 3 (100 + q)) k)) H → va_S (wA G) s.heap H locs → lv_has ls 2 [(0, .ref (G.2.2.1 12 0)), (1, .int (nI k))] → W p l e (headSpec wsX7_records rX7_records).room s m ([.ref (G.2.2.1 12 0)] : List Value).toArray below meth c H locs 0 0 (qV below ([.ref (G.2.2.1 12 0)] : List Value).toArray s G (wset Z 12 R)) (F0 m 11 ls []) := by
      intro u
      induction u with
      | zero =>
        intro k hk hR H locs ls hW hS hl
        have hk4 : k = 500 := by omega
        rw [hk4] at hW
        refine lv_iload_n hx hb dX7_records_11 rfl (lv_at hl 1 rfl) ?_
        refine lv_sipush (v := 500) hx hb dX7_records_12 (by decide) ?_
        refine lv_icmp_ge (tgt := 39) hx hb dX7_records_15 (by decide) (fun c_6 => ?_) (fun c_6 => ?_)
        · skip
          refine lv_aload_n hx hb dX7_records_39 rfl (lv_at hl 0 rfl) ?_
          refine lv_dup hx hb dX7_records_40 rfl ?_
          refine wr_get hC hinRX7 hW (vM (by decide)) ce_m0 rfl 3 (by decide) hk0 rfl dX7_records_41 ?_
          refine lv_iconst (v := 1) hx hb dX7_records_44 (by decide) ?_
          refine lv_isub hx hb dX7_records_45 ?_
          refine wr_put (Z' := wset Z 12 (bput (rcp B 3 0 (fun q => B 3 (100 + q)) 500) 0 0 (((rcp B 3 0 (fun q => B 3 (100 + q)) 500) 0 0) - 1))) (v := .int (((rcp B 3 0 (fun q => B 3 (100 + q)) 500) 0 0) - 1)) hC hinRX7 tyX7 tyX7_ok nmX7 hW hS (vM (by decide)) ce_m0 rfl 3 (by decide) hk0 rfl (tyX7_ok 3 (by decide)) rfl rfl (Nat.le_of_ble_eq_true rfl) wset_off pu_m0_0 dX7_records_46 (fun H locs hW hS => ?_)
          obtain ⟨m9, em9⟩ : ∃ y, y = 5 := ⟨_, rfl⟩
          have hm8 : m9 ≤ 5 := by omega
          have hm9 : (bput (rcp B 3 0 (fun q => B 3 (100 + q)) 500) 0 0 (((rcp B 3 0 (fun q => B 3 (100 + q)) 500) 0 0) - 1)) 0 0 = nI m9 := by rw [bput_h, rcp_o (by decide), h6B, em9]; decide
          have hq9 : ((bput (rcp B 3 0 (fun q => B 3 (100 + q)) 500) 0 0 (((rcp B 3 0 (fun q => B 3 (100 + q)) 500) 0 0) - 1)) 0 0).toNatClampNeg = m9 := by rw [hm9, nI_clamp (by omega)]
          unfold gX7_recC at hR
          rw [hq9] at hR
          rw [show wset Z 12 (bput (rcp B 3 0 (fun q => B 3 (100 + q)) 500) 0 0 (((rcp B 3 0 (fun q => B 3 (100 + q)) 500) 0 0) - 1)) = wset Z 12 (rcp (bput (rcp B 3 0 (fun q => B 3 (100 + q)) 500) 0 0 (((rcp B 3 0 (fun q => B 3 (100 + q)) 500) 0 0) - 1)) 3 (100 * m9) ((bput (rcp B 3 0 (fun q => B 3 (100 + q)) 500) 0 0 (((rcp B 3 0 (fun q => B 3 (100 + q)) 500) 0 0) - 1)) 1) 0) from by rw [rcp_0]] at hW
          refine lv_iconst (v := 0) hx hb dX7_records_49 (by decide) ?_
          refine lv_istore_n (lv' := [(1, .int 0), (0, .ref (G.2.2.1 12 0))]) hx hb dX7_records_50 rfl hl (by decide) rfl (fun ls hl => ?_)
          have hlp_7 : ∀ (u : Nat) (C : wB) (w9 : Nat) (k : Nat), (hm : C 0 0 = nI w9) → (hm5 : w9 ≤ 5) → (hk : k + u = 100) → R = gX7_rec (rcp C 3 (100 * w9) (C 1) 100) → ∀ (H : Heap) (locs : List Loc) (ls : Array Slot), wW G (wset Z 12 (rcp C 3 (100 * w9) (C 1) k)) H → va_S (wA G) s.heap H locs → lv_has ls 2 [(0, .ref (G.2.2.1 12 0)), (1, .int (nI k))] → W p l e (headSpec wsX7_records rX7_records).room s m ([.ref (G.2.2.1 12 0)] : List Value).toArray below meth c H locs 0 0 (qV below ([.ref (G.2.2.1 12 0)] : List Value).toArray s G (wset Z 12 R)) (F0 m 51 ls []) := by
            intro u
            induction u with
            | zero =>
              intro C w9 k hm hm5 hk hR H locs ls hW hS hl
              have hk4 : k = 100 := by omega
              rw [hk4] at hW
              refine lv_iload_n hx hb dX7_records_51 rfl (lv_at hl 1 rfl) ?_
              refine lv_bipush (v := 100) hx hb dX7_records_52 (by decide) ?_
              refine lv_icmp_ge (tgt := 83) hx hb dX7_records_54 (by decide) (fun c_8 => ?_) (fun c_8 => ?_)
              · skip
                unfold gX7_rec at hR
                refine lv_aload_n hx hb dX7_records_83 rfl (lv_at hl 0 rfl) ?_
                refine lv_dup hx hb dX7_records_84 rfl ?_
                refine wr_get hC hinRX7 hW (vM (by decide)) ce_m0 rfl 3 (by decide) hk0 rfl dX7_records_85 ?_
                refine lv_iconst (v := 1) hx hb dX7_records_88 (by decide) ?_
                refine lv_iadd hx hb dX7_records_89 ?_
                refine wr_put (Z' := wset Z 12 (bput (rcp C 3 (100 * w9) (C 1) 100) 0 0 (((rcp C 3 (100 * w9) (C 1) 100) 0 0) + 1))) (v := .int (((rcp C 3 (100 * w9) (C 1) 100) 0 0) + 1)) hC hinRX7 tyX7 tyX7_ok nmX7 hW hS (vM (by decide)) ce_m0 rfl 3 (by decide) hk0 rfl (tyX7_ok 3 (by decide)) rfl rfl (Nat.le_of_ble_eq_true rfl) wset_off pu_m0_0 dX7_records_90 (fun H locs hW hS => ?_)
                exact we_v hC hr hlocks (congrArg (wset Z 12) hR).symm hW hS dX7_records_93
              · exact absurd ((nI_leI (a := 100) (by decide) (by omega)).mpr (by omega)) c_8
            | succ u ih =>
              intro C w9 k hm hm5 hk hR H locs ls hW hS hl
              refine lv_iload_n hx hb dX7_records_51 rfl (lv_at hl 1 rfl) ?_
              refine lv_bipush (v := 100) hx hb dX7_records_52 (by decide) ?_
              refine lv_icmp_ge (tgt := 83) hx hb dX7_records_54 (by decide) (fun c_9 => ?_) (fun c_9 => ?_)
              · exact absurd ((nI_leI (a := 100) (by decide) (by omega)).mp c_9) (by omega)
              · skip
                refine lv_aload_n hx hb dX7_records_57 rfl (lv_at hl 0 rfl) ?_
                refine wr_get hC hinRX7 hW (vM (by decide)) ce_m0 rfl 2 (by decide) hk1 rfl dX7_records_58 ?_
                refine lv_bipush (v := 100) hx hb dX7_records_61 (by decide) ?_
                refine lv_aload_n hx hb dX7_records_63 rfl (lv_at hl 0 rfl) ?_
                refine wr_get hC hinRX7 hW (vM (by decide)) ce_m0 rfl 3 (by decide) hk0 rfl dX7_records_64 ?_
                refine lv_re ((rcp_o (by decide)).trans hm) ?_
                refine lv_imul hx hb dX7_records_67 ?_
                refine lv_re (y := nI (100 * w9)) (pk_mul 100 w9) ?_
                refine lv_iload_n hx hb dX7_records_68 rfl (lv_at hl 1 rfl) ?_
                refine lv_iadd hx hb dX7_records_69 ?_
                refine lv_re (y := nI ((100 * w9) + k)) (nI_add (100 * w9) k) ?_
                refine lv_aload_n hx hb dX7_records_70 rfl (lv_at hl 0 rfl) ?_
                refine wr_get hC hinRX7 hW (vM (by decide)) ce_m0 rfl 0 (by decide) hk2 rfl dX7_records_71 ?_
                refine lv_iload_n hx hb dX7_records_74 rfl (lv_at hl 1 rfl) ?_
                refine wr_ald (kA := 0) hC hW (vM (by decide)) ce_m1 rfl (vp_in_nI (show k < 100 by omega) (by decide)) dX7_records_75 ?_
                refine lv_re (y := (rcp C 3 (100 * w9) (C 1) k) 1 k) ((congrArg ((rcp C 3 (100 * w9) (C 1) k) 1) (nI_clamp (by omega)))) ?_
                refine wr_ast (kA := 0) (Z' := wset Z 12 (bput (rcp C 3 (100 * w9) (C 1) k) 3 (nI ((100 * w9) + k)).toNatClampNeg ((rcp C 3 (100 * w9) (C 1) k) 1 k))) hC hW hS (vM (by decide)) ce_m3 rfl (vp_in_nI (show ((100 * w9) + k) < 600 by omega) (by decide)) wset_off pu_m3 dX7_records_76 (fun H locs hW hS => ?_)
                rw [nI_clamp (show ((100 * w9) + k) < 2 ^ 31 by omega)] at hW
                refine lv_iinc (v := nI (k + 1)) (lv' := [(1, .int (nI (k + 1))), (0, .ref (G.2.2.1 12 0))]) hx hb dX7_records_77 hl (k := 1) rfl (nI_1 _) (by decide) rfl (fun ls hl => ?_)
                refine lv_goto (tgt := 51) hx hb dX7_records_80 (by decide) ?_
                first | rw [rcp_s (by omega) (rcp_o (by decide))] at hW | rw [rcp_s (f := fun q => B 3 (100 + q)) (n := k) (o := 0) (by omega) (show (rcp B 3 0 (fun q => B 3 (100 + q)) k) 3 (100 + k) = B 3 (100 + k) from rcp_hi (by omega))] at hW
                exact ih C w9 (k + 1) hm hm5 (by omega) hR _ _ _ hW hS (lv_sub hl [1, 0] rfl)
          exact hlp_7 100 (bput (rcp B 3 0 (fun q => B 3 (100 + q)) 500) 0 0 (((rcp B 3 0 (fun q => B 3 (100 + q)) 500) 0 0) - 1)) m9 0 hm9 hm8 rfl hR _ _ _ hW hS (lv_sub hl [1, 0] rfl)
        · exact absurd ((nI_leI (a := 500) (by decide) (by omega)).mpr (by omega)) c_6
      | succ u ih =>
        intro k hk hR H locs ls hW hS hl
        refine lv_iload_n hx hb dX7_records_11 rfl (lv_at hl 1 rfl) ?_
        refine lv_sipush (v := 500) hx hb dX7_records_12 (by decide) ?_
        refine lv_icmp_ge (tgt := 39) hx hb dX7_records_15 (by decide) (fun c_10 => ?_) (fun c_10 => ?_)
        · exact absurd ((nI_leI (a := 500) (by decide) (by omega)).mp c_10) (by omega)
        · skip
          refine lv_aload_n hx hb dX7_records_18 rfl (lv_at hl 0 rfl) ?_
          refine wr_get hC hinRX7 hW (vM (by decide)) ce_m0 rfl 2 (by decide) hk1 rfl dX7_records_19 ?_
          refine lv_iload_n hx hb dX7_records_22 rfl (lv_at hl 1 rfl) ?_
          refine lv_aload_n hx hb dX7_records_23 rfl (lv_at hl 0 rfl) ?_
          refine wr_get hC hinRX7 hW (vM (by decide)) ce_m0 rfl 2 (by decide) hk1 rfl dX7_records_24 ?_
          refine lv_bipush (v := 100) hx hb dX7_records_27 (by decide) ?_
          refine lv_iload_n hx hb dX7_records_29 rfl (lv_at hl 1 rfl) ?_
          refine lv_iadd hx hb dX7_records_30 ?_
          refine lv_re (y := nI (100 + k)) (nI_add 100 k) ?_
          refine wr_ald (kA := 0) hC hW (vM (by decide)) ce_m3 rfl (vp_in_nI (show (100 + k) < 600 by omega) (by decide)) dX7_records_31 ?_
          refine lv_re (y := (rcp B 3 0 (fun q => B 3 (100 + q)) k) 3 (100 + k)) ((congrArg ((rcp B 3 0 (fun q => B 3 (100 + q)) k) 3) (nI_clamp (by omega)))) ?_
          refine wr_ast (kA := 0) (Z' := wset Z 12 (bput (rcp B 3 0 (fun q => B 3 (100 + q)) k) 3 (nI k).toNatClampNeg ((rcp B 3 0 (fun q => B 3 (100 + q)) k) 3 (100 + k)))) hC hW hS (vM (by decide)) ce_m3 rfl (vp_in_nI (show k < 600 by omega) (by decide)) wset_off pu_m3 dX7_records_32 (fun H locs hW hS => ?_)
          rw [nI_clamp (show k < 2 ^ 31 by omega)] at hW
          refine lv_iinc (v := nI (k + 1)) (lv' := [(1, .int (nI (k + 1))), (0, .ref (G.2.2.1 12 0))]) hx hb dX7_records_33 hl (k := 1) rfl (nI_1 _) (by decide) rfl (fun ls hl => ?_)
          refine lv_goto (tgt := 11) hx hb dX7_records_36 (by decide) ?_
          first | rw [rcp_s (by omega) (rcp_o (by decide))] at hW | rw [rcp_s (f := fun q => B 3 (100 + q)) (n := k) (o := 0) (by omega) (show (rcp B 3 0 (fun q => B 3 (100 + q)) k) 3 (100 + k) = B 3 (100 + k) from rcp_hi (by omega))] at hW
          exact ih (k + 1) (by omega) hR _ _ _ hW hS (lv_sub hl [1, 0] rfl)
    exact hlp_5 500 0 rfl hR _ _ _ hW hS (lv_sub hl [1, 0] rfl)
/-- the first numbers of two rows changed for one another -/
def swp (B : wB) (n : Nat) : wB := fun j q => if j = 1 ∧ q < n then B 2 q else if j = 2 ∧ q < n then B 1 q else B j q
theorem swp_0 {B : wB} : swp B 0 = B := by
  funext j q
  unfold swp
  rw [if_neg (by omega), if_neg (by omega)]
theorem swp_hi {B : wB} {j n q : Nat} (h : n ≤ q) : swp B n j q = B j q := by
  unfold swp
  rw [if_neg (by omega), if_neg (by omega)]
theorem swp_j {B : wB} {j n q : Nat} (h : j ≠ 1) (h2 : j ≠ 2) : swp B n j q = B j q := by
  unfold swp
  rw [if_neg (by omega), if_neg (by omega)]
theorem swp_s {B : wB} {n : Nat} : bput (bput (swp B n) 1 n (swp B n 2 n)) 2 n (swp B n 1 n) = swp B (n + 1) := by
  rw [swp_hi (Nat.le_refl n), swp_hi (Nat.le_refl n)]
  funext j q
  unfold bput swp
  by_cases h1 : j = 1
  · subst h1
    by_cases h2 : q = n
    · subst h2
      simp
    · by_cases h3 : q < n
      · simp [h2, h3, show q < n + 1 by omega]
      · simp [h2, h3, show ¬ q < n + 1 by omega]
  · by_cases h4 : j = 2
    · subst h4
      by_cases h2 : q = n
      · subst h2
        simp
      · by_cases h3 : q < n
        · simp [h2, h3, show q < n + 1 by omega]
        · simp [h2, h3, show ¬ q < n + 1 by omega]
    · simp [h1, h4]
def fX7_change (B : wB) (a1 : Int32) : wB × Int32 := if 0 ≤ a1 then (fX7_putBack (fX7_records (swp B 100)), a1) else (B, a1)
abbrev rX7_change : Room := { frames := 1, cells := 0, slots := 0, locals := 21 }
set_option maxHeartbeats 4000000 in
set_option maxRecDepth 100000 in
theorem kX7_change (l : Launch) (G : wG) (Z : wZ) (B : wB) (a1 : Int32) (hkn : 0 ≤ (B 0 0).toInt ∧ (B 0 0).toInt ≤ 6) : mI l yX7_change wsX7_change rX7_change G [.ref (G.2.2.1 12 0), .int a1] (wset Z 12 B) (fX7_change B a1).2 (wset Z 12 (fX7_change B a1).1) := by
  refine Met.ofW (cc := cX7_change) (maxL := 4) (ret := (some .int)) (by decide) rfl ?_
  intro p e s m args below meth c s₁ B0 hml hv
  obtain ⟨rfl, hW, hK, hL⟩ := hv
  have hlocks := B0.notSynchronized
  have hr := B0.returns
  have hC : wX p s m c cX7_change _ wsX7_change RX7 G := ⟨B0.exec, B0.bytes, findClass_of_methodNamed B0.named, atoms_spec (ws := wsX7_change) B0.pre, hK, hL⟩
  have hx := hC.1
  have hb := hC.2.1
  have hts := hC.2.2.2.1
  have hinRX7 : ∀ w ∈ wsX70, w ∈ wsX7_change := by decide +kernel
  have hk0 := hts (.fieldLink RX7 7 "RampShaftsModel" "s" "[I") (by decide +kernel)
  have hk1 := hts (.fieldLink RX7 13 "RampShaftsModel" "aside" "[I") (by decide +kernel)
  have hS : va_S (wA G) s.heap s.heap [] := va_S.rf
  have hl := lv_entry ([.ref (G.2.2.1 12 0), .int a1]) (n := 4) (Nat.le_of_ble_eq_true rfl)
  rw [lg_entry_eq]
  generalize (lg_sl ([.ref (G.2.2.1 12 0), .int a1]) ++ List.replicate (4 - (lg_sl ([.ref (G.2.2.1 12 0), .int a1])).length) Slot.unset).toArray = ls at hl ⊢
  have hl : lv_has ls 4 [(0, .ref (G.2.2.1 12 0)), (1, .int a1)] := hl
  obtain ⟨R, hR⟩ : ∃ R, R = fX7_change B a1 := ⟨_, rfl⟩
  rw [← hR]
  unfold fX7_change at hR
  refine lv_iload_n hx hb dX7_change_0 rfl (lv_at hl 1 rfl) ?_
  refine lv_if_ge (tgt := 6) hx hb dX7_change_1 (by decide) (fun c_1 => ?_) (fun c_1 => ?_)
  · skip
    try rw [if_pos c_1] at hR
    refine lv_iconst (v := 0) hx hb dX7_change_6 (by decide) ?_
    rw [show wset Z 12 B = wset Z 12 (swp B 0) from by rw [swp_0]] at hW
    refine lv_istore_n (lv' := [(2, .int 0), (0, .ref (G.2.2.1 12 0)), (1, .int a1)]) hx hb dX7_change_7 rfl hl (by decide) rfl (fun ls hl => ?_)
    have hlp_2 : ∀ (u : Nat) (k : Nat), (hk : k + u = 100) → R = (fX7_putBack (fX7_records (swp B 100)), a1) → ∀ (H : Heap) (locs : List Loc) (ls : Array Slot), wW G (wset Z 12 (swp B k)) H → va_S (wA G) s.heap H locs → lv_has ls 4 [(0, .ref (G.2.2.1 12 0)), (1, .int a1), (2, .int (nI k))] → W p l e (headSpec wsX7_change rX7_change).room s m ([.ref (G.2.2.1 12 0), .int a1] : List Value).toArray below meth c H locs 0 0 (qI below ([.ref (G.2.2.1 12 0), .int a1] : List Value).toArray s G R.2 (wset Z 12 R.1)) (F0 m 8 ls []) := by
      intro u
      induction u with
      | zero =>
        intro k hk hR H locs ls hW hS hl
        have hk4 : k = 100 := by omega
        rw [hk4] at hW
        refine lv_iload_n hx hb dX7_change_8 rfl (lv_at hl 2 rfl) ?_
        refine lv_bipush (v := 100) hx hb dX7_change_9 (by decide) ?_
        refine lv_icmp_ge (tgt := 46) hx hb dX7_change_11 (by decide) (fun c_3 => ?_) (fun c_3 => ?_)
        · skip
          refine lv_aload_n hx hb dX7_change_46 rfl (lv_at hl 0 rfl) ?_
          refine wc_v hC hml (kX7_records l G Z (swp B 100) (by rw [swp_j (by decide) (by decide)]; exact hkn)) (cwV 0 hts gX7_change_X7_records rfl rfl rfl (by decide +kernel) ⟨Nat.le_of_ble_eq_true rfl, Nat.le_of_ble_eq_true rfl⟩) hW hS (vM (by decide)) ce_m0 rfl rfl rfl rfl hl.1 (Nat.le_of_ble_eq_true rfl) dX7_change_47 (fun H locs hW hS => ?_)
          obtain ⟨B_4, eB_4⟩ : ∃ y, y = fX7_records (swp B 100) := ⟨_, rfl⟩
          rw [← eB_4] at hW
          try rw [← eB_4] at hR
          refine lv_aload_n hx hb dX7_change_50 rfl (lv_at hl 0 rfl) ?_
          refine wc_v hC hml (kX7_putBack l G Z B_4) (cwV 0 hts gX7_change_X7_putBack rfl rfl rfl (by decide +kernel) ⟨Nat.le_of_ble_eq_true rfl, Nat.le_of_ble_eq_true rfl⟩) hW hS (vM (by decide)) ce_m0 rfl rfl rfl rfl hl.1 (Nat.le_of_ble_eq_true rfl) dX7_change_51 (fun H locs hW hS => ?_)
          obtain ⟨B_5, eB_5⟩ : ∃ y, y = fX7_putBack B_4 := ⟨_, rfl⟩
          rw [← eB_5] at hW
          try rw [← eB_5] at hR
          refine lv_iload_n hx hb dX7_change_54 rfl (lv_at hl 1 rfl) ?_
          exact we_i hC hr hlocks (congrArg Prod.snd hR).symm (congrArg (fun u => wset Z 12 u.1) hR).symm hW hS dX7_change_55
        · exact absurd ((nI_leI (a := 100) (by decide) (by omega)).mpr (by omega)) c_3
      | succ u ih =>
        intro k hk hR H locs ls hW hS hl
        refine lv_iload_n hx hb dX7_change_8 rfl (lv_at hl 2 rfl) ?_
        refine lv_bipush (v := 100) hx hb dX7_change_9 (by decide) ?_
        refine lv_icmp_ge (tgt := 46) hx hb dX7_change_11 (by decide) (fun c_6 => ?_) (fun c_6 => ?_)
        · exact absurd ((nI_leI (a := 100) (by decide) (by omega)).mp c_6) (by omega)
        · skip
          refine lv_aload_n hx hb dX7_change_14 rfl (lv_at hl 0 rfl) ?_
          refine wr_get hC hinRX7 hW (vM (by decide)) ce_m0 rfl 0 (by decide) hk0 rfl dX7_change_15 ?_
          refine lv_iload_n hx hb dX7_change_18 rfl (lv_at hl 2 rfl) ?_
          refine wr_ald (kA := 0) hC hW (vM (by decide)) ce_m1 rfl (vp_in_nI (show k < 100 by omega) (by decide)) dX7_change_19 ?_
          refine lv_re (y := (swp B k) 1 k) ((congrArg ((swp B k) 1) (nI_clamp (by omega)))) ?_
          refine lv_istore_n (lv' := [(3, .int ((swp B k) 1 k)), (0, .ref (G.2.2.1 12 0)), (1, .int a1), (2, .int (nI k))]) hx hb dX7_change_20 rfl hl (by decide) rfl (fun ls hl => ?_)
          refine lv_aload_n hx hb dX7_change_21 rfl (lv_at hl 1 rfl) ?_
          refine wr_get hC hinRX7 hW (vM (by decide)) ce_m0 rfl 0 (by decide) hk0 rfl dX7_change_22 ?_
          refine lv_iload_n hx hb dX7_change_25 rfl (lv_at hl 3 rfl) ?_
          refine lv_aload_n hx hb dX7_change_26 rfl (lv_at hl 1 rfl) ?_
          refine wr_get hC hinRX7 hW (vM (by decide)) ce_m0 rfl 1 (by decide) hk1 rfl dX7_change_27 ?_
          refine lv_iload_n hx hb dX7_change_30 rfl (lv_at hl 3 rfl) ?_
          refine wr_ald (kA := 0) hC hW (vM (by decide)) ce_m2 rfl (vp_in_nI (show k < 100 by omega) (by decide)) dX7_change_31 ?_
          refine lv_re (y := (swp B k) 2 k) ((congrArg ((swp B k) 2) (nI_clamp (by omega)))) ?_
          refine wr_ast (kA := 0) (Z' := wset Z 12 (bput (swp B k) 1 (nI k).toNatClampNeg ((swp B k) 2 k))) hC hW hS (vM (by decide)) ce_m1 rfl (vp_in_nI (show k < 100 by omega) (by decide)) wset_off pu_m1 dX7_change_32 (fun H locs hW hS => ?_)
          rw [nI_clamp (show k < 2 ^ 31 by omega)] at hW
          refine lv_aload_n hx hb dX7_change_33 rfl (lv_at hl 1 rfl) ?_
          refine wr_get hC hinRX7 hW (vM (by decide)) ce_m0 rfl 1 (by decide) hk1 rfl dX7_change_34 ?_
          refine lv_iload_n hx hb dX7_change_37 rfl (lv_at hl 3 rfl) ?_
          refine lv_iload_n hx hb dX7_change_38 rfl (lv_at hl 0 rfl) ?_
          refine wr_ast (kA := 0) (Z' := wset Z 12 (bput (bput (swp B k) 1 k ((swp B k) 2 k)) 2 (nI k).toNatClampNeg ((swp B k) 1 k))) hC hW hS (vM (by decide)) ce_m2 rfl (vp_in_nI (show k < 100 by omega) (by decide)) wset_off pu_m2 dX7_change_39 (fun H locs hW hS => ?_)
          rw [nI_clamp (show k < 2 ^ 31 by omega)] at hW
          refine lv_iinc (v := nI (k + 1)) (lv' := [(2, .int (nI (k + 1))), (3, .int ((swp B k) 1 k)), (0, .ref (G.2.2.1 12 0)), (1, .int a1)]) hx hb dX7_change_40 hl (k := 3) rfl (nI_1 _) (by decide) rfl (fun ls hl => ?_)
          refine lv_goto (tgt := 8) hx hb dX7_change_43 (by decide) ?_
          rw [swp_s] at hW
          exact ih (k + 1) (by omega) hR _ _ _ hW hS (lv_sub hl [2, 3, 0] rfl)
    exact hlp_2 100 0 rfl hR _ _ _ hW hS (lv_sub hl [1, 2, 0] rfl)
  · skip
    try rw [if_neg c_1] at hR
    refine lv_iload_n hx hb dX7_change_4 rfl (lv_at hl 1 rfl) ?_
    exact we_i hC hr hlocks (congrArg Prod.snd hR).symm (congrArg (fun u => wset Z 12 u.1) hR).symm hW hS dX7_change_5

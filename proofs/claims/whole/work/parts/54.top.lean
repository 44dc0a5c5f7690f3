def LX6_bg (a1 a2 : Int32) : Nat → wB → wB × Int32
  | 0, B => (B, -6)
  | u + 1, B => if fX3_grips (bput B 1 2 (nI (u + 1))) (fX3_peakOf (bput B 1 2 (nI (u + 1))) a1) a2 = 0 then LX6_bg a1 a2 u (bput B 1 2 (nI (u + 1))) else (bput B 1 2 (nI (u + 1)), nI (u + 1))
def gX6_bg (Z : wZ) (q : wB × Int32) : wZ × Int32 := (wset Z 1 q.1, q.2)
def fX6_bestGain (Z : wZ) (a1 a2 : Int32) : wZ × Int32 :=
  if a1 < 1 then (Z, -2) else if 999 < a1 then (Z, -2) else if a2 < 0 then (Z, -2) else if a2 ≤ 9 then gX6_bg Z (LX6_bg a1 a2 40 (fX3_take (Z 1) (Z 0))) else (Z, -2)
abbrev rX6_bestGain : Room := { frames := 2, cells := 0, slots := 0, locals := 44 }
set_option maxHeartbeats 4000000 in
set_option maxRecDepth 100000 in
theorem kX6_bestGain (l : Launch) (G : wG) (Z : wZ)  (a1 : Int32) (a2 : Int32)  : mI l yX6_bestGain wsX6_bestGain rX6_bestGain G [.ref (G.2.2.1 11 0), .int a1, .int a2] Z (fX6_bestGain Z a1 a2).2 (fX6_bestGain Z a1 a2).1 := by
  refine Met.ofW (cc := cX6_bestGain) (maxL := 5) (ret := (some .int)) (by decide) rfl ?_
  intro p e s m args below meth c s₁ B0 hml hv
  obtain ⟨rfl, hW, hK, hL⟩ := hv
  have hlocks := B0.notSynchronized
  have hr := B0.returns
  have hC : wX p s m c cX6_bestGain _ wsX6_bestGain RX6 G := ⟨B0.exec, B0.bytes, findClass_of_methodNamed B0.named, atoms_spec (ws := wsX6_bestGain) B0.pre, hK, hL⟩
  have hx := hC.1
  have hb := hC.2.1
  have hts := hC.2.2.2.1
  have hinRX0 : ∀ w ∈ wsX00, w ∈ wsX6_bestGain := by decide +kernel
  have hinRX3 : ∀ w ∈ wsX30, w ∈ wsX6_bestGain := by decide +kernel
  have hinRX6 : ∀ w ∈ wsX60, w ∈ wsX6_bestGain := by decide +kernel
  have hk0 := hts (.fieldLink RX6 16 "RampShafts" "trial" "LRampShafts$Bench;") (by decide +kernel)
  have hk1 := hts (.fieldLink RX6 50 "RampShafts$Bench" "ramp" "LRampShafts$Ramp;") (by decide +kernel)
  have hk2 := hts (.fieldLink RX6 10 "RampShafts" "bench" "LRampShafts$Bench;") (by decide +kernel)
  have hk3 := hts (.fieldLink RX6 208 "RampShafts$Ramp" "gain" "I") (by decide +kernel)
  have hS : va_S (wA G) s.heap s.heap [] := va_S.rf
  have hl := lv_entry ([.ref (G.2.2.1 11 0), .int a1, .int a2]) (n := 5) (Nat.le_of_ble_eq_true rfl)
  rw [lg_entry_eq]
  generalize (lg_sl ([.ref (G.2.2.1 11 0), .int a1, .int a2]) ++ List.replicate (5 - (lg_sl ([.ref (G.2.2.1 11 0), .int a1, .int a2])).length) Slot.unset).toArray = ls at hl ⊢
  have hl : lv_has ls 5 [(0, .ref (G.2.2.1 11 0)), (1, .int a1), (2, .int a2)] := hl
  obtain ⟨R, hR⟩ : ∃ R, R = fX6_bestGain Z a1 a2 := ⟨_, rfl⟩
  rw [← hR]
  unfold fX6_bestGain at hR
  refine lv_iload_n hx hb dX6_bestGain_0 rfl (lv_at hl 1 rfl) ?_
  refine lv_iconst (v := 1) hx hb dX6_bestGain_1 (by decide) ?_
  refine lv_icmp_lt (tgt := 22) hx hb dX6_bestGain_2 (by decide) (fun c_1 => ?_) (fun c_1 => ?_)
  · skip
    try rw [if_pos c_1] at hR
    refine lv_bipush (v := (-2)) hx hb dX6_bestGain_22 (by decide) ?_
    exact we_i hC hr hlocks (congrArg Prod.snd hR).symm (congrArg Prod.fst hR).symm hW hS dX6_bestGain_24
  · skip
    try rw [if_neg c_1] at hR
    refine lv_iload_n hx hb dX6_bestGain_5 rfl (lv_at hl 1 rfl) ?_
    refine lv_sipush (v := 999) hx hb dX6_bestGain_6 (by decide) ?_
    refine lv_icmp_gt (tgt := 22) hx hb dX6_bestGain_9 (by decide) (fun c_2 => ?_) (fun c_2 => ?_)
    · skip
      try rw [if_pos c_2] at hR
      refine lv_bipush (v := (-2)) hx hb dX6_bestGain_22 (by decide) ?_
      exact we_i hC hr hlocks (congrArg Prod.snd hR).symm (congrArg Prod.fst hR).symm hW hS dX6_bestGain_24
    · skip
      try rw [if_neg c_2] at hR
      refine lv_iload_n hx hb dX6_bestGain_12 rfl (lv_at hl 2 rfl) ?_
      refine lv_if_lt (tgt := 22) hx hb dX6_bestGain_13 (by decide) (fun c_3 => ?_) (fun c_3 => ?_)
      · skip
        try rw [if_pos c_3] at hR
        refine lv_bipush (v := (-2)) hx hb dX6_bestGain_22 (by decide) ?_
        exact we_i hC hr hlocks (congrArg Prod.snd hR).symm (congrArg Prod.fst hR).symm hW hS dX6_bestGain_24
      · skip
        try rw [if_neg c_3] at hR
        refine lv_iload_n hx hb dX6_bestGain_16 rfl (lv_at hl 2 rfl) ?_
        refine lv_bipush (v := 9) hx hb dX6_bestGain_17 (by decide) ?_
        refine lv_icmp_le (tgt := 25) hx hb dX6_bestGain_19 (by decide) (fun c_4 => ?_) (fun c_4 => ?_)
        · skip
          try rw [if_pos c_4] at hR
          refine lv_aload_n hx hb dX6_bestGain_25 rfl (lv_at hl 0 rfl) ?_
          refine wr_get hC hinRX6 hW (vS (by decide)) ((wE_c (Z' := wset Z 11 (Z 11)) (by first | (simp [wset]; done) | (simp only [wset]; split <;> first | (exfalso; omega) | simp))).trans ce_s0) rfl 1 (by decide) hk0 rfl dX6_bestGain_26 ?_
          refine wr_get hC hinRX0 hW (vB (by decide) (by decide)) ((wE_c (Z' := wset Z 1 (Z 1)) (by first | (simp [wset]; done) | (simp only [wset]; split <;> first | (exfalso; omega) | simp))).trans (ce_b0 (by decide))) rfl 0 (by decide) hk1 rfl dX6_bestGain_29 ?_
          refine lv_astore_n (lv' := [(3, .ref (G.2.2.1 1 1)), (0, .ref (G.2.2.1 11 0)), (1, .int a1), (2, .int a2)]) hx hb dX6_bestGain_32 rfl hl (by decide) rfl (fun ls hl => ?_)
          refine lv_aload_n hx hb dX6_bestGain_33 rfl (lv_at hl 0 rfl) ?_
          refine lv_aload_n hx hb dX6_bestGain_34 rfl (lv_at hl 1 rfl) ?_
          refine wr_get hC hinRX6 hW (vS (by decide)) ((wE_c (Z' := wset Z 11 (Z 11)) (by first | (simp [wset]; done) | (simp only [wset]; split <;> first | (exfalso; omega) | simp))).trans ce_s0) rfl 0 (by decide) hk2 rfl dX6_bestGain_35 ?_
          refine wr_get hC hinRX0 hW (vB (by decide) (by decide)) ((wE_c (Z' := wset Z 0 (Z 0)) (by first | (simp [wset]; done) | (simp only [wset]; split <;> first | (exfalso; omega) | simp))).trans (ce_b0 (by decide))) rfl 0 (by decide) hk1 rfl dX6_bestGain_38 ?_
          have hW := wW_eq (Z' := (wset Z 1 (Z 1))) hW (by
            funext i9
            by_cases e0 : i9 = 1
            all_goals first | (simp [wset, e0]; done) | (exfalso; omega) | (subst_vars; simp [wset]; done) | (subst_vars; simp_all [wset]; done))
          refine wc_v hC hml (kX3_take l G Z 1 (by decide) 0 (by decide) (by decide) (Z 1)) (cwV 1 hts gX6_bestGain_X3_take rfl rfl rfl (by decide +kernel) ⟨Nat.le_of_ble_eq_true rfl, Nat.le_of_ble_eq_true rfl⟩) hW hS (vB (by decide) (by decide)) (ce_b1 (by decide)) rfl rfl rfl rfl hl.1 (Nat.le_of_ble_eq_true rfl) dX6_bestGain_41 (fun H locs hW hS => ?_)
          obtain ⟨B_5, eB_5⟩ : ∃ y, y = fX3_take (Z 1) (Z 0) := ⟨_, rfl⟩
          rw [← eB_5] at hW
          try rw [← eB_5] at hR
          refine lv_bipush (v := 40) hx hb dX6_bestGain_44 (by decide) ?_
          refine lv_istore (lv' := [(4, .int 40), (3, .ref (G.2.2.1 1 1)), (0, .ref (G.2.2.1 11 0)), (1, .int a1), (2, .int a2)]) hx hb dX6_bestGain_46 hl (by decide) rfl (fun ls hl => ?_)
          have hlp_6 : ∀ (u : Nat) (B : wB), (hu : u ≤ 40) → R = gX6_bg Z (LX6_bg a1 a2 u B) → ∀ (H : Heap) (locs : List Loc) (ls : Array Slot), wW G (wset Z 1 B) H → va_S (wA G) s.heap H locs → lv_has ls 5 [(0, .ref (G.2.2.1 11 0)), (1, .int a1), (2, .int a2), (3, .ref (G.2.2.1 1 1)), (4, .int (nI u))] → W p l e (headSpec wsX6_bestGain rX6_bestGain).room s m ([.ref (G.2.2.1 11 0), .int a1, .int a2] : List Value).toArray below meth c H locs 0 0 (qI below ([.ref (G.2.2.1 11 0), .int a1, .int a2] : List Value).toArray s G R.2 R.1) (F0 m 48 ls []) := by
            intro u
            induction u with
            | zero =>
              intro B hu hR H locs ls hW hS hl
              simp only [LX6_bg] at hR
              refine lv_iload hx hb dX6_bestGain_48 (lv_at hl 4 rfl) ?_
              refine lv_iconst (v := 1) hx hb dX6_bestGain_50 (by decide) ?_
              refine lv_icmp_lt (tgt := 82) hx hb dX6_bestGain_51 (by decide) (fun c_7 => ?_) (fun c_7 => ?_)
              · skip
                refine lv_bipush (v := (-6)) hx hb dX6_bestGain_82 (by decide) ?_
                exact we_i hC hr hlocks (congrArg Prod.snd hR).symm (congrArg Prod.fst hR).symm hW hS dX6_bestGain_84
              · exact absurd (show nI 0 < (1 : Int32) by decide) c_7
            | succ u ih =>
              intro B hu hR H locs ls hW hS hl
              simp only [LX6_bg] at hR
              refine lv_iload hx hb dX6_bestGain_48 (lv_at hl 4 rfl) ?_
              refine lv_iconst (v := 1) hx hb dX6_bestGain_50 (by decide) ?_
              refine lv_icmp_lt (tgt := 82) hx hb dX6_bestGain_51 (by decide) (fun c_8 => ?_) (fun c_8 => ?_)
              · exact absurd ((nI_ltI (b := 1) (by omega) (by decide)).mp c_8) (by omega)
              · skip
                refine lv_aload_n hx hb dX6_bestGain_54 rfl (lv_at hl 3 rfl) ?_
                refine lv_iload hx hb dX6_bestGain_55 (lv_at hl 4 rfl) ?_
                refine wr_put (Z' := wset Z 1 (bput B 1 2 (nI (u + 1)))) (v := .int (nI (u + 1))) hC hinRX3 tyX3 tyX3_ok nmX3 hW hS (vB (by decide) (by decide)) (ce_b1 (by decide)) rfl 2 (by decide) hk3 rfl (tyX3_ok 2 (by decide)) rfl rfl (Nat.le_of_ble_eq_true rfl) wset_off (pu_b1_2 (by decide)) dX6_bestGain_57 (fun H locs hW hS => ?_)
                refine lv_aload_n hx hb dX6_bestGain_60 rfl (lv_at hl 3 rfl) ?_
                refine lv_aload_n hx hb dX6_bestGain_61 rfl (lv_at hl 3 rfl) ?_
                refine lv_iload_n hx hb dX6_bestGain_62 rfl (lv_at hl 1 rfl) ?_
                refine wc_i hC hml (kX3_peakOf l G Z 1 (by decide) (bput B 1 2 (nI (u + 1))) a1) (cwV 1 hts gX6_bestGain_X3_peakOf rfl rfl rfl (by decide +kernel) ⟨Nat.le_of_ble_eq_true rfl, Nat.le_of_ble_eq_true rfl⟩) hW hS (vB (by decide) (by decide)) (ce_b1 (by decide)) rfl rfl rfl rfl hl.1 (Nat.le_of_ble_eq_true rfl) dX6_bestGain_63 (fun H locs hW hS => ?_)
                refine lv_iload_n hx hb dX6_bestGain_66 rfl (lv_at hl 2 rfl) ?_
                refine wc_i hC hml (kX3_grips l G Z 1 (by decide) (bput B 1 2 (nI (u + 1))) (fX3_peakOf (bput B 1 2 (nI (u + 1))) a1) a2) (cwV 2 hts gX6_bestGain_X3_grips rfl rfl rfl (by decide +kernel) ⟨Nat.le_of_ble_eq_true rfl, Nat.le_of_ble_eq_true rfl⟩) hW hS (vB (by decide) (by decide)) (ce_b1 (by decide)) rfl rfl rfl rfl hl.1 (Nat.le_of_ble_eq_true rfl) dX6_bestGain_67 (fun H locs hW hS => ?_)
                refine lv_if_eq (tgt := 76) hx hb dX6_bestGain_70 (by decide) (fun c_9 => ?_) (fun c_9 => ?_)
                · skip
                  try rw [if_pos c_9] at hR
                  refine lv_iinc (v := nI u) (lv' := [(4, .int (nI u)), (0, .ref (G.2.2.1 11 0)), (1, .int a1), (2, .int a2), (3, .ref (G.2.2.1 1 1))]) hx hb dX6_bestGain_76 hl (k := 4) rfl (pk_m1 _) (by decide) rfl (fun ls hl => ?_)
                  refine lv_goto (tgt := 48) hx hb dX6_bestGain_79 (by decide) ?_
                  exact ih (bput B 1 2 (nI (u + 1))) (by omega) hR _ _ _ hW hS (lv_sub hl [1, 2, 3, 4, 0] rfl)
                · skip
                  try rw [if_neg c_9] at hR
                  refine lv_iload hx hb dX6_bestGain_73 (lv_at hl 4 rfl) ?_
                  exact we_i hC hr hlocks (congrArg Prod.snd hR).symm (congrArg Prod.fst hR).symm hW hS dX6_bestGain_75
          exact hlp_6 40 B_5 (by decide) hR _ _ _ hW hS (lv_sub hl [2, 3, 4, 1, 0] rfl)
        · skip
          try rw [if_neg c_4] at hR
          refine lv_bipush (v := (-2)) hx hb dX6_bestGain_22 (by decide) ?_
          exact we_i hC hr hlocks (congrArg Prod.snd hR).symm (congrArg Prod.fst hR).symm hW hS dX6_bestGain_24
theorem ge1_lt0 {x : Int32} (h : 1 ≤ x) : ¬ x < 0 := by
  rw [Int32.le_iff_toInt_le] at h
  rw [Int32.lt_iff_toInt_lt]
  have e0 : (0 : Int32).toInt = 0 := by decide
  have e1 : (1 : Int32).toInt = 1 := by decide
  omega
def LX6_put (a1 : Int64) : Nat → wB → wB
  | 0, B => B
  | u + 1, B => LX6_put a1 u (fX2_append B ((((((a1.toUInt64 >>> ((nI (8 * u)).toInt64.toUInt64 &&& Int64.toUInt64 63)).toInt64) &&& 255).toInt32).toUInt32 % 65536).toInt32))
def gX6_put (Z : wZ) (B : wB) : wZ × Int32 := (wset Z 11 B, B 6 0)
def fX6_put (Z : wZ) (a1 : Int64) : wZ × Int32 :=
  if 1 ≤ fX2_lengthOf a1 then (if Z 11 6 0 + fX2_lengthOf a1 ≤ 80 then gX6_put Z (LX6_put a1 (fX2_lengthOf a1).toNatClampNeg (Z 11)) else (Z, -4)) else (Z, -2)
abbrev rX6_put : Room := { frames := 1, cells := 0, slots := 0, locals := 27 }
set_option maxHeartbeats 4000000 in
set_option maxRecDepth 100000 in
theorem kX6_put (l : Launch) (G : wG) (Z : wZ)  (a1 : Int64)  : mI l yX6_put wsX6_put rX6_put G [.ref (G.2.2.1 11 0), .long a1] Z (fX6_put Z a1).2 (fX6_put Z a1).1 := by
  refine Met.ofW (cc := cX6_put) (maxL := 5) (ret := (some .int)) (by decide) rfl ?_
  intro p e s m args below meth c s₁ B0 hml hv
  obtain ⟨rfl, hW, hK, hL⟩ := hv
  have hlocks := B0.notSynchronized
  have hr := B0.returns
  have hC : wX p s m c cX6_put _ wsX6_put RX6 G := ⟨B0.exec, B0.bytes, findClass_of_methodNamed B0.named, atoms_spec (ws := wsX6_put) B0.pre, hK, hL⟩
  have hx := hC.1
  have hb := hC.2.1
  have hts := hC.2.2.2.1
  have hinRX2 : ∀ w ∈ wsX20, w ∈ wsX6_put := by decide +kernel
  have hinRX6 : ∀ w ∈ wsX60, w ∈ wsX6_put := by decide +kernel
  have hk0 := hts (.fieldLink RX6 45 "RampShafts" "pad" "LRampShafts$Pad;") (by decide +kernel)
  have hk1 := hts (.fieldLink RX6 172 "RampShafts$Pad" "length" "I") (by decide +kernel)
  have hk2 := hts (.constantLong RX6 215 (255)) (by decide +kernel)
  have hS : va_S (wA G) s.heap s.heap [] := va_S.rf
  have hl := lv_entry ([.ref (G.2.2.1 11 0), .long a1]) (n := 5) (Nat.le_of_ble_eq_true rfl)
  rw [lg_entry_eq]
  generalize (lg_sl ([.ref (G.2.2.1 11 0), .long a1]) ++ List.replicate (5 - (lg_sl ([.ref (G.2.2.1 11 0), .long a1])).length) Slot.unset).toArray = ls at hl ⊢
  have hl : lv_has ls 5 [(0, .ref (G.2.2.1 11 0)), (1, .long a1)] := hl
  obtain ⟨R, hR⟩ : ∃ R, R = fX6_put Z a1 := ⟨_, rfl⟩
  rw [← hR]
  unfold fX6_put at hR
  refine lv_lload_n hx hb dX6_put_0 rfl (lv_at hl 1 rfl) ?_
  refine wc_s hC hml (kX2_lengthOf l G Z a1) (va_cwS 1 hts gX6_put_X2_lengthOf rfl rfl rfl (by decide +kernel) ⟨Nat.le_of_ble_eq_true rfl, Nat.le_of_ble_eq_true rfl⟩) hW hS rfl rfl hl.1 (Nat.le_of_ble_eq_true rfl) dX6_put_1 (fun H locs hW hS => ?_)
  refine lv_topi (fun x_1 ex_1 => ?_)
  try rw [← ex_1] at hR
  refine lv_istore_n (lv' := [(3, .int x_1), (0, .ref (G.2.2.1 11 0)), (1, .long a1)]) hx hb dX6_put_4 rfl hl (by decide) rfl (fun ls hl => ?_)
  refine lv_iload_n hx hb dX6_put_5 rfl (lv_at hl 0 rfl) ?_
  refine lv_iconst (v := 1) hx hb dX6_put_6 (by decide) ?_
  refine lv_icmp_ge (tgt := 13) hx hb dX6_put_7 (by decide) (fun c_2 => ?_) (fun c_2 => ?_)
  · skip
    try rw [if_pos c_2] at hR
    refine lv_aload_n hx hb dX6_put_13 rfl (lv_at hl 1 rfl) ?_
    refine wr_get hC hinRX6 hW (vS (by decide)) ((wE_c (Z' := wset Z 11 (Z 11)) (by first | (simp [wset]; done) | (simp only [wset]; split <;> first | (exfalso; omega) | simp))).trans ce_s0) rfl 6 (by decide) hk0 rfl dX6_put_14 ?_
    refine wr_get hC hinRX2 hW (vS (by decide)) ((wE_c (Z' := wset Z 11 (Z 11)) (by first | (simp [wset]; done) | (simp only [wset]; split <;> first | (exfalso; omega) | simp))).trans ce_s6) rfl 1 (by decide) hk1 rfl dX6_put_17 ?_
    refine lv_iload_n hx hb dX6_put_20 rfl (lv_at hl 0 rfl) ?_
    refine lv_iadd hx hb dX6_put_21 ?_
    refine lv_bipush (v := 80) hx hb dX6_put_22 (by decide) ?_
    refine lv_icmp_le (tgt := 30) hx hb dX6_put_24 (by decide) (fun c_3 => ?_) (fun c_3 => ?_)
    · skip
      try rw [if_pos c_3] at hR
      refine lv_iload_n hx hb dX6_put_30 rfl (lv_at hl 0 rfl) ?_
      refine lv_iconst (v := 1) hx hb dX6_put_31 (by decide) ?_
      refine lv_isub hx hb dX6_put_32 ?_
      have hge := ge1_lt0 c_2
      obtain ⟨N9, hN9, eN9⟩ := nI_of hge
      have hq7 : (x_1).toNatClampNeg = N9 := by rw [eN9, nI_clamp hN9]
      rw [hq7] at hR
      refine lv_re (y := nI N9 + (-1)) (by rw [eN9]; exact Int32.sub_eq_add_neg ..) ?_
      refine lv_istore (lv' := [(4, .int (nI N9 + (-1))), (3, .int x_1), (0, .ref (G.2.2.1 11 0)), (1, .long a1)]) hx hb dX6_put_33 hl (by decide) rfl (fun ls hl => ?_)
      have hlp_4 : ∀ (u : Nat) (B : wB), (hu : u < 2 ^ 31) → R = gX6_put Z (LX6_put a1 u B) → ∀ (H : Heap) (locs : List Loc) (ls : Array Slot), wW G (wset Z 11 B) H → va_S (wA G) s.heap H locs → lv_has ls 5 [(0, .ref (G.2.2.1 11 0)), (1, .long a1), (4, .int (nI u + (-1)))] → W p l e (headSpec wsX6_put rX6_put).room s m ([.ref (G.2.2.1 11 0), .long a1] : List Value).toArray below meth c H locs 0 0 (qI below ([.ref (G.2.2.1 11 0), .long a1] : List Value).toArray s G R.2 R.1) (F0 m 35 ls []) := by
        intro u
        induction u with
        | zero =>
          intro B hu hR H locs ls hW hS hl
          simp only [LX6_put] at hR
          refine lv_iload hx hb dX6_put_35 (lv_at hl 2 rfl) ?_
          refine lv_if_lt (tgt := 66) hx hb dX6_put_37 (by decide) (fun c_5 => ?_) (fun c_5 => ?_)
          · skip
            refine lv_aload_n hx hb dX6_put_66 rfl (lv_at hl 0 rfl) ?_
            refine wr_get hC hinRX6 hW (vS (by decide)) ce_s0 rfl 6 (by decide) hk0 rfl dX6_put_67 ?_
            refine wr_get hC hinRX2 hW (vS (by decide)) ce_s6 rfl 1 (by decide) hk1 rfl dX6_put_70 ?_
            exact we_i hC hr hlocks (congrArg Prod.snd hR).symm (congrArg Prod.fst hR).symm hW hS dX6_put_73
          · exact absurd (show (nI 0 + (-1) : Int32) < 0 by decide) c_5
        | succ u ih =>
          intro B hu hR H locs ls hW hS hl
          simp only [LX6_put] at hR
          rw [pk_m1] at hl
          refine lv_iload hx hb dX6_put_35 (lv_at hl 2 rfl) ?_
          refine lv_if_lt (tgt := 66) hx hb dX6_put_37 (by decide) (fun c_6 => ?_) (fun c_6 => ?_)
          · exact absurd c_6 (nI_pos (by omega))
          · skip
            refine lv_aload_n hx hb dX6_put_40 rfl (lv_at hl 0 rfl) ?_
            refine wr_get hC hinRX6 hW (vS (by decide)) ce_s0 rfl 6 (by decide) hk0 rfl dX6_put_41 ?_
            refine lv_lload_n hx hb dX6_put_44 rfl (lv_at hl 1 rfl) ?_
            refine lv_bipush (v := 8) hx hb dX6_put_45 (by decide) ?_
            refine lv_iload hx hb dX6_put_47 (lv_at hl 2 rfl) ?_
            refine lv_imul hx hb dX6_put_49 ?_
            refine lv_re (y := nI (8 * u)) (pk_mul 8 u) ?_
            refine lv_lushr (v := (a1.toUInt64 >>> ((nI (8 * u)).toInt64.toUInt64 &&& Int64.toUInt64 63)).toInt64) hx hb dX6_put_50 rfl ?_
            refine lv_ldc2 (v := 255) hx hb hC.2.2.1 hk2 dX6_put_51 ?_
            refine lv_land hx hb dX6_put_54 ?_
            refine lv_l2i (v := (((a1.toUInt64 >>> ((nI (8 * u)).toInt64.toUInt64 &&& Int64.toUInt64 63)).toInt64) &&& 255).toInt32) hx hb dX6_put_55 rfl ?_
            refine lv_i2c (v := (((((a1.toUInt64 >>> ((nI (8 * u)).toInt64.toUInt64 &&& Int64.toUInt64 63)).toInt64) &&& 255).toInt32).toUInt32 % 65536).toInt32) hx hb dX6_put_56 rfl ?_
            refine wc_v hC hml (kX2_append l G Z B ((((((a1.toUInt64 >>> ((nI (8 * u)).toInt64.toUInt64 &&& Int64.toUInt64 63)).toInt64) &&& 255).toInt32).toUInt32 % 65536).toInt32)) (cwV 1 hts gX6_put_X2_append rfl rfl rfl (by decide +kernel) ⟨Nat.le_of_ble_eq_true rfl, Nat.le_of_ble_eq_true rfl⟩) hW hS (vS (by decide)) ce_s6 rfl rfl rfl rfl hl.1 (Nat.le_of_ble_eq_true rfl) dX6_put_57 (fun H locs hW hS => ?_)
            obtain ⟨B_7, eB_7⟩ : ∃ y, y = fX2_append B ((((((a1.toUInt64 >>> ((nI (8 * u)).toInt64.toUInt64 &&& Int64.toUInt64 63)).toInt64) &&& 255).toInt32).toUInt32 % 65536).toInt32) := ⟨_, rfl⟩
            rw [← eB_7] at hW
            try rw [← eB_7] at hR
            refine lv_iinc (v := (nI u) + (-1)) (lv' := [(4, .int ((nI u) + (-1))), (0, .ref (G.2.2.1 11 0)), (1, .long a1)]) hx hb dX6_put_60 hl (k := 2) rfl (rfl) (by decide) rfl (fun ls hl => ?_)
            refine lv_goto (tgt := 35) hx hb dX6_put_63 (by decide) ?_
            exact ih B_7 (by omega) hR _ _ _ hW hS (lv_sub hl [1, 2, 0] rfl)
      have hW := wW_eq (Z' := (wset Z 11 (Z 11))) hW (by
        funext i9
        by_cases e0 : i9 = 11
        all_goals first | (simp [wset, e0]; done) | (exfalso; omega) | (subst_vars; simp [wset]; done) | (subst_vars; simp_all [wset]; done))
      exact hlp_4 N9 (Z 11) hN9 hR _ _ _ hW hS (lv_sub hl [2, 3, 0] rfl)
    · skip
      try rw [if_neg c_3] at hR
      refine lv_bipush (v := (-4)) hx hb dX6_put_27 (by decide) ?_
      exact we_i hC hr hlocks (congrArg Prod.snd hR).symm (congrArg Prod.fst hR).symm hW hS dX6_put_29
  · skip
    try rw [if_neg c_2] at hR
    refine lv_bipush (v := (-2)) hx hb dX6_put_10 (by decide) ?_
    exact we_i hC hr hlocks (congrArg Prod.snd hR).symm (congrArg Prod.fst hR).symm hW hS dX6_put_12
def gX6_end (q : wZ × Int32) : wZ × Int32 := fX6_recorded (wset q.1 11 (bput (q.1 11) 6 0 0)) q.2
def LX6_co : Nat → wZ → Int32 → wZ × Int32
  | 0, Y, x => (Y, x)
  | u + 1, Y, x =>
    if (fX4_readOrder (Y 11)).2 = 0 then (wset Y 11 (fX4_readOrder (Y 11)).1, x)
    else if fX6_isError (fX6_carryOutOrder (wset Y 11 (fX4_readOrder (Y 11)).1)).2 = 0 then
      (if (fX4_skip ((fX6_carryOutOrder (wset Y 11 (fX4_readOrder (Y 11)).1)).1 11) 59).2 = 0 then (wset (fX6_carryOutOrder (wset Y 11 (fX4_readOrder (Y 11)).1)).1 11 (fX4_skip ((fX6_carryOutOrder (wset Y 11 (fX4_readOrder (Y 11)).1)).1 11) 59).1, x + 1)
       else LX6_co u (wset (fX6_carryOutOrder (wset Y 11 (fX4_readOrder (Y 11)).1)).1 11 (fX4_skip ((fX6_carryOutOrder (wset Y 11 (fX4_readOrder (Y 11)).1)).1 11) 59).1) (x + 1))
    else ((fX6_carryOutOrder (wset Y 11 (fX4_readOrder (Y 11)).1)).1, x)
def fX6_carryOut (Z : wZ) : wZ × Int32 :=
  if (fX4_findFault (Z 11)).2 = -6 then
    gX6_end (LX6_co 80 (wset (fX1_mark (wset Z 11 (fX4_findFault (Z 11)).1)) 11 (fX4_begin ((fX1_mark (wset Z 11 (fX4_findFault (Z 11)).1)) 11))) 0)
  else (wset Z 11 (fX4_findFault (Z 11)).1, -3)
abbrev rX6_carryOut : Room := { frames := 6, cells := 0, slots := 0, locals := 137 }
set_option maxHeartbeats 4000000 in
set_option maxRecDepth 100000 in
theorem kX6_carryOut (l : Launch) (G : wG) (Z : wZ)    : mI l yX6_carryOut wsX6_carryOut rX6_carryOut G [.ref (G.2.2.1 11 0)] Z (fX6_carryOut Z).2 (fX6_carryOut Z).1 := by
  refine Met.ofW (cc := cX6_carryOut) (maxL := 3) (ret := (some .int)) (by decide) rfl ?_
  intro p e s m args below meth c s₁ B0 hml hv
  obtain ⟨rfl, hW, hK, hL⟩ := hv
  have hlocks := B0.notSynchronized
  have hr := B0.returns
  have hC : wX p s m c cX6_carryOut _ wsX6_carryOut RX6 G := ⟨B0.exec, B0.bytes, findClass_of_methodNamed B0.named, atoms_spec (ws := wsX6_carryOut) B0.pre, hK, hL⟩
  have hx := hC.1
  have hb := hC.2.1
  have hts := hC.2.2.2.1
  have hinRX2 : ∀ w ∈ wsX20, w ∈ wsX6_carryOut := by decide +kernel
  have hinRX6 : ∀ w ∈ wsX60, w ∈ wsX6_carryOut := by decide +kernel
  have hk0 := hts (.fieldLink RX6 37 "RampShafts" "reader" "LRampShafts$Reader;") (by decide +kernel)
  have hk1 := hts (.fieldLink RX6 22 "RampShafts" "history" "LRampShafts$History;") (by decide +kernel)
  have hk2 := hts (.fieldLink RX6 10 "RampShafts" "bench" "LRampShafts$Bench;") (by decide +kernel)
  have hk3 := hts (.fieldLink RX6 45 "RampShafts" "pad" "LRampShafts$Pad;") (by decide +kernel)
  have hk4 := hts (.fieldLink RX6 172 "RampShafts$Pad" "length" "I") (by decide +kernel)
  have hS : va_S (wA G) s.heap s.heap [] := va_S.rf
  have hl := lv_entry ([.ref (G.2.2.1 11 0)]) (n := 3) (Nat.le_of_ble_eq_true rfl)
  rw [lg_entry_eq]
  generalize (lg_sl ([.ref (G.2.2.1 11 0)]) ++ List.replicate (3 - (lg_sl ([.ref (G.2.2.1 11 0)])).length) Slot.unset).toArray = ls at hl ⊢
  have hl : lv_has ls 3 [(0, .ref (G.2.2.1 11 0))] := hl
  obtain ⟨R, hR⟩ : ∃ R, R = fX6_carryOut Z := ⟨_, rfl⟩
  rw [← hR]
  unfold fX6_carryOut at hR
  refine lv_aload_n hx hb dX6_carryOut_0 rfl (lv_at hl 0 rfl) ?_
  refine wr_get hC hinRX6 hW (vS (by decide)) ((wE_c (Z' := wset Z 11 (Z 11)) (by first | (simp [wset]; done) | (simp only [wset]; split <;> first | (exfalso; omega) | simp))).trans ce_s0) rfl 5 (by decide) hk0 rfl dX6_carryOut_1 ?_
  have hW := wW_eq (Z' := (wset Z 11 (Z 11))) hW (by
    funext i9
    by_cases e0 : i9 = 11
    all_goals first | (simp [wset, e0]; done) | (exfalso; omega) | (subst_vars; simp [wset]; done) | (subst_vars; simp_all [wset]; done))
  refine wc_i hC hml (kX4_findFault l G Z (Z 11)) (cwV 0 hts gX6_carryOut_X4_findFault rfl rfl rfl (by decide +kernel) ⟨Nat.le_of_ble_eq_true rfl, Nat.le_of_ble_eq_true rfl⟩) hW hS (vS (by decide)) ce_s5 rfl rfl rfl rfl hl.1 (Nat.le_of_ble_eq_true rfl) dX6_carryOut_4 (fun H locs hW hS => ?_)
  obtain ⟨P_1, eP_1⟩ : ∃ y, y = fX4_findFault (Z 11) := ⟨_, rfl⟩
  rw [← eP_1] at hW ⊢
  try rw [← eP_1] at hR
  refine lv_bipush (v := (-6)) hx hb dX6_carryOut_7 (by decide) ?_
  refine lv_icmp_eq (tgt := 15) hx hb dX6_carryOut_9 (by decide) (fun c_2 => ?_) (fun c_2 => ?_)
  · skip
    try rw [if_pos c_2] at hR
    refine lv_aload_n hx hb dX6_carryOut_15 rfl (lv_at hl 0 rfl) ?_
    refine wr_get hC hinRX6 hW (vS (by decide)) ce_s0 rfl 2 (by decide) hk1 rfl dX6_carryOut_16 ?_
    refine lv_aload_n hx hb dX6_carryOut_19 rfl (lv_at hl 0 rfl) ?_
    refine wr_get hC hinRX6 hW (vS (by decide)) ce_s0 rfl 0 (by decide) hk2 rfl dX6_carryOut_20 ?_
    refine wc_v hC hml (kX1_mark l G (wset Z 11 P_1.1)) (cwV 1 hts gX6_carryOut_X1_mark rfl rfl rfl (by decide +kernel) ⟨Nat.le_of_ble_eq_true rfl, Nat.le_of_ble_eq_true rfl⟩) hW hS (vS (by decide)) ce_s1 rfl rfl rfl rfl hl.1 (Nat.le_of_ble_eq_true rfl) dX6_carryOut_23 (fun H locs hW hS => ?_)
    obtain ⟨Z_3, eZ_3⟩ : ∃ y, y = fX1_mark (wset Z 11 P_1.1) := ⟨_, rfl⟩
    rw [← eZ_3] at hW
    try rw [← eZ_3] at hR
    refine lv_aload_n hx hb dX6_carryOut_26 rfl (lv_at hl 0 rfl) ?_
    refine wr_get hC hinRX6 hW (vS (by decide)) ((wE_c (Z' := wset Z_3 11 (Z_3 11)) (by first | (simp [wset]; done) | (simp only [wset]; split <;> first | (exfalso; omega) | simp))).trans ce_s0) rfl 5 (by decide) hk0 rfl dX6_carryOut_27 ?_
    have hW := wW_eq (Z' := (wset Z_3 11 (Z_3 11))) hW (by
      funext i9
      by_cases e0 : i9 = 11
      all_goals first | (simp [wset, e0]; done) | (exfalso; omega) | (subst_vars; simp [wset]; done) | (subst_vars; simp_all [wset]; done))
    refine wc_v hC hml (kX4_begin l G Z_3 (Z_3 11)) (cwV 0 hts gX6_carryOut_X4_begin rfl rfl rfl (by decide +kernel) ⟨Nat.le_of_ble_eq_true rfl, Nat.le_of_ble_eq_true rfl⟩) hW hS (vS (by decide)) ce_s5 rfl rfl rfl rfl hl.1 (Nat.le_of_ble_eq_true rfl) dX6_carryOut_30 (fun H locs hW hS => ?_)
    obtain ⟨B_4, eB_4⟩ : ∃ y, y = fX4_begin (Z_3 11) := ⟨_, rfl⟩
    rw [← eB_4] at hW
    try rw [← eB_4] at hR
    refine lv_iconst (v := 0) hx hb dX6_carryOut_33 (by decide) ?_
    refine lv_istore_n (lv' := [(1, .int 0), (0, .ref (G.2.2.1 11 0))]) hx hb dX6_carryOut_34 rfl hl (by decide) rfl (fun ls hl => ?_)
    refine lv_iconst (v := 0) hx hb dX6_carryOut_35 (by decide) ?_
    refine lv_istore_n (lv' := [(2, .int 0), (1, .int 0), (0, .ref (G.2.2.1 11 0))]) hx hb dX6_carryOut_36 rfl hl (by decide) rfl (fun ls hl => ?_)
    have hlp_5 : ∀ (u : Nat) (k : Nat) (Y : wZ) (x : Int32), (hk : k + u = 80) → R = gX6_end (LX6_co u Y x) → ∀ (H : Heap) (locs : List Loc) (ls : Array Slot), wW G Y H → va_S (wA G) s.heap H locs → lv_has ls 3 [(0, .ref (G.2.2.1 11 0)), (1, .int x), (2, .int (nI k))] → W p l e (headSpec wsX6_carryOut rX6_carryOut).room s m ([.ref (G.2.2.1 11 0)] : List Value).toArray below meth c H locs 0 0 (qI below ([.ref (G.2.2.1 11 0)] : List Value).toArray s G R.2 R.1) (F0 m 37 ls []) := by
      intro u
      induction u with
      | zero =>
        intro k Y x hk hR H locs ls hW hS hl
        simp only [LX6_co] at hR
        refine lv_iload_n hx hb dX6_carryOut_37 rfl (lv_at hl 2 rfl) ?_
        refine lv_bipush (v := 80) hx hb dX6_carryOut_38 (by decide) ?_
        refine lv_icmp_ge (tgt := 90) hx hb dX6_carryOut_40 (by decide) (fun c_6 => ?_) (fun c_6 => ?_)
        · skip
          unfold gX6_end at hR
          try simp only [wset_set, wset_get] at hR
          refine lv_aload_n hx hb dX6_carryOut_90 rfl (lv_at hl 0 rfl) ?_
          refine wr_get hC hinRX6 hW (vS (by decide)) ((wE_c (Z' := wset Y 11 (Y 11)) (by first | (simp [wset]; done) | (simp only [wset]; split <;> first | (exfalso; omega) | simp))).trans ce_s0) rfl 6 (by decide) hk3 rfl dX6_carryOut_91 ?_
          refine lv_iconst (v := 0) hx hb dX6_carryOut_94 (by decide) ?_
          have hW := wW_eq (Z' := (wset Y 11 (Y 11))) hW (by
            funext i9
            by_cases e0 : i9 = 11
            all_goals first | (simp [wset, e0]; done) | (exfalso; omega) | (subst_vars; simp [wset]; done) | (subst_vars; simp_all [wset]; done))
          refine wr_put (Z' := wset Y 11 (bput (Y 11) 6 0 0)) (v := .int 0) hC hinRX2 tyX2 tyX2_ok nmX2 hW hS (vS (by decide)) ce_s6 rfl 1 (by decide) hk4 rfl (tyX2_ok 1 (by decide)) rfl rfl (Nat.le_of_ble_eq_true rfl) wset_off pu_s6_0 dX6_carryOut_95 (fun H locs hW hS => ?_)
          refine lv_aload_n hx hb dX6_carryOut_98 rfl (lv_at hl 0 rfl) ?_
          refine lv_iload_n hx hb dX6_carryOut_99 rfl (lv_at hl 1 rfl) ?_
          refine wc_i hC hml (kX6_recorded l G (wset Y 11 (bput (Y 11) 6 0 0)) x) (cwV 1 hts gX6_carryOut_X6_recorded rfl rfl rfl (by decide +kernel) ⟨Nat.le_of_ble_eq_true rfl, Nat.le_of_ble_eq_true rfl⟩) hW hS (vS (by decide)) ce_s0 rfl rfl rfl rfl hl.1 (Nat.le_of_ble_eq_true rfl) dX6_carryOut_100 (fun H locs hW hS => ?_)
          obtain ⟨Q_7, eQ_7⟩ : ∃ y, y = fX6_recorded (wset Y 11 (bput (Y 11) 6 0 0)) x := ⟨_, rfl⟩
          rw [← eQ_7] at hW ⊢
          try rw [← eQ_7] at hR
          exact we_i hC hr hlocks (congrArg Prod.snd hR).symm (congrArg Prod.fst hR).symm hW hS dX6_carryOut_103
        · exact absurd ((nI_leI (a := 80) (by decide) (by omega)).mpr (by omega)) c_6
      | succ u ih =>
        intro k Y x hk hR H locs ls hW hS hl
        simp only [LX6_co] at hR
        refine lv_iload_n hx hb dX6_carryOut_37 rfl (lv_at hl 2 rfl) ?_
        refine lv_bipush (v := 80) hx hb dX6_carryOut_38 (by decide) ?_
        refine lv_icmp_ge (tgt := 90) hx hb dX6_carryOut_40 (by decide) (fun c_8 => ?_) (fun c_8 => ?_)
        · exact absurd ((nI_leI (a := 80) (by decide) (by omega)).mp c_8) (by omega)
        · skip
          refine lv_aload_n hx hb dX6_carryOut_43 rfl (lv_at hl 0 rfl) ?_
          refine wr_get hC hinRX6 hW (vS (by decide)) ((wE_c (Z' := wset Y 11 (Y 11)) (by first | (simp [wset]; done) | (simp only [wset]; split <;> first | (exfalso; omega) | simp))).trans ce_s0) rfl 5 (by decide) hk0 rfl dX6_carryOut_44 ?_
          have hW := wW_eq (Z' := (wset Y 11 (Y 11))) hW (by
            funext i9
            by_cases e0 : i9 = 11
            all_goals first | (simp [wset, e0]; done) | (exfalso; omega) | (subst_vars; simp [wset]; done) | (subst_vars; simp_all [wset]; done))
          refine wc_i hC hml (kX4_readOrder l G Y (Y 11)) (cwV 0 hts gX6_carryOut_X4_readOrder rfl rfl rfl (by decide +kernel) ⟨Nat.le_of_ble_eq_true rfl, Nat.le_of_ble_eq_true rfl⟩) hW hS (vS (by decide)) ce_s5 rfl rfl rfl rfl hl.1 (Nat.le_of_ble_eq_true rfl) dX6_carryOut_47 (fun H locs hW hS => ?_)
          obtain ⟨P_9, eP_9⟩ : ∃ y, y = fX4_readOrder (Y 11) := ⟨_, rfl⟩
          rw [← eP_9] at hW ⊢
          try rw [← eP_9] at hR
          refine lv_if_eq (tgt := 90) hx hb dX6_carryOut_50 (by decide) (fun c_10 => ?_) (fun c_10 => ?_)
          · skip
            try rw [if_pos c_10] at hR
            unfold gX6_end at hR
            try simp only [wset_set, wset_get] at hR
            refine lv_aload_n hx hb dX6_carryOut_90 rfl (lv_at hl 0 rfl) ?_
            refine wr_get hC hinRX6 hW (vS (by decide)) ce_s0 rfl 6 (by decide) hk3 rfl dX6_carryOut_91 ?_
            refine lv_iconst (v := 0) hx hb dX6_carryOut_94 (by decide) ?_
            refine wr_put (Z' := wset Y 11 (bput P_9.1 6 0 0)) (v := .int 0) hC hinRX2 tyX2 tyX2_ok nmX2 hW hS (vS (by decide)) ce_s6 rfl 1 (by decide) hk4 rfl (tyX2_ok 1 (by decide)) rfl rfl (Nat.le_of_ble_eq_true rfl) wset_off pu_s6_0 dX6_carryOut_95 (fun H locs hW hS => ?_)
            refine lv_aload_n hx hb dX6_carryOut_98 rfl (lv_at hl 0 rfl) ?_
            refine lv_iload_n hx hb dX6_carryOut_99 rfl (lv_at hl 1 rfl) ?_
            refine wc_i hC hml (kX6_recorded l G (wset Y 11 (bput P_9.1 6 0 0)) x) (cwV 1 hts gX6_carryOut_X6_recorded rfl rfl rfl (by decide +kernel) ⟨Nat.le_of_ble_eq_true rfl, Nat.le_of_ble_eq_true rfl⟩) hW hS (vS (by decide)) ce_s0 rfl rfl rfl rfl hl.1 (Nat.le_of_ble_eq_true rfl) dX6_carryOut_100 (fun H locs hW hS => ?_)
            obtain ⟨Q_11, eQ_11⟩ : ∃ y, y = fX6_recorded (wset Y 11 (bput P_9.1 6 0 0)) x := ⟨_, rfl⟩
            rw [← eQ_11] at hW ⊢
            try rw [← eQ_11] at hR
            exact we_i hC hr hlocks (congrArg Prod.snd hR).symm (congrArg Prod.fst hR).symm hW hS dX6_carryOut_103
          · skip
            try rw [if_neg c_10] at hR
            refine lv_aload_n hx hb dX6_carryOut_53 rfl (lv_at hl 0 rfl) ?_
            refine wc_i hC hml (kX6_carryOutOrder l G (wset Y 11 P_9.1)) (cwV 0 hts gX6_carryOut_X6_carryOutOrder rfl rfl rfl (by decide +kernel) ⟨Nat.le_of_ble_eq_true rfl, Nat.le_of_ble_eq_true rfl⟩) hW hS (vS (by decide)) ce_s0 rfl rfl rfl rfl hl.1 (Nat.le_of_ble_eq_true rfl) dX6_carryOut_54 (fun H locs hW hS => ?_)
            obtain ⟨Q_12, eQ_12⟩ : ∃ y, y = fX6_carryOutOrder (wset Y 11 P_9.1) := ⟨_, rfl⟩
            rw [← eQ_12] at hW ⊢
            try rw [← eQ_12] at hR
            refine wc_s hC hml (kX6_isError l G Q_12.1 Q_12.2) (cwS 1 hts gX6_carryOut_X6_isError rfl rfl rfl (by decide +kernel) ⟨Nat.le_of_ble_eq_true rfl, Nat.le_of_ble_eq_true rfl⟩) hW hS rfl rfl hl.1 (Nat.le_of_ble_eq_true rfl) dX6_carryOut_57 (fun H locs hW hS => ?_)
            refine lv_topi (fun x_13 ex_13 => ?_)
            try rw [← ex_13] at hR
            refine lv_if_eq (tgt := 66) hx hb dX6_carryOut_60 (by decide) (fun c_14 => ?_) (fun c_14 => ?_)
            · skip
              try rw [if_pos c_14] at hR
              refine lv_iinc (v := x + 1) (lv' := [(1, .int (x + 1)), (0, .ref (G.2.2.1 11 0)), (2, .int (nI k))]) hx hb dX6_carryOut_66 hl (k := 1) rfl (rfl) (by decide) rfl (fun ls hl => ?_)
              refine lv_aload_n hx hb dX6_carryOut_69 rfl (lv_at hl 1 rfl) ?_
              refine wr_get hC hinRX6 hW (vS (by decide)) ((wE_c (Z' := wset Q_12.1 11 (Q_12.1 11)) (by first | (simp [wset]; done) | (simp only [wset]; split <;> first | (exfalso; omega) | simp))).trans ce_s0) rfl 5 (by decide) hk0 rfl dX6_carryOut_70 ?_
              refine lv_bipush (v := 59) hx hb dX6_carryOut_73 (by decide) ?_
              have hW := wW_eq (Z' := (wset Q_12.1 11 (Q_12.1 11))) hW (by
                funext i9
                by_cases e0 : i9 = 11
                all_goals first | (simp [wset, e0]; done) | (exfalso; omega) | (subst_vars; simp [wset]; done) | (subst_vars; simp_all [wset]; done))
              refine wc_i hC hml (kX4_skip l G Q_12.1 (Q_12.1 11) 59) (cwV 1 hts gX6_carryOut_X4_skip rfl rfl rfl (by decide +kernel) ⟨Nat.le_of_ble_eq_true rfl, Nat.le_of_ble_eq_true rfl⟩) hW hS (vS (by decide)) ce_s5 rfl rfl rfl rfl hl.1 (Nat.le_of_ble_eq_true rfl) dX6_carryOut_75 (fun H locs hW hS => ?_)
              obtain ⟨P_15, eP_15⟩ : ∃ y, y = fX4_skip (Q_12.1 11) 59 := ⟨_, rfl⟩
              rw [← eP_15] at hW ⊢
              try rw [← eP_15] at hR
              refine lv_if_ne (tgt := 84) hx hb dX6_carryOut_78 (by decide) (fun c_16 => ?_) (fun c_16 => ?_)
              · skip
                try rw [if_neg c_16] at hR
                refine lv_iinc (v := nI (k + 1)) (lv' := [(2, .int (nI (k + 1))), (1, .int (x + 1)), (0, .ref (G.2.2.1 11 0))]) hx hb dX6_carryOut_84 hl (k := 2) rfl (nI_1 _) (by decide) rfl (fun ls hl => ?_)
                refine lv_goto (tgt := 37) hx hb dX6_carryOut_87 (by decide) ?_
                exact ih (k + 1) (wset Q_12.1 11 P_15.1) (x + 1) (by omega) hR _ _ _ hW hS (lv_sub hl [2, 1, 0] rfl)
              · skip
                try rw [if_pos c_16] at hR
                refine lv_goto (tgt := 90) hx hb dX6_carryOut_81 (by decide) ?_
                unfold gX6_end at hR
                try simp only [wset_set, wset_get] at hR
                refine lv_aload_n hx hb dX6_carryOut_90 rfl (lv_at hl 1 rfl) ?_
                refine wr_get hC hinRX6 hW (vS (by decide)) ce_s0 rfl 6 (by decide) hk3 rfl dX6_carryOut_91 ?_
                refine lv_iconst (v := 0) hx hb dX6_carryOut_94 (by decide) ?_
                refine wr_put (Z' := wset Q_12.1 11 (bput P_15.1 6 0 0)) (v := .int 0) hC hinRX2 tyX2 tyX2_ok nmX2 hW hS (vS (by decide)) ce_s6 rfl 1 (by decide) hk4 rfl (tyX2_ok 1 (by decide)) rfl rfl (Nat.le_of_ble_eq_true rfl) wset_off pu_s6_0 dX6_carryOut_95 (fun H locs hW hS => ?_)
                refine lv_aload_n hx hb dX6_carryOut_98 rfl (lv_at hl 1 rfl) ?_
                refine lv_iload_n hx hb dX6_carryOut_99 rfl (lv_at hl 0 rfl) ?_
                refine wc_i hC hml (kX6_recorded l G (wset Q_12.1 11 (bput P_15.1 6 0 0)) (x + 1)) (cwV 1 hts gX6_carryOut_X6_recorded rfl rfl rfl (by decide +kernel) ⟨Nat.le_of_ble_eq_true rfl, Nat.le_of_ble_eq_true rfl⟩) hW hS (vS (by decide)) ce_s0 rfl rfl rfl rfl hl.1 (Nat.le_of_ble_eq_true rfl) dX6_carryOut_100 (fun H locs hW hS => ?_)
                obtain ⟨Q_17, eQ_17⟩ : ∃ y, y = fX6_recorded (wset Q_12.1 11 (bput P_15.1 6 0 0)) (x + 1) := ⟨_, rfl⟩
                rw [← eQ_17] at hW ⊢
                try rw [← eQ_17] at hR
                exact we_i hC hr hlocks (congrArg Prod.snd hR).symm (congrArg Prod.fst hR).symm hW hS dX6_carryOut_103
            · skip
              try rw [if_neg c_14] at hR
              refine lv_goto (tgt := 90) hx hb dX6_carryOut_63 (by decide) ?_
              unfold gX6_end at hR
              try simp only [wset_set, wset_get] at hR
              refine lv_aload_n hx hb dX6_carryOut_90 rfl (lv_at hl 0 rfl) ?_
              refine wr_get hC hinRX6 hW (vS (by decide)) ((wE_c (Z' := wset Q_12.1 11 (Q_12.1 11)) (by first | (simp [wset]; done) | (simp only [wset]; split <;> first | (exfalso; omega) | simp))).trans ce_s0) rfl 6 (by decide) hk3 rfl dX6_carryOut_91 ?_
              refine lv_iconst (v := 0) hx hb dX6_carryOut_94 (by decide) ?_
              have hW := wW_eq (Z' := (wset Q_12.1 11 (Q_12.1 11))) hW (by
                funext i9
                by_cases e0 : i9 = 11
                all_goals first | (simp [wset, e0]; done) | (exfalso; omega) | (subst_vars; simp [wset]; done) | (subst_vars; simp_all [wset]; done))
              refine wr_put (Z' := wset Q_12.1 11 (bput (Q_12.1 11) 6 0 0)) (v := .int 0) hC hinRX2 tyX2 tyX2_ok nmX2 hW hS (vS (by decide)) ce_s6 rfl 1 (by decide) hk4 rfl (tyX2_ok 1 (by decide)) rfl rfl (Nat.le_of_ble_eq_true rfl) wset_off pu_s6_0 dX6_carryOut_95 (fun H locs hW hS => ?_)
              refine lv_aload_n hx hb dX6_carryOut_98 rfl (lv_at hl 0 rfl) ?_
              refine lv_iload_n hx hb dX6_carryOut_99 rfl (lv_at hl 1 rfl) ?_
              refine wc_i hC hml (kX6_recorded l G (wset Q_12.1 11 (bput (Q_12.1 11) 6 0 0)) x) (cwV 1 hts gX6_carryOut_X6_recorded rfl rfl rfl (by decide +kernel) ⟨Nat.le_of_ble_eq_true rfl, Nat.le_of_ble_eq_true rfl⟩) hW hS (vS (by decide)) ce_s0 rfl rfl rfl rfl hl.1 (Nat.le_of_ble_eq_true rfl) dX6_carryOut_100 (fun H locs hW hS => ?_)
              obtain ⟨Q_18, eQ_18⟩ : ∃ y, y = fX6_recorded (wset Q_12.1 11 (bput (Q_12.1 11) 6 0 0)) x := ⟨_, rfl⟩
              rw [← eQ_18] at hW ⊢
              try rw [← eQ_18] at hR
              exact we_i hC hr hlocks (congrArg Prod.snd hR).symm (congrArg Prod.fst hR).symm hW hS dX6_carryOut_103
    exact hlp_5 80 0 (wset Z_3 11 B_4) 0 rfl hR _ _ _ hW hS (lv_sub hl [2, 1, 0] rfl)
  · skip
    try rw [if_neg c_2] at hR
    refine lv_bipush (v := (-3)) hx hb dX6_carryOut_12 (by decide) ?_
    exact we_i hC hr hlocks (congrArg Prod.snd hR).symm (congrArg Prod.fst hR).symm hW hS dX6_carryOut_14

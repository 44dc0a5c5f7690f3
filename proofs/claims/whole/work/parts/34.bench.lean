theorem lt1_lt0 {x : Int32} (h : ¬ x < 1) : ¬ x < 0 := by
  rw [Int32.lt_iff_toInt_lt] at h ⊢
  have e0 : (0 : Int32).toInt = 0 := by decide
  have e1 : (1 : Int32).toInt = 1 := by decide
  omega
def LX0_pass (e : Int32) : Nat → wB → Int32 → wB × Int32
  | 0, B, x => (B, x)
  | u + 1, B, x => if e < fX0_nextEvent B then (B, x) else LX0_pass e u (fX0_makeSteps (fX0_arriveAt B (fX0_nextEvent B))).1 (x + (fX0_makeSteps (fX0_arriveAt B (fX0_nextEvent B))).2)
def gX0_passEnd (e : Int32) (q : wB × Int32) : wB × Int32 := (bput q.1 0 2 e, q.2)
def fX0_passTicks (B : wB) (a1 : Int32) : wB × Int32 :=
  if a1 < 1 then (B, -2) else if a1 ≤ 999 then (if B 0 2 + a1 ≤ 99999 then gX0_passEnd (B 0 2 + a1) (LX0_pass (B 0 2 + a1) a1.toNatClampNeg B 0) else (B, -5)) else (B, -2)
abbrev rX0_passTicks : Room := { frames := 4, cells := 0, slots := 0, locals := 93 }
set_option maxHeartbeats 4000000 in
set_option maxRecDepth 100000 in
theorem kX0_passTicks (l : Launch) (G : wG) (Z : wZ) (i : Nat) (hi : i < 11) (B : wB) (a1 : Int32)  : mI l yX0_passTicks wsX0_passTicks rX0_passTicks G [.ref (G.2.2.1 i 0), .int a1] (wset Z i B) (fX0_passTicks B a1).2 (wset Z i (fX0_passTicks B a1).1) := by
  refine Met.ofW (cc := cX0_passTicks) (maxL := 5) (ret := (some .int)) (by decide) rfl ?_
  intro p e s m args below meth c s₁ B0 hml hv
  obtain ⟨rfl, hW, hK, hL⟩ := hv
  have hlocks := B0.notSynchronized
  have hr := B0.returns
  have hC : wX p s m c cX0_passTicks _ wsX0_passTicks RX0 G := ⟨B0.exec, B0.bytes, findClass_of_methodNamed B0.named, atoms_spec (ws := wsX0_passTicks) B0.pre, hK, hL⟩
  have hx := hC.1
  have hb := hC.2.1
  have hts := hC.2.2.2.1
  have hinRX0 : ∀ w ∈ wsX00, w ∈ wsX0_passTicks := by decide +kernel
  have hk0 := hts (.fieldLink RX0 49 "RampShafts$Bench" "time" "I") (by decide +kernel)
  have hk1 := hts (.constant RX0 97 (99999)) (by decide +kernel)
  have hS : va_S (wA G) s.heap s.heap [] := va_S.rf
  have hl := lv_entry ([.ref (G.2.2.1 i 0), .int a1]) (n := 5) (Nat.le_of_ble_eq_true rfl)
  rw [lg_entry_eq]
  generalize (lg_sl ([.ref (G.2.2.1 i 0), .int a1]) ++ List.replicate (5 - (lg_sl ([.ref (G.2.2.1 i 0), .int a1])).length) Slot.unset).toArray = ls at hl ⊢
  have hl : lv_has ls 5 [(0, .ref (G.2.2.1 i 0)), (1, .int a1)] := hl
  obtain ⟨R, hR⟩ : ∃ R, R = fX0_passTicks B a1 := ⟨_, rfl⟩
  rw [← hR]
  unfold fX0_passTicks at hR
  refine lv_iload_n hx hb dX0_passTicks_0 rfl (lv_at hl 1 rfl) ?_
  refine lv_iconst (v := 1) hx hb dX0_passTicks_1 (by decide) ?_
  refine lv_icmp_lt (tgt := 12) hx hb dX0_passTicks_2 (by decide) (fun c_1 => ?_) (fun c_1 => ?_)
  · skip
    try rw [if_pos c_1] at hR
    refine lv_bipush (v := (-2)) hx hb dX0_passTicks_12 (by decide) ?_
    exact we_i hC hr hlocks (congrArg Prod.snd hR).symm (congrArg (fun u => wset Z i u.1) hR).symm hW hS dX0_passTicks_14
  · skip
    try rw [if_neg c_1] at hR
    refine lv_iload_n hx hb dX0_passTicks_5 rfl (lv_at hl 1 rfl) ?_
    refine lv_sipush (v := 999) hx hb dX0_passTicks_6 (by decide) ?_
    refine lv_icmp_le (tgt := 15) hx hb dX0_passTicks_9 (by decide) (fun c_2 => ?_) (fun c_2 => ?_)
    · skip
      try rw [if_pos c_2] at hR
      refine lv_aload_n hx hb dX0_passTicks_15 rfl (lv_at hl 0 rfl) ?_
      refine wr_get hC hinRX0 hW (vB hi (by decide)) (ce_b0 hi) rfl 7 (by decide) hk0 rfl dX0_passTicks_16 ?_
      refine lv_iload_n hx hb dX0_passTicks_19 rfl (lv_at hl 1 rfl) ?_
      refine lv_iadd hx hb dX0_passTicks_20 ?_
      refine lv_ldc (v := 99999) hx hb hC.2.2.1 hk1 dX0_passTicks_21 ?_
      refine lv_icmp_le (tgt := 29) hx hb dX0_passTicks_23 (by decide) (fun c_3 => ?_) (fun c_3 => ?_)
      · skip
        try rw [if_pos c_3] at hR
        refine lv_aload_n hx hb dX0_passTicks_29 rfl (lv_at hl 0 rfl) ?_
        refine wr_get hC hinRX0 hW (vB hi (by decide)) (ce_b0 hi) rfl 7 (by decide) hk0 rfl dX0_passTicks_30 ?_
        refine lv_iload_n hx hb dX0_passTicks_33 rfl (lv_at hl 1 rfl) ?_
        refine lv_iadd hx hb dX0_passTicks_34 ?_
        refine lv_topi (fun x9 ex9 => ?_)
        rw [← ex9] at hR
        refine lv_istore_n (lv' := [(2, .int x9), (0, .ref (G.2.2.1 i 0)), (1, .int a1)]) hx hb dX0_passTicks_35 rfl hl (by decide) rfl (fun ls hl => ?_)
        refine lv_iconst (v := 0) hx hb dX0_passTicks_36 (by decide) ?_
        refine lv_istore_n (lv' := [(3, .int 0), (2, .int x9), (0, .ref (G.2.2.1 i 0)), (1, .int a1)]) hx hb dX0_passTicks_37 rfl hl (by decide) rfl (fun ls hl => ?_)
        refine lv_iconst (v := 0) hx hb dX0_passTicks_38 (by decide) ?_
        have hn0 : ¬ a1 < 0 := lt1_lt0 c_1
        obtain ⟨N9, hN9, eN9⟩ := nI_of hn0
        have hq7 : a1.toNatClampNeg = N9 := by rw [eN9, nI_clamp hN9]
        rw [hq7] at hR
        refine lv_istore (lv' := [(4, .int 0), (3, .int 0), (2, .int x9), (0, .ref (G.2.2.1 i 0)), (1, .int a1)]) hx hb dX0_passTicks_39 hl (by decide) rfl (fun ls hl => ?_)
        have hlp_4 : ∀ (u : Nat) (k : Nat) (B : wB) (x : Int32), (hk : k + u = N9) → R = gX0_passEnd x9 (LX0_pass x9 u B x) → ∀ (H : Heap) (locs : List Loc) (ls : Array Slot), wW G (wset Z i B) H → va_S (wA G) s.heap H locs → lv_has ls 5 [(0, .ref (G.2.2.1 i 0)), (1, .int a1), (2, .int x9), (3, .int x), (4, .int (nI k))] → W p l e (headSpec wsX0_passTicks rX0_passTicks).room s m ([.ref (G.2.2.1 i 0), .int a1] : List Value).toArray below meth c H locs 0 0 (qI below ([.ref (G.2.2.1 i 0), .int a1] : List Value).toArray s G R.2 (wset Z i R.1)) (F0 m 41 ls []) := by
          intro u
          induction u with
          | zero =>
            intro k B x hk hR H locs ls hW hS hl
            simp only [LX0_pass] at hR
            refine lv_iload hx hb dX0_passTicks_41 (lv_at hl 4 rfl) ?_
            refine lv_iload_n hx hb dX0_passTicks_43 rfl (lv_at hl 1 rfl) ?_
            refine lv_icmp_ge (tgt := 76) hx hb dX0_passTicks_44 (by decide) (fun c_5 => ?_) (fun c_5 => ?_)
            · skip
              refine lv_aload_n hx hb dX0_passTicks_76 rfl (lv_at hl 0 rfl) ?_
              refine lv_iload_n hx hb dX0_passTicks_77 rfl (lv_at hl 2 rfl) ?_
              refine wr_put (Z' := wset Z i (bput B 0 2 x9)) (v := .int x9) hC hinRX0 tyX0 tyX0_ok nmX0 hW hS (vB hi (by decide)) (ce_b0 hi) rfl 7 (by decide) hk0 rfl (tyX0_ok 7 (by decide)) rfl rfl (Nat.le_of_ble_eq_true rfl) wset_off (pu_b0_2 hi) dX0_passTicks_78 (fun H locs hW hS => ?_)
              refine lv_iload_n hx hb dX0_passTicks_81 rfl (lv_at hl 3 rfl) ?_
              exact we_i hC hr hlocks (congrArg Prod.snd hR).symm (congrArg (fun u => wset Z i u.1) hR).symm hW hS dX0_passTicks_82
            · exact absurd (by rw [eN9, nI_leI (by omega) (by omega)]; omega) c_5
          | succ u ih =>
            intro k B x hk hR H locs ls hW hS hl
            simp only [LX0_pass] at hR
            refine lv_iload hx hb dX0_passTicks_41 (lv_at hl 4 rfl) ?_
            refine lv_iload_n hx hb dX0_passTicks_43 rfl (lv_at hl 1 rfl) ?_
            refine lv_icmp_ge (tgt := 76) hx hb dX0_passTicks_44 (by decide) (fun c_6 => ?_) (fun c_6 => ?_)
            · exact absurd c_6 (by rw [eN9, nI_leI (by omega) (by omega)]; omega)
            · skip
              refine lv_aload_n hx hb dX0_passTicks_47 rfl (lv_at hl 0 rfl) ?_
              refine wc_i hC hml (kX0_nextEvent l G Z i hi B) (cwV 0 hts gX0_passTicks_X0_nextEvent rfl rfl rfl (by decide +kernel) ⟨Nat.le_of_ble_eq_true rfl, Nat.le_of_ble_eq_true rfl⟩) hW hS (vB hi (by decide)) (ce_b0 hi) rfl rfl rfl rfl hl.1 (Nat.le_of_ble_eq_true rfl) dX0_passTicks_48 (fun H locs hW hS => ?_)
              refine lv_topi (fun x_7 ex_7 => ?_)
              try rw [← ex_7] at hR
              refine lv_iload_n hx hb dX0_passTicks_51 rfl (lv_at hl 2 rfl) ?_
              refine lv_icmp_gt (tgt := 76) hx hb dX0_passTicks_52 (by decide) (fun c_8 => ?_) (fun c_8 => ?_)
              · skip
                try rw [if_pos c_8] at hR
                refine lv_aload_n hx hb dX0_passTicks_76 rfl (lv_at hl 0 rfl) ?_
                refine lv_iload_n hx hb dX0_passTicks_77 rfl (lv_at hl 2 rfl) ?_
                refine wr_put (Z' := wset Z i (bput B 0 2 x9)) (v := .int x9) hC hinRX0 tyX0 tyX0_ok nmX0 hW hS (vB hi (by decide)) (ce_b0 hi) rfl 7 (by decide) hk0 rfl (tyX0_ok 7 (by decide)) rfl rfl (Nat.le_of_ble_eq_true rfl) wset_off (pu_b0_2 hi) dX0_passTicks_78 (fun H locs hW hS => ?_)
                refine lv_iload_n hx hb dX0_passTicks_81 rfl (lv_at hl 3 rfl) ?_
                exact we_i hC hr hlocks (congrArg Prod.snd hR).symm (congrArg (fun u => wset Z i u.1) hR).symm hW hS dX0_passTicks_82
              · skip
                try rw [if_neg c_8] at hR
                refine lv_aload_n hx hb dX0_passTicks_55 rfl (lv_at hl 0 rfl) ?_
                refine lv_aload_n hx hb dX0_passTicks_56 rfl (lv_at hl 0 rfl) ?_
                refine wc_i hC hml (kX0_nextEvent l G Z i hi B) (cwV 0 hts gX0_passTicks_X0_nextEvent rfl rfl rfl (by decide +kernel) ⟨Nat.le_of_ble_eq_true rfl, Nat.le_of_ble_eq_true rfl⟩) hW hS (vB hi (by decide)) (ce_b0 hi) rfl rfl rfl rfl hl.1 (Nat.le_of_ble_eq_true rfl) dX0_passTicks_57 (fun H locs hW hS => ?_)
                refine lv_re ex_7.symm ?_
                refine wc_v hC hml (kX0_arriveAt l G Z i hi B x_7) (cwV 1 hts gX0_passTicks_X0_arriveAt rfl rfl rfl (by decide +kernel) ⟨Nat.le_of_ble_eq_true rfl, Nat.le_of_ble_eq_true rfl⟩) hW hS (vB hi (by decide)) (ce_b0 hi) rfl rfl rfl rfl hl.1 (Nat.le_of_ble_eq_true rfl) dX0_passTicks_60 (fun H locs hW hS => ?_)
                obtain ⟨B_9, eB_9⟩ : ∃ y, y = fX0_arriveAt B x_7 := ⟨_, rfl⟩
                rw [← eB_9] at hW
                try rw [← eB_9] at hR
                refine lv_iload_n hx hb dX0_passTicks_63 rfl (lv_at hl 3 rfl) ?_
                refine lv_aload_n hx hb dX0_passTicks_64 rfl (lv_at hl 0 rfl) ?_
                refine wc_i hC hml (kX0_makeSteps l G Z i hi B_9) (cwV 0 hts gX0_passTicks_X0_makeSteps rfl rfl rfl (by decide +kernel) ⟨Nat.le_of_ble_eq_true rfl, Nat.le_of_ble_eq_true rfl⟩) hW hS (vB hi (by decide)) (ce_b0 hi) rfl rfl rfl rfl hl.1 (Nat.le_of_ble_eq_true rfl) dX0_passTicks_65 (fun H locs hW hS => ?_)
                obtain ⟨P_10, eP_10⟩ : ∃ y, y = fX0_makeSteps B_9 := ⟨_, rfl⟩
                rw [← eP_10] at hW ⊢
                try rw [← eP_10] at hR
                refine lv_iadd hx hb dX0_passTicks_68 ?_
                refine lv_topi (fun x_11 ex_11 => ?_)
                try rw [← ex_11] at hR
                refine lv_istore_n (lv' := [(3, .int x_11), (0, .ref (G.2.2.1 i 0)), (1, .int a1), (2, .int x9), (4, .int (nI k))]) hx hb dX0_passTicks_69 rfl hl (by decide) rfl (fun ls hl => ?_)
                refine lv_iinc (v := nI (k + 1)) (lv' := [(4, .int (nI (k + 1))), (3, .int x_11), (0, .ref (G.2.2.1 i 0)), (1, .int a1), (2, .int x9)]) hx hb dX0_passTicks_70 hl (k := 4) rfl (nI_1 _) (by decide) rfl (fun ls hl => ?_)
                refine lv_goto (tgt := 41) hx hb dX0_passTicks_73 (by decide) ?_
                exact ih (k + 1) P_10.1 x_11 (by omega) hR _ _ _ hW hS (lv_sub hl [2, 3, 4, 1, 0] rfl)
        exact hlp_4 N9 0 B 0 (Nat.zero_add _) hR _ _ _ hW hS (lv_sub hl [3, 4, 2, 1, 0] rfl)
      · skip
        try rw [if_neg c_3] at hR
        refine lv_bipush (v := (-5)) hx hb dX0_passTicks_26 (by decide) ?_
        exact we_i hC hr hlocks (congrArg Prod.snd hR).symm (congrArg (fun u => wset Z i u.1) hR).symm hW hS dX0_passTicks_28
    · skip
      try rw [if_neg c_2] at hR
      refine lv_bipush (v := (-2)) hx hb dX0_passTicks_12 (by decide) ?_
      exact we_i hC hr hlocks (congrArg Prod.snd hR).symm (congrArg (fun u => wset Z i u.1) hR).symm hW hS dX0_passTicks_14
def restMax : Nat := 20001
def gX0_rest (b e : Int32) (B : wB) (K : wB × Int32) : wB × Int32 := if e - b ≤ 20000 then K else (B, -6)
def LX0_rest (n : Nat) (a b : Int32) : Nat → wB → wB × Int32
  | 0, B => (B, -6)
  | u + 1, B => if fX5_moves n B = 0 then (if fX0_hasPlan B a = 0 then (B, B 0 2 - b) else gX0_rest b (fX0_nextEvent B) B (LX0_rest n a b u (fX0_makeSteps (fX0_arriveAt B (fX0_nextEvent B))).1)) else gX0_rest b (fX0_nextEvent B) B (LX0_rest n a b u (fX0_makeSteps (fX0_arriveAt B (fX0_nextEvent B))).1)
def fX0_ticksUntilRest (B : wB) (a1 : Int32) : wB × Int32 := if hX0_find B a1 then LX0_rest a1.toNatClampNeg a1 (B 0 2) restMax B else (B, -1)
abbrev rX0_ticksUntilRest : Room := { frames := 4, cells := 0, slots := 0, locals := 93 }
set_option maxHeartbeats 4000000 in
set_option maxRecDepth 100000 in
theorem kX0_ticksUntilRest (l : Launch) (G : wG) (Z : wZ) (i : Nat) (hi : i < 11) (B : wB) (a1 : Int32)  : mI l yX0_ticksUntilRest wsX0_ticksUntilRest rX0_ticksUntilRest G [.ref (G.2.2.1 i 0), .int a1] (wset Z i B) (fX0_ticksUntilRest B a1).2 (wset Z i (fX0_ticksUntilRest B a1).1) := by
  refine Met.ofW (cc := cX0_ticksUntilRest) (maxL := 6) (ret := (some .int)) (by decide) rfl ?_
  intro p e s m args below meth c s₁ B0 hml hv
  obtain ⟨rfl, hW, hK, hL⟩ := hv
  have hlocks := B0.notSynchronized
  have hr := B0.returns
  have hC : wX p s m c cX0_ticksUntilRest _ wsX0_ticksUntilRest RX0 G := ⟨B0.exec, B0.bytes, findClass_of_methodNamed B0.named, atoms_spec (ws := wsX0_ticksUntilRest) B0.pre, hK, hL⟩
  have hx := hC.1
  have hb := hC.2.1
  have hts := hC.2.2.2.1
  have hinRX0 : ∀ w ∈ wsX00, w ∈ wsX0_ticksUntilRest := by decide +kernel
  have hk0 := hts (.fieldLink RX0 49 "RampShafts$Bench" "time" "I") (by decide +kernel)
  have hS : va_S (wA G) s.heap s.heap [] := va_S.rf
  have hl := lv_entry ([.ref (G.2.2.1 i 0), .int a1]) (n := 6) (Nat.le_of_ble_eq_true rfl)
  rw [lg_entry_eq]
  generalize (lg_sl ([.ref (G.2.2.1 i 0), .int a1]) ++ List.replicate (6 - (lg_sl ([.ref (G.2.2.1 i 0), .int a1])).length) Slot.unset).toArray = ls at hl ⊢
  have hl : lv_has ls 6 [(0, .ref (G.2.2.1 i 0)), (1, .int a1)] := hl
  obtain ⟨R, hR⟩ : ∃ R, R = fX0_ticksUntilRest B a1 := ⟨_, rfl⟩
  rw [← hR]
  unfold fX0_ticksUntilRest at hR
  refine lv_aload_n hx hb dX0_ticksUntilRest_0 rfl (lv_at hl 0 rfl) ?_
  refine lv_iload_n hx hb dX0_ticksUntilRest_1 rfl (lv_at hl 1 rfl) ?_
  refine wc_q hC hml (kX0_find l G Z i hi B a1) (cwV 1 hts gX0_ticksUntilRest_X0_find rfl rfl rfl (by decide +kernel) ⟨Nat.le_of_ble_eq_true rfl, Nat.le_of_ble_eq_true rfl⟩) hW hS (vB hi (by decide)) (ce_b0 hi) rfl rfl rfl rfl hl.1 (Nat.le_of_ble_eq_true rfl) dX0_ticksUntilRest_2 (fun H locs hW hS => ?_)
  by_cases c_1 : hX0_find B a1
  · refine lv_rev (v' := .ref (G.2.2.1 i (3 + a1.toNatClampNeg))) (congrArg va_rf (if_pos c_1)) ?_
    try rw [if_pos c_1] at hR
    refine lv_astore_n (lv' := [(2, .ref (G.2.2.1 i (3 + a1.toNatClampNeg))), (0, .ref (G.2.2.1 i 0)), (1, .int a1)]) hx hb dX0_ticksUntilRest_5 rfl hl (by decide) rfl (fun ls hl => ?_)
    refine lv_aload_n hx hb dX0_ticksUntilRest_6 rfl (lv_at hl 0 rfl) ?_
    refine lv_ifnonnull (tgt := 12) hx hb dX0_ticksUntilRest_7 (by decide) ?_
    refine lv_aload_n hx hb dX0_ticksUntilRest_12 rfl (lv_at hl 1 rfl) ?_
    refine wr_get hC hinRX0 hW (vB hi (by decide)) (ce_b0 hi) rfl 7 (by decide) hk0 rfl dX0_ticksUntilRest_13 ?_
    refine lv_topi (fun x9 ex9 => ?_)
    rw [← ex9] at hR
    refine lv_istore_n (lv' := [(3, .int x9), (2, .ref (G.2.2.1 i (3 + a1.toNatClampNeg))), (0, .ref (G.2.2.1 i 0)), (1, .int a1)]) hx hb dX0_ticksUntilRest_16 rfl hl (by decide) rfl (fun ls hl => ?_)
    refine lv_iconst (v := 0) hx hb dX0_ticksUntilRest_17 (by decide) ?_
    refine lv_istore (lv' := [(4, .int 0), (3, .int x9), (2, .ref (G.2.2.1 i (3 + a1.toNatClampNeg))), (0, .ref (G.2.2.1 i 0)), (1, .int a1)]) hx hb dX0_ticksUntilRest_18 hl (by decide) rfl (fun ls hl => ?_)
    have hlp_2 : ∀ (u : Nat) (k : Nat) (B : wB), (hk : k + u = 20001) → R = LX0_rest a1.toNatClampNeg a1 x9 u B → ∀ (H : Heap) (locs : List Loc) (ls : Array Slot), wW G (wset Z i B) H → va_S (wA G) s.heap H locs → lv_has ls 6 [(0, .ref (G.2.2.1 i 0)), (1, .int a1), (2, .ref (G.2.2.1 i (3 + a1.toNatClampNeg))), (3, .int x9), (4, .int (nI k))] → W p l e (headSpec wsX0_ticksUntilRest rX0_ticksUntilRest).room s m ([.ref (G.2.2.1 i 0), .int a1] : List Value).toArray below meth c H locs 0 0 (qI below ([.ref (G.2.2.1 i 0), .int a1] : List Value).toArray s G R.2 (wset Z i R.1)) (F0 m 20 ls []) := by
      intro u
      induction u with
      | zero =>
        intro k B hk hR H locs ls hW hS hl
        simp only [LX0_rest] at hR
        refine lv_iload hx hb dX0_ticksUntilRest_20 (lv_at hl 4 rfl) ?_
        refine lv_sipush (v := 20000) hx hb dX0_ticksUntilRest_22 (by decide) ?_
        refine lv_icmp_gt (tgt := 86) hx hb dX0_ticksUntilRest_25 (by decide) (fun c_3 => ?_) (fun c_3 => ?_)
        · skip
          refine lv_bipush (v := (-6)) hx hb dX0_ticksUntilRest_86 (by decide) ?_
          exact we_i hC hr hlocks (congrArg Prod.snd hR).symm (congrArg (fun u => wset Z i u.1) hR).symm hW hS dX0_ticksUntilRest_88
        · exact absurd ((nI_ltI (a := 20000) (by decide) (by omega)).mpr (by omega)) c_3
      | succ u ih =>
        intro k B hk hR H locs ls hW hS hl
        simp only [LX0_rest] at hR
        refine lv_iload hx hb dX0_ticksUntilRest_20 (lv_at hl 4 rfl) ?_
        refine lv_sipush (v := 20000) hx hb dX0_ticksUntilRest_22 (by decide) ?_
        refine lv_icmp_gt (tgt := 86) hx hb dX0_ticksUntilRest_25 (by decide) (fun c_4 => ?_) (fun c_4 => ?_)
        · exact absurd ((nI_ltI (a := 20000) (by decide) (by omega)).mp c_4) (by omega)
        · skip
          refine lv_aload_n hx hb dX0_ticksUntilRest_28 rfl (lv_at hl 2 rfl) ?_
          refine wc_i hC hml (kX5_moves l G Z i hi a1.toNatClampNeg (find_lt c_1) B) (cwV 0 hts gX0_ticksUntilRest_X5_moves rfl rfl rfl (by decide +kernel) ⟨Nat.le_of_ble_eq_true rfl, Nat.le_of_ble_eq_true rfl⟩) hW hS (vBs hi (find_lt c_1)) (ce_bs hi (find_lt c_1)) rfl rfl rfl rfl hl.1 (Nat.le_of_ble_eq_true rfl) dX0_ticksUntilRest_29 (fun H locs hW hS => ?_)
          refine lv_topi (fun x_5 ex_5 => ?_)
          try rw [← ex_5] at hR
          refine lv_if_ne (tgt := 50) hx hb dX0_ticksUntilRest_32 (by decide) (fun c_6 => ?_) (fun c_6 => ?_)
          · skip
            try rw [if_neg c_6] at hR
            unfold gX0_rest at hR
            refine lv_aload_n hx hb dX0_ticksUntilRest_50 rfl (lv_at hl 0 rfl) ?_
            refine wc_i hC hml (kX0_nextEvent l G Z i hi B) (cwV 0 hts gX0_ticksUntilRest_X0_nextEvent rfl rfl rfl (by decide +kernel) ⟨Nat.le_of_ble_eq_true rfl, Nat.le_of_ble_eq_true rfl⟩) hW hS (vB hi (by decide)) (ce_b0 hi) rfl rfl rfl rfl hl.1 (Nat.le_of_ble_eq_true rfl) dX0_ticksUntilRest_51 (fun H locs hW hS => ?_)
            refine lv_topi (fun x_7 ex_7 => ?_)
            try rw [← ex_7] at hR
            refine lv_istore (lv' := [(5, .int x_7), (0, .ref (G.2.2.1 i 0)), (1, .int a1), (2, .ref (G.2.2.1 i (3 + a1.toNatClampNeg))), (3, .int x9), (4, .int (nI k))]) hx hb dX0_ticksUntilRest_54 hl (by decide) rfl (fun ls hl => ?_)
            refine lv_iload hx hb dX0_ticksUntilRest_56 (lv_at hl 0 rfl) ?_
            refine lv_iload_n hx hb dX0_ticksUntilRest_58 rfl (lv_at hl 4 rfl) ?_
            refine lv_isub hx hb dX0_ticksUntilRest_59 ?_
            refine lv_sipush (v := 20000) hx hb dX0_ticksUntilRest_60 (by decide) ?_
            refine lv_icmp_le (tgt := 69) hx hb dX0_ticksUntilRest_63 (by decide) (fun c_8 => ?_) (fun c_8 => ?_)
            · skip
              try rw [if_pos c_8] at hR
              refine lv_aload_n hx hb dX0_ticksUntilRest_69 rfl (lv_at hl 1 rfl) ?_
              refine lv_iload hx hb dX0_ticksUntilRest_70 (lv_at hl 0 rfl) ?_
              refine wc_v hC hml (kX0_arriveAt l G Z i hi B x_7) (cwV 1 hts gX0_ticksUntilRest_X0_arriveAt rfl rfl rfl (by decide +kernel) ⟨Nat.le_of_ble_eq_true rfl, Nat.le_of_ble_eq_true rfl⟩) hW hS (vB hi (by decide)) (ce_b0 hi) rfl rfl rfl rfl hl.1 (Nat.le_of_ble_eq_true rfl) dX0_ticksUntilRest_72 (fun H locs hW hS => ?_)
              obtain ⟨B_9, eB_9⟩ : ∃ y, y = fX0_arriveAt B x_7 := ⟨_, rfl⟩
              rw [← eB_9] at hW
              try rw [← eB_9] at hR
              refine lv_aload_n hx hb dX0_ticksUntilRest_75 rfl (lv_at hl 1 rfl) ?_
              refine wc_i hC hml (kX0_makeSteps l G Z i hi B_9) (cwV 0 hts gX0_ticksUntilRest_X0_makeSteps rfl rfl rfl (by decide +kernel) ⟨Nat.le_of_ble_eq_true rfl, Nat.le_of_ble_eq_true rfl⟩) hW hS (vB hi (by decide)) (ce_b0 hi) rfl rfl rfl rfl hl.1 (Nat.le_of_ble_eq_true rfl) dX0_ticksUntilRest_76 (fun H locs hW hS => ?_)
              obtain ⟨P_10, eP_10⟩ : ∃ y, y = fX0_makeSteps B_9 := ⟨_, rfl⟩
              rw [← eP_10] at hW ⊢
              try rw [← eP_10] at hR
              refine lv_pop hx hb dX0_ticksUntilRest_79 rfl ?_
              refine lv_iinc (v := nI (k + 1)) (lv' := [(4, .int (nI (k + 1))), (5, .int x_7), (0, .ref (G.2.2.1 i 0)), (1, .int a1), (2, .ref (G.2.2.1 i (3 + a1.toNatClampNeg))), (3, .int x9)]) hx hb dX0_ticksUntilRest_80 hl (k := 5) rfl (nI_1 _) (by decide) rfl (fun ls hl => ?_)
              refine lv_goto (tgt := 20) hx hb dX0_ticksUntilRest_83 (by decide) ?_
              exact ih (k + 1) P_10.1 (by omega) hR _ _ _ hW hS (lv_sub hl [2, 3, 4, 5, 0] rfl)
            · skip
              try rw [if_neg c_8] at hR
              refine lv_bipush (v := (-6)) hx hb dX0_ticksUntilRest_66 (by decide) ?_
              exact we_i hC hr hlocks (congrArg Prod.snd hR).symm (congrArg (fun u => wset Z i u.1) hR).symm hW hS dX0_ticksUntilRest_68
          · skip
            try rw [if_pos c_6] at hR
            refine lv_aload_n hx hb dX0_ticksUntilRest_35 rfl (lv_at hl 0 rfl) ?_
            refine lv_iload_n hx hb dX0_ticksUntilRest_36 rfl (lv_at hl 1 rfl) ?_
            refine wc_i hC hml (kX0_hasPlan l G Z i hi B a1) (cwV 1 hts gX0_ticksUntilRest_X0_hasPlan rfl rfl rfl (by decide +kernel) ⟨Nat.le_of_ble_eq_true rfl, Nat.le_of_ble_eq_true rfl⟩) hW hS (vB hi (by decide)) (ce_b0 hi) rfl rfl rfl rfl hl.1 (Nat.le_of_ble_eq_true rfl) dX0_ticksUntilRest_37 (fun H locs hW hS => ?_)
            refine lv_topi (fun x_11 ex_11 => ?_)
            try rw [← ex_11] at hR
            refine lv_if_ne (tgt := 50) hx hb dX0_ticksUntilRest_40 (by decide) (fun c_12 => ?_) (fun c_12 => ?_)
            · skip
              try rw [if_neg c_12] at hR
              unfold gX0_rest at hR
              refine lv_aload_n hx hb dX0_ticksUntilRest_50 rfl (lv_at hl 0 rfl) ?_
              refine wc_i hC hml (kX0_nextEvent l G Z i hi B) (cwV 0 hts gX0_ticksUntilRest_X0_nextEvent rfl rfl rfl (by decide +kernel) ⟨Nat.le_of_ble_eq_true rfl, Nat.le_of_ble_eq_true rfl⟩) hW hS (vB hi (by decide)) (ce_b0 hi) rfl rfl rfl rfl hl.1 (Nat.le_of_ble_eq_true rfl) dX0_ticksUntilRest_51 (fun H locs hW hS => ?_)
              refine lv_topi (fun x_13 ex_13 => ?_)
              try rw [← ex_13] at hR
              refine lv_istore (lv' := [(5, .int x_13), (0, .ref (G.2.2.1 i 0)), (1, .int a1), (2, .ref (G.2.2.1 i (3 + a1.toNatClampNeg))), (3, .int x9), (4, .int (nI k))]) hx hb dX0_ticksUntilRest_54 hl (by decide) rfl (fun ls hl => ?_)
              refine lv_iload hx hb dX0_ticksUntilRest_56 (lv_at hl 0 rfl) ?_
              refine lv_iload_n hx hb dX0_ticksUntilRest_58 rfl (lv_at hl 4 rfl) ?_
              refine lv_isub hx hb dX0_ticksUntilRest_59 ?_
              refine lv_sipush (v := 20000) hx hb dX0_ticksUntilRest_60 (by decide) ?_
              refine lv_icmp_le (tgt := 69) hx hb dX0_ticksUntilRest_63 (by decide) (fun c_14 => ?_) (fun c_14 => ?_)
              · skip
                try rw [if_pos c_14] at hR
                refine lv_aload_n hx hb dX0_ticksUntilRest_69 rfl (lv_at hl 1 rfl) ?_
                refine lv_iload hx hb dX0_ticksUntilRest_70 (lv_at hl 0 rfl) ?_
                refine wc_v hC hml (kX0_arriveAt l G Z i hi B x_13) (cwV 1 hts gX0_ticksUntilRest_X0_arriveAt rfl rfl rfl (by decide +kernel) ⟨Nat.le_of_ble_eq_true rfl, Nat.le_of_ble_eq_true rfl⟩) hW hS (vB hi (by decide)) (ce_b0 hi) rfl rfl rfl rfl hl.1 (Nat.le_of_ble_eq_true rfl) dX0_ticksUntilRest_72 (fun H locs hW hS => ?_)
                obtain ⟨B_15, eB_15⟩ : ∃ y, y = fX0_arriveAt B x_13 := ⟨_, rfl⟩
                rw [← eB_15] at hW
                try rw [← eB_15] at hR
                refine lv_aload_n hx hb dX0_ticksUntilRest_75 rfl (lv_at hl 1 rfl) ?_
                refine wc_i hC hml (kX0_makeSteps l G Z i hi B_15) (cwV 0 hts gX0_ticksUntilRest_X0_makeSteps rfl rfl rfl (by decide +kernel) ⟨Nat.le_of_ble_eq_true rfl, Nat.le_of_ble_eq_true rfl⟩) hW hS (vB hi (by decide)) (ce_b0 hi) rfl rfl rfl rfl hl.1 (Nat.le_of_ble_eq_true rfl) dX0_ticksUntilRest_76 (fun H locs hW hS => ?_)
                obtain ⟨P_16, eP_16⟩ : ∃ y, y = fX0_makeSteps B_15 := ⟨_, rfl⟩
                rw [← eP_16] at hW ⊢
                try rw [← eP_16] at hR
                refine lv_pop hx hb dX0_ticksUntilRest_79 rfl ?_
                refine lv_iinc (v := nI (k + 1)) (lv' := [(4, .int (nI (k + 1))), (5, .int x_13), (0, .ref (G.2.2.1 i 0)), (1, .int a1), (2, .ref (G.2.2.1 i (3 + a1.toNatClampNeg))), (3, .int x9)]) hx hb dX0_ticksUntilRest_80 hl (k := 5) rfl (nI_1 _) (by decide) rfl (fun ls hl => ?_)
                refine lv_goto (tgt := 20) hx hb dX0_ticksUntilRest_83 (by decide) ?_
                exact ih (k + 1) P_16.1 (by omega) hR _ _ _ hW hS (lv_sub hl [2, 3, 4, 5, 0] rfl)
              · skip
                try rw [if_neg c_14] at hR
                refine lv_bipush (v := (-6)) hx hb dX0_ticksUntilRest_66 (by decide) ?_
                exact we_i hC hr hlocks (congrArg Prod.snd hR).symm (congrArg (fun u => wset Z i u.1) hR).symm hW hS dX0_ticksUntilRest_68
            · skip
              try rw [if_pos c_12] at hR
              refine lv_aload_n hx hb dX0_ticksUntilRest_43 rfl (lv_at hl 0 rfl) ?_
              refine wr_get hC hinRX0 hW (vB hi (by decide)) (ce_b0 hi) rfl 7 (by decide) hk0 rfl dX0_ticksUntilRest_44 ?_
              refine lv_iload_n hx hb dX0_ticksUntilRest_47 rfl (lv_at hl 3 rfl) ?_
              refine lv_isub hx hb dX0_ticksUntilRest_48 ?_
              exact we_i hC hr hlocks (congrArg Prod.snd hR).symm (congrArg (fun u => wset Z i u.1) hR).symm hW hS dX0_ticksUntilRest_49
    exact hlp_2 restMax 0 B (by unfold restMax; rfl) hR _ _ _ hW hS (lv_sub hl [3, 4, 2, 1, 0] rfl)
  · refine lv_rev (v' := .null) (congrArg va_rf (if_neg c_1)) ?_
    try rw [if_neg c_1] at hR
    refine lv_astore_nN (lv' := [(2, .null), (0, .ref (G.2.2.1 i 0)), (1, .int a1)]) hx hb dX0_ticksUntilRest_5 rfl hl (by decide) rfl (fun ls hl => ?_)
    refine lv_aload_nN hx hb dX0_ticksUntilRest_6 rfl (lv_at hl 0 rfl) ?_
    refine lv_ifnonnullN hx hb dX0_ticksUntilRest_7 ?_
    refine lv_iconst (v := (-1)) hx hb dX0_ticksUntilRest_10 (by decide) ?_
    exact we_i hC hr hlocks (congrArg Prod.snd hR).symm (congrArg (fun u => wset Z i u.1) hR).symm hW hS dX0_ticksUntilRest_11

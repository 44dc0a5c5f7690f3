theorem toNat_lt (x : Int32) : x.toNatClampNeg < 2 ^ 31 := by
  have h := Int32.toInt_lt x
  unfold Int32.toNatClampNeg
  omega
def fX6_restsIn (Z : wZ) (a1 : Int32) : wZ × Int32 :=
  let P_1 := fX0_ticksUntilRest (Z 0) a1
  ((wset Z 1 P_1.1), P_1.2)
abbrev rX6_restsIn : Room := { frames := 5, cells := 0, slots := 0, locals := 118 }
set_option maxHeartbeats 4000000 in
set_option maxRecDepth 100000 in
theorem kX6_restsIn (l : Launch) (G : wG) (Z : wZ)  (a1 : Int32)  : mI l yX6_restsIn wsX6_restsIn rX6_restsIn G [.ref (G.2.2.1 11 0), .int a1] Z (fX6_restsIn Z a1).2 (fX6_restsIn Z a1).1 := by
  refine Met.ofW (cc := cX6_restsIn) (maxL := 2) (ret := (some .int)) (by decide) rfl ?_
  intro p e s m args below meth c s₁ B0 hml hv
  obtain ⟨rfl, hW, hK, hL⟩ := hv
  have hlocks := B0.notSynchronized
  have hr := B0.returns
  have hC : wX p s m c cX6_restsIn _ wsX6_restsIn RX6 G := ⟨B0.exec, B0.bytes, findClass_of_methodNamed B0.named, atoms_spec (ws := wsX6_restsIn) B0.pre, hK, hL⟩
  have hx := hC.1
  have hb := hC.2.1
  have hts := hC.2.2.2.1
  have hinRX6 : ∀ w ∈ wsX60, w ∈ wsX6_restsIn := by decide +kernel
  have hk0 := hts (.fieldLink RX6 16 "RampShafts" "trial" "LRampShafts$Bench;") (by decide +kernel)
  have hk1 := hts (.fieldLink RX6 10 "RampShafts" "bench" "LRampShafts$Bench;") (by decide +kernel)
  have hS : va_S (wA G) s.heap s.heap [] := va_S.rf
  have hl := lv_entry ([.ref (G.2.2.1 11 0), .int a1]) (n := 2) (Nat.le_of_ble_eq_true rfl)
  rw [lg_entry_eq]
  generalize (lg_sl ([.ref (G.2.2.1 11 0), .int a1]) ++ List.replicate (2 - (lg_sl ([.ref (G.2.2.1 11 0), .int a1])).length) Slot.unset).toArray = ls at hl ⊢
  have hl : lv_has ls 2 [(0, .ref (G.2.2.1 11 0)), (1, .int a1)] := hl
  refine lv_aload_n hx hb dX6_restsIn_0 rfl (lv_at hl 0 rfl) ?_
  refine wr_get hC hinRX6 hW (vS (by decide)) ((wE_c (Z' := wset Z 11 (Z 11)) (by first | (simp [wset]; done) | (simp only [wset]; split <;> first | (exfalso; omega) | simp))).trans ce_s0) rfl 1 (by decide) hk0 rfl dX6_restsIn_1 ?_
  refine lv_aload_n hx hb dX6_restsIn_4 rfl (lv_at hl 0 rfl) ?_
  refine wr_get hC hinRX6 hW (vS (by decide)) ((wE_c (Z' := wset Z 11 (Z 11)) (by first | (simp [wset]; done) | (simp only [wset]; split <;> first | (exfalso; omega) | simp))).trans ce_s0) rfl 0 (by decide) hk1 rfl dX6_restsIn_5 ?_
  have hW := wW_eq (Z' := (wset Z 1 (Z 1))) hW (by
    funext i9
    by_cases e0 : i9 = 1
    all_goals first | (simp [wset, e0]; done) | (exfalso; omega) | (subst_vars; simp [wset]; done) | (subst_vars; simp_all [wset]; done))
  refine wc_v hC hml (kX0_take l G Z 1 (by decide) 0 (by decide) (by decide) (Z 1)) (cwV 1 hts gX6_restsIn_X0_take rfl rfl rfl (by decide +kernel) ⟨Nat.le_of_ble_eq_true rfl, Nat.le_of_ble_eq_true rfl⟩) hW hS (vB (by decide) (by decide)) (ce_b0 (by decide)) rfl rfl rfl rfl hl.1 (Nat.le_of_ble_eq_true rfl) dX6_restsIn_8 (fun H locs hW hS => ?_)
  refine lv_aload_n hx hb dX6_restsIn_11 rfl (lv_at hl 0 rfl) ?_
  refine wr_get hC hinRX6 hW (vS (by decide)) ((wE_c (Z' := wset Z 11 (Z 11)) (by first | (simp [wset]; done) | (simp only [wset]; split <;> first | (exfalso; omega) | simp))).trans ce_s0) rfl 1 (by decide) hk0 rfl dX6_restsIn_12 ?_
  refine lv_iload_n hx hb dX6_restsIn_15 rfl (lv_at hl 1 rfl) ?_
  refine wc_i hC hml (kX0_ticksUntilRest l G Z 1 (by decide) (Z 0) a1) (cwV 1 hts gX6_restsIn_X0_ticksUntilRest rfl rfl rfl (by decide +kernel) ⟨Nat.le_of_ble_eq_true rfl, Nat.le_of_ble_eq_true rfl⟩) hW hS (vB (by decide) (by decide)) (ce_b0 (by decide)) rfl rfl rfl rfl hl.1 (Nat.le_of_ble_eq_true rfl) dX6_restsIn_16 (fun H locs hW hS => ?_)
  obtain ⟨P_1, eP_1⟩ : ∃ y, y = fX0_ticksUntilRest (Z 0) a1 := ⟨_, rfl⟩
  rw [← eP_1] at hW ⊢
  have hf : fX6_restsIn Z a1 = ((wset Z 1 P_1.1), P_1.2) := by
    subst eP_1
    exact rfl
  exact we_i hC hr hlocks (congrArg Prod.snd hf).symm (congrArg Prod.fst hf).symm hW hS dX6_restsIn_19
def fX6_nextStep (Z : wZ) (a1 : Int32) (a2 : Int32) : wZ × Int32 :=
  if a1 < 0 then (Z, (-2))
  else if 99 < a1 then (Z, (-2))
  else if a2 < 0 then (Z, (-2))
  else if a2 ≤ 2 then (let P_5 := fX0_goToStep (Z 0) a1
    let x_6 := P_5.2
    if hX0_find P_5.1 x_6 then (if a2 = 0 then ((wset Z 1 P_5.1), (P_5.1 0 2) - ((Z 0) 0 2))
      else if a2 = 1 then ((wset Z 1 P_5.1), x_6)
      else let x_10 := fX3_grips P_5.1 (P_5.1 (3 + x_6.toNatClampNeg) 6) (P_5.1 (3 + x_6.toNatClampNeg) 1)
      if x_10 = 0 then ((wset Z 1 P_5.1), 1)
      else ((wset Z 1 P_5.1), 0))
    else ((wset Z 1 P_5.1), (-6)))
  else (Z, (-2))
abbrev rX6_nextStep : Room := { frames := 5, cells := 0, slots := 0, locals := 119 }
set_option maxHeartbeats 4000000 in
set_option maxRecDepth 100000 in
theorem kX6_nextStep (l : Launch) (G : wG) (Z : wZ)  (a1 : Int32) (a2 : Int32)  : mI l yX6_nextStep wsX6_nextStep rX6_nextStep G [.ref (G.2.2.1 11 0), .int a1, .int a2] Z (fX6_nextStep Z a1 a2).2 (fX6_nextStep Z a1 a2).1 := by
  refine Met.ofW (cc := cX6_nextStep) (maxL := 5) (ret := (some .int)) (by decide) rfl ?_
  intro p e s m args below meth c s₁ B0 hml hv
  obtain ⟨rfl, hW, hK, hL⟩ := hv
  have hlocks := B0.notSynchronized
  have hr := B0.returns
  have hC : wX p s m c cX6_nextStep _ wsX6_nextStep RX6 G := ⟨B0.exec, B0.bytes, findClass_of_methodNamed B0.named, atoms_spec (ws := wsX6_nextStep) B0.pre, hK, hL⟩
  have hx := hC.1
  have hb := hC.2.1
  have hts := hC.2.2.2.1
  have hinRX0 : ∀ w ∈ wsX00, w ∈ wsX6_nextStep := by decide +kernel
  have hinRX5 : ∀ w ∈ wsX50, w ∈ wsX6_nextStep := by decide +kernel
  have hinRX6 : ∀ w ∈ wsX60, w ∈ wsX6_nextStep := by decide +kernel
  have hk0 := hts (.fieldLink RX6 16 "RampShafts" "trial" "LRampShafts$Bench;") (by decide +kernel)
  have hk1 := hts (.fieldLink RX6 10 "RampShafts" "bench" "LRampShafts$Bench;") (by decide +kernel)
  have hk2 := hts (.fieldLink RX6 119 "RampShafts$Bench" "time" "I") (by decide +kernel)
  have hk3 := hts (.fieldLink RX6 50 "RampShafts$Bench" "ramp" "LRampShafts$Ramp;") (by decide +kernel)
  have hk4 := hts (.fieldLink RX6 113 "RampShafts$Shaft" "level" "I") (by decide +kernel)
  have hk5 := hts (.fieldLink RX6 103 "RampShafts$Shaft" "load" "I") (by decide +kernel)
  have hS : va_S (wA G) s.heap s.heap [] := va_S.rf
  have hl := lv_entry ([.ref (G.2.2.1 11 0), .int a1, .int a2]) (n := 5) (Nat.le_of_ble_eq_true rfl)
  rw [lg_entry_eq]
  generalize (lg_sl ([.ref (G.2.2.1 11 0), .int a1, .int a2]) ++ List.replicate (5 - (lg_sl ([.ref (G.2.2.1 11 0), .int a1, .int a2])).length) Slot.unset).toArray = ls at hl ⊢
  have hl : lv_has ls 5 [(0, .ref (G.2.2.1 11 0)), (1, .int a1), (2, .int a2)] := hl
  refine lv_iload_n hx hb dX6_nextStep_0 rfl (lv_at hl 1 rfl) ?_
  refine lv_if_lt (tgt := 19) hx hb dX6_nextStep_1 (by decide) (fun c_1 => ?_) (fun c_1 => ?_)
  · skip
    refine lv_bipush (v := (-2)) hx hb dX6_nextStep_19 (by decide) ?_
    have hf : fX6_nextStep Z a1 a2 = (Z, (-2)) := (if_pos c_1).trans rfl
    exact we_i hC hr hlocks (congrArg Prod.snd hf).symm (congrArg Prod.fst hf).symm hW hS dX6_nextStep_21
  · skip
    refine lv_iload_n hx hb dX6_nextStep_4 rfl (lv_at hl 1 rfl) ?_
    refine lv_bipush (v := 99) hx hb dX6_nextStep_5 (by decide) ?_
    refine lv_icmp_gt (tgt := 19) hx hb dX6_nextStep_7 (by decide) (fun c_2 => ?_) (fun c_2 => ?_)
    · skip
      refine lv_bipush (v := (-2)) hx hb dX6_nextStep_19 (by decide) ?_
      have hf : fX6_nextStep Z a1 a2 = (Z, (-2)) := (if_neg c_1).trans ((if_pos c_2).trans rfl)
      exact we_i hC hr hlocks (congrArg Prod.snd hf).symm (congrArg Prod.fst hf).symm hW hS dX6_nextStep_21
    · skip
      refine lv_iload_n hx hb dX6_nextStep_10 rfl (lv_at hl 2 rfl) ?_
      refine lv_if_lt (tgt := 19) hx hb dX6_nextStep_11 (by decide) (fun c_3 => ?_) (fun c_3 => ?_)
      · skip
        refine lv_bipush (v := (-2)) hx hb dX6_nextStep_19 (by decide) ?_
        have hf : fX6_nextStep Z a1 a2 = (Z, (-2)) := (if_neg c_1).trans ((if_neg c_2).trans ((if_pos c_3).trans rfl))
        exact we_i hC hr hlocks (congrArg Prod.snd hf).symm (congrArg Prod.fst hf).symm hW hS dX6_nextStep_21
      · skip
        refine lv_iload_n hx hb dX6_nextStep_14 rfl (lv_at hl 2 rfl) ?_
        refine lv_iconst (v := 2) hx hb dX6_nextStep_15 (by decide) ?_
        refine lv_icmp_le (tgt := 22) hx hb dX6_nextStep_16 (by decide) (fun c_4 => ?_) (fun c_4 => ?_)
        · skip
          refine lv_aload_n hx hb dX6_nextStep_22 rfl (lv_at hl 0 rfl) ?_
          refine wr_get hC hinRX6 hW (vS (by decide)) ((wE_c (Z' := wset Z 11 (Z 11)) (by first | (simp [wset]; done) | (simp only [wset]; split <;> first | (exfalso; omega) | simp))).trans ce_s0) rfl 1 (by decide) hk0 rfl dX6_nextStep_23 ?_
          refine lv_aload_n hx hb dX6_nextStep_26 rfl (lv_at hl 0 rfl) ?_
          refine wr_get hC hinRX6 hW (vS (by decide)) ((wE_c (Z' := wset Z 11 (Z 11)) (by first | (simp [wset]; done) | (simp only [wset]; split <;> first | (exfalso; omega) | simp))).trans ce_s0) rfl 0 (by decide) hk1 rfl dX6_nextStep_27 ?_
          have hW := wW_eq (Z' := (wset Z 1 (Z 1))) hW (by
            funext i9
            by_cases e0 : i9 = 1
            all_goals first | (simp [wset, e0]; done) | (exfalso; omega) | (subst_vars; simp [wset]; done) | (subst_vars; simp_all [wset]; done))
          refine wc_v hC hml (kX0_take l G Z 1 (by decide) 0 (by decide) (by decide) (Z 1)) (cwV 1 hts gX6_nextStep_X0_take rfl rfl rfl (by decide +kernel) ⟨Nat.le_of_ble_eq_true rfl, Nat.le_of_ble_eq_true rfl⟩) hW hS (vB (by decide) (by decide)) (ce_b0 (by decide)) rfl rfl rfl rfl hl.1 (Nat.le_of_ble_eq_true rfl) dX6_nextStep_30 (fun H locs hW hS => ?_)
          refine lv_aload_n hx hb dX6_nextStep_33 rfl (lv_at hl 0 rfl) ?_
          refine wr_get hC hinRX6 hW (vS (by decide)) ((wE_c (Z' := wset Z 11 (Z 11)) (by first | (simp [wset]; done) | (simp only [wset]; split <;> first | (exfalso; omega) | simp))).trans ce_s0) rfl 1 (by decide) hk0 rfl dX6_nextStep_34 ?_
          refine lv_iload_n hx hb dX6_nextStep_37 rfl (lv_at hl 1 rfl) ?_
          refine wc_i hC hml (kX0_goToStep l G Z 1 (by decide) (Z 0) a1) (cwV 1 hts gX6_nextStep_X0_goToStep rfl rfl rfl (by decide +kernel) ⟨Nat.le_of_ble_eq_true rfl, Nat.le_of_ble_eq_true rfl⟩) hW hS (vB (by decide) (by decide)) (ce_b0 (by decide)) rfl rfl rfl rfl hl.1 (Nat.le_of_ble_eq_true rfl) dX6_nextStep_38 (fun H locs hW hS => ?_)
          obtain ⟨P_5, eP_5⟩ : ∃ y, y = fX0_goToStep (Z 0) a1 := ⟨_, rfl⟩
          rw [← eP_5] at hW ⊢
          refine lv_topi (fun x_6 ex_6 => ?_)
          refine lv_istore_n (lv' := [(3, .int x_6), (0, .ref (G.2.2.1 11 0)), (1, .int a1), (2, .int a2)]) hx hb dX6_nextStep_41 rfl hl (by decide) rfl (fun ls hl => ?_)
          refine lv_aload_n hx hb dX6_nextStep_42 rfl (lv_at hl 1 rfl) ?_
          refine wr_get hC hinRX6 hW (vS (by decide)) ((wE_c (Z' := wset Z 11 (Z 11)) (by first | (simp [wset]; done) | (simp only [wset]; split <;> first | (exfalso; omega) | simp))).trans ce_s0) rfl 1 (by decide) hk0 rfl dX6_nextStep_43 ?_
          refine lv_iload_n hx hb dX6_nextStep_46 rfl (lv_at hl 0 rfl) ?_
          refine wc_q hC hml (kX0_find l G Z 1 (by decide) P_5.1 x_6) (cwV 1 hts gX6_nextStep_X0_find rfl rfl rfl (by decide +kernel) ⟨Nat.le_of_ble_eq_true rfl, Nat.le_of_ble_eq_true rfl⟩) hW hS (vB (by decide) (by decide)) (ce_b0 (by decide)) rfl rfl rfl rfl hl.1 (Nat.le_of_ble_eq_true rfl) dX6_nextStep_47 (fun H locs hW hS => ?_)
          by_cases c_7 : hX0_find P_5.1 x_6
          · refine lv_rev (v' := .ref (G.2.2.1 1 (3 + x_6.toNatClampNeg))) (congrArg va_rf (if_pos c_7)) ?_
            refine lv_astore (lv' := [(4, .ref (G.2.2.1 1 (3 + x_6.toNatClampNeg))), (3, .int x_6), (0, .ref (G.2.2.1 11 0)), (1, .int a1), (2, .int a2)]) hx hb dX6_nextStep_50 hl (by decide) rfl (fun ls hl => ?_)
            refine lv_aload hx hb dX6_nextStep_52 (lv_at hl 0 rfl) ?_
            refine lv_ifnonnull (tgt := 60) hx hb dX6_nextStep_54 (by decide) ?_
            refine lv_iload_n hx hb dX6_nextStep_60 rfl (lv_at hl 4 rfl) ?_
            by_cases c_8 : a2 = 0
            · refine lv_re c_8 ?_
              refine lv_lookup (tgt := 88) (off := 27) hx hb dX6_nextStep_61 (by decide) (by decide) (by decide) ?_
              refine lv_aload_n hx hb dX6_nextStep_88 rfl (lv_at hl 2 rfl) ?_
              refine wr_get hC hinRX6 hW (vS (by decide)) ((wE_c (Z' := wset Z 11 (Z 11)) (by first | (simp [wset]; done) | (simp only [wset]; split <;> first | (exfalso; omega) | simp))).trans ce_s0) rfl 1 (by decide) hk0 rfl dX6_nextStep_89 ?_
              refine wr_get hC hinRX0 hW (vB (by decide) (by decide)) (ce_b0 (by decide)) rfl 7 (by decide) hk2 rfl dX6_nextStep_92 ?_
              refine lv_aload_n hx hb dX6_nextStep_95 rfl (lv_at hl 2 rfl) ?_
              refine wr_get hC hinRX6 hW (vS (by decide)) ((wE_c (Z' := wset Z 11 (Z 11)) (by first | (simp [wset]; done) | (simp only [wset]; split <;> first | (exfalso; omega) | simp))).trans ce_s0) rfl 0 (by decide) hk1 rfl dX6_nextStep_96 ?_
              refine wr_get hC hinRX0 hW (vB (by decide) (by decide)) ((wE_c (Z' := wset Z 0 (Z 0)) (by first | (simp [wset]; done) | (simp only [wset]; split <;> first | (exfalso; omega) | simp))).trans (ce_b0 (by decide))) rfl 7 (by decide) hk2 rfl dX6_nextStep_99 ?_
              refine lv_isub hx hb dX6_nextStep_102 ?_
              have hf : fX6_nextStep Z a1 a2 = ((wset Z 1 P_5.1), (P_5.1 0 2) - ((Z 0) 0 2)) := by
                subst ex_6
                subst eP_5
                exact (if_neg c_1).trans ((if_neg c_2).trans ((if_neg c_3).trans ((if_pos c_4).trans ((if_pos c_7).trans ((if_pos c_8).trans rfl)))))
              exact we_i hC hr hlocks (congrArg Prod.snd hf).symm (congrArg Prod.fst hf).symm hW hS dX6_nextStep_103
            by_cases c_9 : a2 = 1
            · refine lv_re c_9 ?_
              refine lv_lookup (tgt := 104) (off := 43) hx hb dX6_nextStep_61 (by decide) (by decide) (by decide) ?_
              refine lv_iload_n hx hb dX6_nextStep_104 rfl (lv_at hl 1 rfl) ?_
              have hf : fX6_nextStep Z a1 a2 = ((wset Z 1 P_5.1), x_6) := by
                subst ex_6
                subst eP_5
                exact (if_neg c_1).trans ((if_neg c_2).trans ((if_neg c_3).trans ((if_pos c_4).trans ((if_pos c_7).trans ((if_neg c_8).trans ((if_pos c_9).trans rfl))))))
              exact we_i hC hr hlocks (congrArg Prod.snd hf).symm (congrArg Prod.fst hf).symm hW hS dX6_nextStep_105
            refine lv_lookup (tgt := 106) (off := 45) hx hb dX6_nextStep_61 (by decide) (by
              show Op.lookupswitch.offset [(0, 27), (1, 43)] 45 a2.toInt = 45
              rw [lv_osw c_8 (by decide)]
              rw [lv_osw c_9 (by decide)]
              rfl) (by decide) ?_
            refine lv_aload_n hx hb dX6_nextStep_106 rfl (lv_at hl 2 rfl) ?_
            refine wr_get hC hinRX6 hW (vS (by decide)) ((wE_c (Z' := wset Z 11 (Z 11)) (by first | (simp [wset]; done) | (simp only [wset]; split <;> first | (exfalso; omega) | simp))).trans ce_s0) rfl 1 (by decide) hk0 rfl dX6_nextStep_107 ?_
            refine wr_get hC hinRX0 hW (vB (by decide) (by decide)) (ce_b0 (by decide)) rfl 0 (by decide) hk3 rfl dX6_nextStep_110 ?_
            refine lv_aload hx hb dX6_nextStep_113 (lv_at hl 0 rfl) ?_
            refine wr_get hC hinRX5 hW (vBs (by decide) (find_lt c_7)) (ce_bs (by decide) (find_lt c_7)) rfl 6 (by decide) hk4 rfl dX6_nextStep_115 ?_
            refine lv_aload hx hb dX6_nextStep_118 (lv_at hl 0 rfl) ?_
            refine wr_get hC hinRX5 hW (vBs (by decide) (find_lt c_7)) (ce_bs (by decide) (find_lt c_7)) rfl 1 (by decide) hk5 rfl dX6_nextStep_120 ?_
            refine wc_i hC hml (kX3_grips l G Z 1 (by decide) P_5.1 (P_5.1 (3 + x_6.toNatClampNeg) 6) (P_5.1 (3 + x_6.toNatClampNeg) 1)) (cwV 2 hts gX6_nextStep_X3_grips rfl rfl rfl (by decide +kernel) ⟨Nat.le_of_ble_eq_true rfl, Nat.le_of_ble_eq_true rfl⟩) hW hS (vB (by decide) (by decide)) (ce_b1 (by decide)) rfl rfl rfl rfl hl.1 (Nat.le_of_ble_eq_true rfl) dX6_nextStep_123 (fun H locs hW hS => ?_)
            refine lv_topi (fun x_10 ex_10 => ?_)
            refine lv_if_eq (tgt := 133) hx hb dX6_nextStep_126 (by decide) (fun c_11 => ?_) (fun c_11 => ?_)
            · skip
              refine lv_iconst (v := 1) hx hb dX6_nextStep_133 (by decide) ?_
              have hf : fX6_nextStep Z a1 a2 = ((wset Z 1 P_5.1), 1) := by
                subst ex_10
                subst ex_6
                subst eP_5
                exact (if_neg c_1).trans ((if_neg c_2).trans ((if_neg c_3).trans ((if_pos c_4).trans ((if_pos c_7).trans ((if_neg c_8).trans ((if_neg c_9).trans ((if_pos c_11).trans rfl)))))))
              exact we_i hC hr hlocks (congrArg Prod.snd hf).symm (congrArg Prod.fst hf).symm hW hS dX6_nextStep_134
            · skip
              refine lv_iconst (v := 0) hx hb dX6_nextStep_129 (by decide) ?_
              refine lv_goto (tgt := 134) hx hb dX6_nextStep_130 (by decide) ?_
              have hf : fX6_nextStep Z a1 a2 = ((wset Z 1 P_5.1), 0) := by
                subst ex_10
                subst ex_6
                subst eP_5
                exact (if_neg c_1).trans ((if_neg c_2).trans ((if_neg c_3).trans ((if_pos c_4).trans ((if_pos c_7).trans ((if_neg c_8).trans ((if_neg c_9).trans ((if_neg c_11).trans rfl)))))))
              exact we_i hC hr hlocks (congrArg Prod.snd hf).symm (congrArg Prod.fst hf).symm hW hS dX6_nextStep_134
          · refine lv_rev (v' := .null) (congrArg va_rf (if_neg c_7)) ?_
            refine lv_astoreN (lv' := [(4, .null), (3, .int x_6), (0, .ref (G.2.2.1 11 0)), (1, .int a1), (2, .int a2)]) hx hb dX6_nextStep_50 hl (by decide) rfl (fun ls hl => ?_)
            refine lv_aloadN hx hb dX6_nextStep_52 (lv_at hl 0 rfl) ?_
            refine lv_ifnonnullN hx hb dX6_nextStep_54 ?_
            refine lv_bipush (v := (-6)) hx hb dX6_nextStep_57 (by decide) ?_
            have hf : fX6_nextStep Z a1 a2 = ((wset Z 1 P_5.1), (-6)) := by
              subst ex_6
              subst eP_5
              exact (if_neg c_1).trans ((if_neg c_2).trans ((if_neg c_3).trans ((if_pos c_4).trans ((if_neg c_7).trans rfl))))
            exact we_i hC hr hlocks (congrArg Prod.snd hf).symm (congrArg Prod.fst hf).symm hW hS dX6_nextStep_59
        · skip
          refine lv_bipush (v := (-2)) hx hb dX6_nextStep_19 (by decide) ?_
          have hf : fX6_nextStep Z a1 a2 = (Z, (-2)) := (if_neg c_1).trans ((if_neg c_2).trans ((if_neg c_3).trans ((if_neg c_4).trans rfl)))
          exact we_i hC hr hlocks (congrArg Prod.snd hf).symm (congrArg Prod.fst hf).symm hW hS dX6_nextStep_21
def fX6_moveOf (Z : wZ) (a1 : Int32) (a2 : Int32) : Int32 :=
  if a1 < 1 then (-2)
  else if 999 < a1 then (-2)
  else if a2 < 0 then (-2)
  else if a2 ≤ 1 then (if a2 = 0 then (let x_7 := fX3_ticksOf (Z 0) a1.toNatClampNeg
      x_7)
    else let x_6 := fX3_peakOf (Z 0) a1
    x_6)
  else (-2)
abbrev rX6_moveOf : Room := { frames := 3, cells := 0, slots := 0, locals := 67 }
set_option maxHeartbeats 4000000 in
set_option maxRecDepth 100000 in
theorem kX6_moveOf (l : Launch) (G : wG) (Z : wZ)  (a1 : Int32) (a2 : Int32)  : mI l yX6_moveOf wsX6_moveOf rX6_moveOf G [.ref (G.2.2.1 11 0), .int a1, .int a2] Z (fX6_moveOf Z a1 a2) Z := by
  refine Met.ofW (cc := cX6_moveOf) (maxL := 3) (ret := (some .int)) (by decide) rfl ?_
  intro p e s m args below meth c s₁ B0 hml hv
  obtain ⟨rfl, hW, hK, hL⟩ := hv
  have hlocks := B0.notSynchronized
  have hr := B0.returns
  have hC : wX p s m c cX6_moveOf _ wsX6_moveOf RX6 G := ⟨B0.exec, B0.bytes, findClass_of_methodNamed B0.named, atoms_spec (ws := wsX6_moveOf) B0.pre, hK, hL⟩
  have hx := hC.1
  have hb := hC.2.1
  have hts := hC.2.2.2.1
  have hinRX0 : ∀ w ∈ wsX00, w ∈ wsX6_moveOf := by decide +kernel
  have hinRX6 : ∀ w ∈ wsX60, w ∈ wsX6_moveOf := by decide +kernel
  have hk0 := hts (.fieldLink RX6 10 "RampShafts" "bench" "LRampShafts$Bench;") (by decide +kernel)
  have hk1 := hts (.fieldLink RX6 50 "RampShafts$Bench" "ramp" "LRampShafts$Ramp;") (by decide +kernel)
  have hS : va_S (wA G) s.heap s.heap [] := va_S.rf
  have hl := lv_entry ([.ref (G.2.2.1 11 0), .int a1, .int a2]) (n := 3) (Nat.le_of_ble_eq_true rfl)
  rw [lg_entry_eq]
  generalize (lg_sl ([.ref (G.2.2.1 11 0), .int a1, .int a2]) ++ List.replicate (3 - (lg_sl ([.ref (G.2.2.1 11 0), .int a1, .int a2])).length) Slot.unset).toArray = ls at hl ⊢
  have hl : lv_has ls 3 [(0, .ref (G.2.2.1 11 0)), (1, .int a1), (2, .int a2)] := hl
  refine lv_iload_n hx hb dX6_moveOf_0 rfl (lv_at hl 1 rfl) ?_
  refine lv_iconst (v := 1) hx hb dX6_moveOf_1 (by decide) ?_
  refine lv_icmp_lt (tgt := 21) hx hb dX6_moveOf_2 (by decide) (fun c_1 => ?_) (fun c_1 => ?_)
  · skip
    refine lv_bipush (v := (-2)) hx hb dX6_moveOf_21 (by decide) ?_
    have hf : fX6_moveOf Z a1 a2 = (-2) := (if_pos c_1).trans rfl
    exact we_i hC hr hlocks hf.symm rfl hW hS dX6_moveOf_23
  · skip
    refine lv_iload_n hx hb dX6_moveOf_5 rfl (lv_at hl 1 rfl) ?_
    refine lv_sipush (v := 999) hx hb dX6_moveOf_6 (by decide) ?_
    refine lv_icmp_gt (tgt := 21) hx hb dX6_moveOf_9 (by decide) (fun c_2 => ?_) (fun c_2 => ?_)
    · skip
      refine lv_bipush (v := (-2)) hx hb dX6_moveOf_21 (by decide) ?_
      have hf : fX6_moveOf Z a1 a2 = (-2) := (if_neg c_1).trans ((if_pos c_2).trans rfl)
      exact we_i hC hr hlocks hf.symm rfl hW hS dX6_moveOf_23
    · skip
      refine lv_iload_n hx hb dX6_moveOf_12 rfl (lv_at hl 2 rfl) ?_
      refine lv_if_lt (tgt := 21) hx hb dX6_moveOf_13 (by decide) (fun c_3 => ?_) (fun c_3 => ?_)
      · skip
        refine lv_bipush (v := (-2)) hx hb dX6_moveOf_21 (by decide) ?_
        have hf : fX6_moveOf Z a1 a2 = (-2) := (if_neg c_1).trans ((if_neg c_2).trans ((if_pos c_3).trans rfl))
        exact we_i hC hr hlocks hf.symm rfl hW hS dX6_moveOf_23
      · skip
        refine lv_iload_n hx hb dX6_moveOf_16 rfl (lv_at hl 2 rfl) ?_
        refine lv_iconst (v := 1) hx hb dX6_moveOf_17 (by decide) ?_
        refine lv_icmp_le (tgt := 24) hx hb dX6_moveOf_18 (by decide) (fun c_4 => ?_) (fun c_4 => ?_)
        · skip
          refine lv_iload_n hx hb dX6_moveOf_24 rfl (lv_at hl 2 rfl) ?_
          refine lv_if_ne (tgt := 42) hx hb dX6_moveOf_25 (by decide) (fun c_5 => ?_) (fun c_5 => ?_)
          · skip
            refine lv_aload_n hx hb dX6_moveOf_42 rfl (lv_at hl 0 rfl) ?_
            refine wr_get hC hinRX6 hW (vS (by decide)) ((wE_c (Z' := wset Z 11 (Z 11)) (by first | (simp [wset]; done) | (simp only [wset]; split <;> first | (exfalso; omega) | simp))).trans ce_s0) rfl 0 (by decide) hk0 rfl dX6_moveOf_43 ?_
            refine wr_get hC hinRX0 hW (vB (by decide) (by decide)) ((wE_c (Z' := wset Z 0 (Z 0)) (by first | (simp [wset]; done) | (simp only [wset]; split <;> first | (exfalso; omega) | simp))).trans (ce_b0 (by decide))) rfl 0 (by decide) hk1 rfl dX6_moveOf_46 ?_
            refine lv_iload_n hx hb dX6_moveOf_49 rfl (lv_at hl 1 rfl) ?_
            have hW := wW_eq (Z' := (wset Z 0 (Z 0))) hW (by
              funext i9
              by_cases e0 : i9 = 0
              all_goals first | (simp [wset, e0]; done) | (exfalso; omega) | (subst_vars; simp [wset]; done) | (subst_vars; simp_all [wset]; done))
            refine wc_i hC hml (kX3_peakOf l G Z 0 (by decide) (Z 0) a1) (cwV 1 hts gX6_moveOf_X3_peakOf rfl rfl rfl (by decide +kernel) ⟨Nat.le_of_ble_eq_true rfl, Nat.le_of_ble_eq_true rfl⟩) hW hS (vB (by decide) (by decide)) (ce_b1 (by decide)) rfl rfl rfl rfl hl.1 (Nat.le_of_ble_eq_true rfl) dX6_moveOf_50 (fun H locs hW hS => ?_)
            refine lv_topi (fun x_6 ex_6 => ?_)
            have hW := wW_eq (Z' := Z) hW (by
              funext i9
              by_cases e0 : i9 = 0
              all_goals first | (simp [wset, e0]; done) | (exfalso; omega) | (subst_vars; simp [wset]; done) | (subst_vars; simp_all [wset]; done))
            have hf : fX6_moveOf Z a1 a2 = x_6 := by
              subst ex_6
              exact (if_neg c_1).trans ((if_neg c_2).trans ((if_neg c_3).trans ((if_pos c_4).trans ((if_neg c_5).trans rfl))))
            exact we_i hC hr hlocks hf.symm rfl hW hS dX6_moveOf_53
          · skip
            refine lv_aload_n hx hb dX6_moveOf_28 rfl (lv_at hl 0 rfl) ?_
            refine wr_get hC hinRX6 hW (vS (by decide)) ((wE_c (Z' := wset Z 11 (Z 11)) (by first | (simp [wset]; done) | (simp only [wset]; split <;> first | (exfalso; omega) | simp))).trans ce_s0) rfl 0 (by decide) hk0 rfl dX6_moveOf_29 ?_
            refine wr_get hC hinRX0 hW (vB (by decide) (by decide)) ((wE_c (Z' := wset Z 0 (Z 0)) (by first | (simp [wset]; done) | (simp only [wset]; split <;> first | (exfalso; omega) | simp))).trans (ce_b0 (by decide))) rfl 0 (by decide) hk1 rfl dX6_moveOf_32 ?_
            refine lv_iload_n hx hb dX6_moveOf_35 rfl (lv_at hl 1 rfl) ?_
            refine lv_re (nI_self (lt1_lt0 c_1)) ?_
            have hW := wW_eq (Z' := (wset Z 0 (Z 0))) hW (by
              funext i9
              by_cases e0 : i9 = 0
              all_goals first | (simp [wset, e0]; done) | (exfalso; omega) | (subst_vars; simp [wset]; done) | (subst_vars; simp_all [wset]; done))
            refine wc_i hC hml (kX3_ticksOf l G Z 0 (by decide) (Z 0) a1.toNatClampNeg (toNat_lt _)) (cwV 1 hts gX6_moveOf_X3_ticksOf rfl rfl rfl (by decide +kernel) ⟨Nat.le_of_ble_eq_true rfl, Nat.le_of_ble_eq_true rfl⟩) hW hS (vB (by decide) (by decide)) (ce_b1 (by decide)) rfl rfl rfl rfl hl.1 (Nat.le_of_ble_eq_true rfl) dX6_moveOf_36 (fun H locs hW hS => ?_)
            refine lv_topi (fun x_7 ex_7 => ?_)
            refine lv_goto (tgt := 53) hx hb dX6_moveOf_39 (by decide) ?_
            have hW := wW_eq (Z' := Z) hW (by
              funext i9
              by_cases e0 : i9 = 0
              all_goals first | (simp [wset, e0]; done) | (exfalso; omega) | (subst_vars; simp [wset]; done) | (subst_vars; simp_all [wset]; done))
            have hf : fX6_moveOf Z a1 a2 = x_7 := by
              subst ex_7
              exact (if_neg c_1).trans ((if_neg c_2).trans ((if_neg c_3).trans ((if_pos c_4).trans ((if_pos c_5).trans rfl))))
            exact we_i hC hr hlocks hf.symm rfl hW hS dX6_moveOf_53
        · skip
          refine lv_bipush (v := (-2)) hx hb dX6_moveOf_21 (by decide) ?_
          have hf : fX6_moveOf Z a1 a2 = (-2) := (if_neg c_1).trans ((if_neg c_2).trans ((if_neg c_3).trans ((if_neg c_4).trans rfl)))
          exact we_i hC hr hlocks hf.symm rfl hW hS dX6_moveOf_23
def fX6_bears (Z : wZ) (a1 : Int32) : Int32 :=
  if hX0_find (Z 0) a1 then (let x_3 := fX3_grips (Z 0) ((Z 0) (3 + a1.toNatClampNeg) 6) 9
    if x_3 = 0 then (let x_6 := fX3_grips (Z 0) ((Z 0) (3 + a1.toNatClampNeg) 6) 8
      if x_6 = 0 then (let x_9 := fX3_grips (Z 0) ((Z 0) (3 + a1.toNatClampNeg) 6) 7
        if x_9 = 0 then (let x_12 := fX3_grips (Z 0) ((Z 0) (3 + a1.toNatClampNeg) 6) 6
          if x_12 = 0 then (let x_15 := fX3_grips (Z 0) ((Z 0) (3 + a1.toNatClampNeg) 6) 5
            if x_15 = 0 then (let x_18 := fX3_grips (Z 0) ((Z 0) (3 + a1.toNatClampNeg) 6) 4
              if x_18 = 0 then (let x_21 := fX3_grips (Z 0) ((Z 0) (3 + a1.toNatClampNeg) 6) 3
                if x_21 = 0 then (let x_24 := fX3_grips (Z 0) ((Z 0) (3 + a1.toNatClampNeg) 6) 2
                  if x_24 = 0 then (let x_27 := fX3_grips (Z 0) ((Z 0) (3 + a1.toNatClampNeg) 6) 1
                    if x_27 = 0 then (let x_30 := fX3_grips (Z 0) ((Z 0) (3 + a1.toNatClampNeg) 6) 0
                      if x_30 = 0 then (-6)
                      else 0)
                    else 1)
                  else 2)
                else 3)
              else 4)
            else 5)
          else 6)
        else 7)
      else 8)
    else 9)
  else (-1)
abbrev rX6_bears : Room := { frames := 2, cells := 0, slots := 0, locals := 44 }
set_option maxHeartbeats 4000000 in
set_option maxRecDepth 100000 in
theorem kX6_bears (l : Launch) (G : wG) (Z : wZ)  (a1 : Int32)  : mI l yX6_bears wsX6_bears rX6_bears G [.ref (G.2.2.1 11 0), .int a1] Z (fX6_bears Z a1) Z := by
  refine Met.ofW (cc := cX6_bears) (maxL := 4) (ret := (some .int)) (by decide) rfl ?_
  intro p e s m args below meth c s₁ B0 hml hv
  obtain ⟨rfl, hW, hK, hL⟩ := hv
  have hlocks := B0.notSynchronized
  have hr := B0.returns
  have hC : wX p s m c cX6_bears _ wsX6_bears RX6 G := ⟨B0.exec, B0.bytes, findClass_of_methodNamed B0.named, atoms_spec (ws := wsX6_bears) B0.pre, hK, hL⟩
  have hx := hC.1
  have hb := hC.2.1
  have hts := hC.2.2.2.1
  have hinRX0 : ∀ w ∈ wsX00, w ∈ wsX6_bears := by decide +kernel
  have hinRX5 : ∀ w ∈ wsX50, w ∈ wsX6_bears := by decide +kernel
  have hinRX6 : ∀ w ∈ wsX60, w ∈ wsX6_bears := by decide +kernel
  have hk0 := hts (.fieldLink RX6 10 "RampShafts" "bench" "LRampShafts$Bench;") (by decide +kernel)
  have hk1 := hts (.fieldLink RX6 50 "RampShafts$Bench" "ramp" "LRampShafts$Ramp;") (by decide +kernel)
  have hk2 := hts (.fieldLink RX6 113 "RampShafts$Shaft" "level" "I") (by decide +kernel)
  have hS : va_S (wA G) s.heap s.heap [] := va_S.rf
  have hl := lv_entry ([.ref (G.2.2.1 11 0), .int a1]) (n := 4) (Nat.le_of_ble_eq_true rfl)
  rw [lg_entry_eq]
  generalize (lg_sl ([.ref (G.2.2.1 11 0), .int a1]) ++ List.replicate (4 - (lg_sl ([.ref (G.2.2.1 11 0), .int a1])).length) Slot.unset).toArray = ls at hl ⊢
  have hl : lv_has ls 4 [(0, .ref (G.2.2.1 11 0)), (1, .int a1)] := hl
  refine lv_aload_n hx hb dX6_bears_0 rfl (lv_at hl 0 rfl) ?_
  refine wr_get hC hinRX6 hW (vS (by decide)) ((wE_c (Z' := wset Z 11 (Z 11)) (by first | (simp [wset]; done) | (simp only [wset]; split <;> first | (exfalso; omega) | simp))).trans ce_s0) rfl 0 (by decide) hk0 rfl dX6_bears_1 ?_
  refine lv_iload_n hx hb dX6_bears_4 rfl (lv_at hl 1 rfl) ?_
  have hW := wW_eq (Z' := (wset Z 0 (Z 0))) hW (by
    funext i9
    by_cases e0 : i9 = 0
    all_goals first | (simp [wset, e0]; done) | (exfalso; omega) | (subst_vars; simp [wset]; done) | (subst_vars; simp_all [wset]; done))
  refine wc_q hC hml (kX0_find l G Z 0 (by decide) (Z 0) a1) (cwV 1 hts gX6_bears_X0_find rfl rfl rfl (by decide +kernel) ⟨Nat.le_of_ble_eq_true rfl, Nat.le_of_ble_eq_true rfl⟩) hW hS (vB (by decide) (by decide)) (ce_b0 (by decide)) rfl rfl rfl rfl hl.1 (Nat.le_of_ble_eq_true rfl) dX6_bears_5 (fun H locs hW hS => ?_)
  by_cases c_1 : hX0_find (Z 0) a1
  · refine lv_rev (v' := .ref (G.2.2.1 0 (3 + a1.toNatClampNeg))) (congrArg va_rf (if_pos c_1)) ?_
    refine lv_astore_n (lv' := [(2, .ref (G.2.2.1 0 (3 + a1.toNatClampNeg))), (0, .ref (G.2.2.1 11 0)), (1, .int a1)]) hx hb dX6_bears_8 rfl hl (by decide) rfl (fun ls hl => ?_)
    refine lv_aload_n hx hb dX6_bears_9 rfl (lv_at hl 0 rfl) ?_
    refine lv_ifnonnull (tgt := 15) hx hb dX6_bears_10 (by decide) ?_
    refine lv_bipush (v := 9) hx hb dX6_bears_15 (by decide) ?_
    refine lv_istore_n (lv' := [(3, .int 9), (2, .ref (G.2.2.1 0 (3 + a1.toNatClampNeg))), (0, .ref (G.2.2.1 11 0)), (1, .int a1)]) hx hb dX6_bears_17 rfl hl (by decide) rfl (fun ls hl => ?_)
    refine lv_iload_n hx hb dX6_bears_18 rfl (lv_at hl 0 rfl) ?_
    refine lv_if_lt (tgt := 48) hx hb dX6_bears_19 (by decide) (fun c_2 => ?_) (fun c_2 => ?_)
    · exact absurd c_2 (by decide)
    · skip
      refine lv_aload_n hx hb dX6_bears_22 rfl (lv_at hl 2 rfl) ?_
      refine wr_get hC hinRX6 hW (vS (by decide)) ((wE_c (Z' := wset Z 11 (Z 11)) (by first | (simp [wset]; done) | (simp only [wset]; split <;> first | (exfalso; omega) | simp))).trans ce_s0) rfl 0 (by decide) hk0 rfl dX6_bears_23 ?_
      refine wr_get hC hinRX0 hW (vB (by decide) (by decide)) (ce_b0 (by decide)) rfl 0 (by decide) hk1 rfl dX6_bears_26 ?_
      refine lv_aload_n hx hb dX6_bears_29 rfl (lv_at hl 1 rfl) ?_
      refine wr_get hC hinRX5 hW (vBs (by decide) (find_lt c_1)) (ce_bs (by decide) (find_lt c_1)) rfl 6 (by decide) hk2 rfl dX6_bears_30 ?_
      refine lv_iload_n hx hb dX6_bears_33 rfl (lv_at hl 0 rfl) ?_
      refine wc_i hC hml (kX3_grips l G Z 0 (by decide) (Z 0) ((Z 0) (3 + a1.toNatClampNeg) 6) 9) (cwV 2 hts gX6_bears_X3_grips rfl rfl rfl (by decide +kernel) ⟨Nat.le_of_ble_eq_true rfl, Nat.le_of_ble_eq_true rfl⟩) hW hS (vB (by decide) (by decide)) (ce_b1 (by decide)) rfl rfl rfl rfl hl.1 (Nat.le_of_ble_eq_true rfl) dX6_bears_34 (fun H locs hW hS => ?_)
      refine lv_topi (fun x_3 ex_3 => ?_)
      refine lv_if_eq (tgt := 42) hx hb dX6_bears_37 (by decide) (fun c_4 => ?_) (fun c_4 => ?_)
      · skip
        refine lv_iinc (v := 8) (lv' := [(3, .int 8), (2, .ref (G.2.2.1 0 (3 + a1.toNatClampNeg))), (0, .ref (G.2.2.1 11 0)), (1, .int a1)]) hx hb dX6_bears_42 hl (k := 0) rfl (by decide) (by decide) rfl (fun ls hl => ?_)
        refine lv_goto (tgt := 18) hx hb dX6_bears_45 (by decide) ?_
        refine lv_iload_n hx hb dX6_bears_18 rfl (lv_at hl 0 rfl) ?_
        refine lv_if_lt (tgt := 48) hx hb dX6_bears_19 (by decide) (fun c_5 => ?_) (fun c_5 => ?_)
        · exact absurd c_5 (by decide)
        · skip
          refine lv_aload_n hx hb dX6_bears_22 rfl (lv_at hl 2 rfl) ?_
          refine wr_get hC hinRX6 hW (vS (by decide)) ((wE_c (Z' := wset Z 11 (Z 11)) (by first | (simp [wset]; done) | (simp only [wset]; split <;> first | (exfalso; omega) | simp))).trans ce_s0) rfl 0 (by decide) hk0 rfl dX6_bears_23 ?_
          refine wr_get hC hinRX0 hW (vB (by decide) (by decide)) (ce_b0 (by decide)) rfl 0 (by decide) hk1 rfl dX6_bears_26 ?_
          refine lv_aload_n hx hb dX6_bears_29 rfl (lv_at hl 1 rfl) ?_
          refine wr_get hC hinRX5 hW (vBs (by decide) (find_lt c_1)) (ce_bs (by decide) (find_lt c_1)) rfl 6 (by decide) hk2 rfl dX6_bears_30 ?_
          refine lv_iload_n hx hb dX6_bears_33 rfl (lv_at hl 0 rfl) ?_
          refine wc_i hC hml (kX3_grips l G Z 0 (by decide) (Z 0) ((Z 0) (3 + a1.toNatClampNeg) 6) 8) (cwV 2 hts gX6_bears_X3_grips rfl rfl rfl (by decide +kernel) ⟨Nat.le_of_ble_eq_true rfl, Nat.le_of_ble_eq_true rfl⟩) hW hS (vB (by decide) (by decide)) (ce_b1 (by decide)) rfl rfl rfl rfl hl.1 (Nat.le_of_ble_eq_true rfl) dX6_bears_34 (fun H locs hW hS => ?_)
          refine lv_topi (fun x_6 ex_6 => ?_)
          refine lv_if_eq (tgt := 42) hx hb dX6_bears_37 (by decide) (fun c_7 => ?_) (fun c_7 => ?_)
          · skip
            refine lv_iinc (v := 7) (lv' := [(3, .int 7), (2, .ref (G.2.2.1 0 (3 + a1.toNatClampNeg))), (0, .ref (G.2.2.1 11 0)), (1, .int a1)]) hx hb dX6_bears_42 hl (k := 0) rfl (by decide) (by decide) rfl (fun ls hl => ?_)
            refine lv_goto (tgt := 18) hx hb dX6_bears_45 (by decide) ?_
            refine lv_iload_n hx hb dX6_bears_18 rfl (lv_at hl 0 rfl) ?_
            refine lv_if_lt (tgt := 48) hx hb dX6_bears_19 (by decide) (fun c_8 => ?_) (fun c_8 => ?_)
            · exact absurd c_8 (by decide)
            · skip
              refine lv_aload_n hx hb dX6_bears_22 rfl (lv_at hl 2 rfl) ?_
              refine wr_get hC hinRX6 hW (vS (by decide)) ((wE_c (Z' := wset Z 11 (Z 11)) (by first | (simp [wset]; done) | (simp only [wset]; split <;> first | (exfalso; omega) | simp))).trans ce_s0) rfl 0 (by decide) hk0 rfl dX6_bears_23 ?_
              refine wr_get hC hinRX0 hW (vB (by decide) (by decide)) (ce_b0 (by decide)) rfl 0 (by decide) hk1 rfl dX6_bears_26 ?_
              refine lv_aload_n hx hb dX6_bears_29 rfl (lv_at hl 1 rfl) ?_
              refine wr_get hC hinRX5 hW (vBs (by decide) (find_lt c_1)) (ce_bs (by decide) (find_lt c_1)) rfl 6 (by decide) hk2 rfl dX6_bears_30 ?_
              refine lv_iload_n hx hb dX6_bears_33 rfl (lv_at hl 0 rfl) ?_
              refine wc_i hC hml (kX3_grips l G Z 0 (by decide) (Z 0) ((Z 0) (3 + a1.toNatClampNeg) 6) 7) (cwV 2 hts gX6_bears_X3_grips rfl rfl rfl (by decide +kernel) ⟨Nat.le_of_ble_eq_true rfl, Nat.le_of_ble_eq_true rfl⟩) hW hS (vB (by decide) (by decide)) (ce_b1 (by decide)) rfl rfl rfl rfl hl.1 (Nat.le_of_ble_eq_true rfl) dX6_bears_34 (fun H locs hW hS => ?_)
              refine lv_topi (fun x_9 ex_9 => ?_)
              refine lv_if_eq (tgt := 42) hx hb dX6_bears_37 (by decide) (fun c_10 => ?_) (fun c_10 => ?_)
              · skip
                refine lv_iinc (v := 6) (lv' := [(3, .int 6), (2, .ref (G.2.2.1 0 (3 + a1.toNatClampNeg))), (0, .ref (G.2.2.1 11 0)), (1, .int a1)]) hx hb dX6_bears_42 hl (k := 0) rfl (by decide) (by decide) rfl (fun ls hl => ?_)
                refine lv_goto (tgt := 18) hx hb dX6_bears_45 (by decide) ?_
                refine lv_iload_n hx hb dX6_bears_18 rfl (lv_at hl 0 rfl) ?_
                refine lv_if_lt (tgt := 48) hx hb dX6_bears_19 (by decide) (fun c_11 => ?_) (fun c_11 => ?_)
                · exact absurd c_11 (by decide)
                · skip
                  refine lv_aload_n hx hb dX6_bears_22 rfl (lv_at hl 2 rfl) ?_
                  refine wr_get hC hinRX6 hW (vS (by decide)) ((wE_c (Z' := wset Z 11 (Z 11)) (by first | (simp [wset]; done) | (simp only [wset]; split <;> first | (exfalso; omega) | simp))).trans ce_s0) rfl 0 (by decide) hk0 rfl dX6_bears_23 ?_
                  refine wr_get hC hinRX0 hW (vB (by decide) (by decide)) (ce_b0 (by decide)) rfl 0 (by decide) hk1 rfl dX6_bears_26 ?_
                  refine lv_aload_n hx hb dX6_bears_29 rfl (lv_at hl 1 rfl) ?_
                  refine wr_get hC hinRX5 hW (vBs (by decide) (find_lt c_1)) (ce_bs (by decide) (find_lt c_1)) rfl 6 (by decide) hk2 rfl dX6_bears_30 ?_
                  refine lv_iload_n hx hb dX6_bears_33 rfl (lv_at hl 0 rfl) ?_
                  refine wc_i hC hml (kX3_grips l G Z 0 (by decide) (Z 0) ((Z 0) (3 + a1.toNatClampNeg) 6) 6) (cwV 2 hts gX6_bears_X3_grips rfl rfl rfl (by decide +kernel) ⟨Nat.le_of_ble_eq_true rfl, Nat.le_of_ble_eq_true rfl⟩) hW hS (vB (by decide) (by decide)) (ce_b1 (by decide)) rfl rfl rfl rfl hl.1 (Nat.le_of_ble_eq_true rfl) dX6_bears_34 (fun H locs hW hS => ?_)
                  refine lv_topi (fun x_12 ex_12 => ?_)
                  refine lv_if_eq (tgt := 42) hx hb dX6_bears_37 (by decide) (fun c_13 => ?_) (fun c_13 => ?_)
                  · skip
                    refine lv_iinc (v := 5) (lv' := [(3, .int 5), (2, .ref (G.2.2.1 0 (3 + a1.toNatClampNeg))), (0, .ref (G.2.2.1 11 0)), (1, .int a1)]) hx hb dX6_bears_42 hl (k := 0) rfl (by decide) (by decide) rfl (fun ls hl => ?_)
                    refine lv_goto (tgt := 18) hx hb dX6_bears_45 (by decide) ?_
                    refine lv_iload_n hx hb dX6_bears_18 rfl (lv_at hl 0 rfl) ?_
                    refine lv_if_lt (tgt := 48) hx hb dX6_bears_19 (by decide) (fun c_14 => ?_) (fun c_14 => ?_)
                    · exact absurd c_14 (by decide)
                    · skip
                      refine lv_aload_n hx hb dX6_bears_22 rfl (lv_at hl 2 rfl) ?_
                      refine wr_get hC hinRX6 hW (vS (by decide)) ((wE_c (Z' := wset Z 11 (Z 11)) (by first | (simp [wset]; done) | (simp only [wset]; split <;> first | (exfalso; omega) | simp))).trans ce_s0) rfl 0 (by decide) hk0 rfl dX6_bears_23 ?_
                      refine wr_get hC hinRX0 hW (vB (by decide) (by decide)) (ce_b0 (by decide)) rfl 0 (by decide) hk1 rfl dX6_bears_26 ?_
                      refine lv_aload_n hx hb dX6_bears_29 rfl (lv_at hl 1 rfl) ?_
                      refine wr_get hC hinRX5 hW (vBs (by decide) (find_lt c_1)) (ce_bs (by decide) (find_lt c_1)) rfl 6 (by decide) hk2 rfl dX6_bears_30 ?_
                      refine lv_iload_n hx hb dX6_bears_33 rfl (lv_at hl 0 rfl) ?_
                      refine wc_i hC hml (kX3_grips l G Z 0 (by decide) (Z 0) ((Z 0) (3 + a1.toNatClampNeg) 6) 5) (cwV 2 hts gX6_bears_X3_grips rfl rfl rfl (by decide +kernel) ⟨Nat.le_of_ble_eq_true rfl, Nat.le_of_ble_eq_true rfl⟩) hW hS (vB (by decide) (by decide)) (ce_b1 (by decide)) rfl rfl rfl rfl hl.1 (Nat.le_of_ble_eq_true rfl) dX6_bears_34 (fun H locs hW hS => ?_)
                      refine lv_topi (fun x_15 ex_15 => ?_)
                      refine lv_if_eq (tgt := 42) hx hb dX6_bears_37 (by decide) (fun c_16 => ?_) (fun c_16 => ?_)
                      · skip
                        refine lv_iinc (v := 4) (lv' := [(3, .int 4), (2, .ref (G.2.2.1 0 (3 + a1.toNatClampNeg))), (0, .ref (G.2.2.1 11 0)), (1, .int a1)]) hx hb dX6_bears_42 hl (k := 0) rfl (by decide) (by decide) rfl (fun ls hl => ?_)
                        refine lv_goto (tgt := 18) hx hb dX6_bears_45 (by decide) ?_
                        refine lv_iload_n hx hb dX6_bears_18 rfl (lv_at hl 0 rfl) ?_
                        refine lv_if_lt (tgt := 48) hx hb dX6_bears_19 (by decide) (fun c_17 => ?_) (fun c_17 => ?_)
                        · exact absurd c_17 (by decide)
                        · skip
                          refine lv_aload_n hx hb dX6_bears_22 rfl (lv_at hl 2 rfl) ?_
                          refine wr_get hC hinRX6 hW (vS (by decide)) ((wE_c (Z' := wset Z 11 (Z 11)) (by first | (simp [wset]; done) | (simp only [wset]; split <;> first | (exfalso; omega) | simp))).trans ce_s0) rfl 0 (by decide) hk0 rfl dX6_bears_23 ?_
                          refine wr_get hC hinRX0 hW (vB (by decide) (by decide)) (ce_b0 (by decide)) rfl 0 (by decide) hk1 rfl dX6_bears_26 ?_
                          refine lv_aload_n hx hb dX6_bears_29 rfl (lv_at hl 1 rfl) ?_
                          refine wr_get hC hinRX5 hW (vBs (by decide) (find_lt c_1)) (ce_bs (by decide) (find_lt c_1)) rfl 6 (by decide) hk2 rfl dX6_bears_30 ?_
                          refine lv_iload_n hx hb dX6_bears_33 rfl (lv_at hl 0 rfl) ?_
                          refine wc_i hC hml (kX3_grips l G Z 0 (by decide) (Z 0) ((Z 0) (3 + a1.toNatClampNeg) 6) 4) (cwV 2 hts gX6_bears_X3_grips rfl rfl rfl (by decide +kernel) ⟨Nat.le_of_ble_eq_true rfl, Nat.le_of_ble_eq_true rfl⟩) hW hS (vB (by decide) (by decide)) (ce_b1 (by decide)) rfl rfl rfl rfl hl.1 (Nat.le_of_ble_eq_true rfl) dX6_bears_34 (fun H locs hW hS => ?_)
                          refine lv_topi (fun x_18 ex_18 => ?_)
                          refine lv_if_eq (tgt := 42) hx hb dX6_bears_37 (by decide) (fun c_19 => ?_) (fun c_19 => ?_)
                          · skip
                            refine lv_iinc (v := 3) (lv' := [(3, .int 3), (2, .ref (G.2.2.1 0 (3 + a1.toNatClampNeg))), (0, .ref (G.2.2.1 11 0)), (1, .int a1)]) hx hb dX6_bears_42 hl (k := 0) rfl (by decide) (by decide) rfl (fun ls hl => ?_)
                            refine lv_goto (tgt := 18) hx hb dX6_bears_45 (by decide) ?_
                            refine lv_iload_n hx hb dX6_bears_18 rfl (lv_at hl 0 rfl) ?_
                            refine lv_if_lt (tgt := 48) hx hb dX6_bears_19 (by decide) (fun c_20 => ?_) (fun c_20 => ?_)
                            · exact absurd c_20 (by decide)
                            · skip
                              refine lv_aload_n hx hb dX6_bears_22 rfl (lv_at hl 2 rfl) ?_
                              refine wr_get hC hinRX6 hW (vS (by decide)) ((wE_c (Z' := wset Z 11 (Z 11)) (by first | (simp [wset]; done) | (simp only [wset]; split <;> first | (exfalso; omega) | simp))).trans ce_s0) rfl 0 (by decide) hk0 rfl dX6_bears_23 ?_
                              refine wr_get hC hinRX0 hW (vB (by decide) (by decide)) (ce_b0 (by decide)) rfl 0 (by decide) hk1 rfl dX6_bears_26 ?_
                              refine lv_aload_n hx hb dX6_bears_29 rfl (lv_at hl 1 rfl) ?_
                              refine wr_get hC hinRX5 hW (vBs (by decide) (find_lt c_1)) (ce_bs (by decide) (find_lt c_1)) rfl 6 (by decide) hk2 rfl dX6_bears_30 ?_
                              refine lv_iload_n hx hb dX6_bears_33 rfl (lv_at hl 0 rfl) ?_
                              refine wc_i hC hml (kX3_grips l G Z 0 (by decide) (Z 0) ((Z 0) (3 + a1.toNatClampNeg) 6) 3) (cwV 2 hts gX6_bears_X3_grips rfl rfl rfl (by decide +kernel) ⟨Nat.le_of_ble_eq_true rfl, Nat.le_of_ble_eq_true rfl⟩) hW hS (vB (by decide) (by decide)) (ce_b1 (by decide)) rfl rfl rfl rfl hl.1 (Nat.le_of_ble_eq_true rfl) dX6_bears_34 (fun H locs hW hS => ?_)
                              refine lv_topi (fun x_21 ex_21 => ?_)
                              refine lv_if_eq (tgt := 42) hx hb dX6_bears_37 (by decide) (fun c_22 => ?_) (fun c_22 => ?_)
                              · skip
                                refine lv_iinc (v := 2) (lv' := [(3, .int 2), (2, .ref (G.2.2.1 0 (3 + a1.toNatClampNeg))), (0, .ref (G.2.2.1 11 0)), (1, .int a1)]) hx hb dX6_bears_42 hl (k := 0) rfl (by decide) (by decide) rfl (fun ls hl => ?_)
                                refine lv_goto (tgt := 18) hx hb dX6_bears_45 (by decide) ?_
                                refine lv_iload_n hx hb dX6_bears_18 rfl (lv_at hl 0 rfl) ?_
                                refine lv_if_lt (tgt := 48) hx hb dX6_bears_19 (by decide) (fun c_23 => ?_) (fun c_23 => ?_)
                                · exact absurd c_23 (by decide)
                                · skip
                                  refine lv_aload_n hx hb dX6_bears_22 rfl (lv_at hl 2 rfl) ?_
                                  refine wr_get hC hinRX6 hW (vS (by decide)) ((wE_c (Z' := wset Z 11 (Z 11)) (by first | (simp [wset]; done) | (simp only [wset]; split <;> first | (exfalso; omega) | simp))).trans ce_s0) rfl 0 (by decide) hk0 rfl dX6_bears_23 ?_
                                  refine wr_get hC hinRX0 hW (vB (by decide) (by decide)) (ce_b0 (by decide)) rfl 0 (by decide) hk1 rfl dX6_bears_26 ?_
                                  refine lv_aload_n hx hb dX6_bears_29 rfl (lv_at hl 1 rfl) ?_
                                  refine wr_get hC hinRX5 hW (vBs (by decide) (find_lt c_1)) (ce_bs (by decide) (find_lt c_1)) rfl 6 (by decide) hk2 rfl dX6_bears_30 ?_
                                  refine lv_iload_n hx hb dX6_bears_33 rfl (lv_at hl 0 rfl) ?_
                                  refine wc_i hC hml (kX3_grips l G Z 0 (by decide) (Z 0) ((Z 0) (3 + a1.toNatClampNeg) 6) 2) (cwV 2 hts gX6_bears_X3_grips rfl rfl rfl (by decide +kernel) ⟨Nat.le_of_ble_eq_true rfl, Nat.le_of_ble_eq_true rfl⟩) hW hS (vB (by decide) (by decide)) (ce_b1 (by decide)) rfl rfl rfl rfl hl.1 (Nat.le_of_ble_eq_true rfl) dX6_bears_34 (fun H locs hW hS => ?_)
                                  refine lv_topi (fun x_24 ex_24 => ?_)
                                  refine lv_if_eq (tgt := 42) hx hb dX6_bears_37 (by decide) (fun c_25 => ?_) (fun c_25 => ?_)
                                  · skip
                                    refine lv_iinc (v := 1) (lv' := [(3, .int 1), (2, .ref (G.2.2.1 0 (3 + a1.toNatClampNeg))), (0, .ref (G.2.2.1 11 0)), (1, .int a1)]) hx hb dX6_bears_42 hl (k := 0) rfl (by decide) (by decide) rfl (fun ls hl => ?_)
                                    refine lv_goto (tgt := 18) hx hb dX6_bears_45 (by decide) ?_
                                    refine lv_iload_n hx hb dX6_bears_18 rfl (lv_at hl 0 rfl) ?_
                                    refine lv_if_lt (tgt := 48) hx hb dX6_bears_19 (by decide) (fun c_26 => ?_) (fun c_26 => ?_)
                                    · exact absurd c_26 (by decide)
                                    · skip
                                      refine lv_aload_n hx hb dX6_bears_22 rfl (lv_at hl 2 rfl) ?_
                                      refine wr_get hC hinRX6 hW (vS (by decide)) ((wE_c (Z' := wset Z 11 (Z 11)) (by first | (simp [wset]; done) | (simp only [wset]; split <;> first | (exfalso; omega) | simp))).trans ce_s0) rfl 0 (by decide) hk0 rfl dX6_bears_23 ?_
                                      refine wr_get hC hinRX0 hW (vB (by decide) (by decide)) (ce_b0 (by decide)) rfl 0 (by decide) hk1 rfl dX6_bears_26 ?_
                                      refine lv_aload_n hx hb dX6_bears_29 rfl (lv_at hl 1 rfl) ?_
                                      refine wr_get hC hinRX5 hW (vBs (by decide) (find_lt c_1)) (ce_bs (by decide) (find_lt c_1)) rfl 6 (by decide) hk2 rfl dX6_bears_30 ?_
                                      refine lv_iload_n hx hb dX6_bears_33 rfl (lv_at hl 0 rfl) ?_
                                      refine wc_i hC hml (kX3_grips l G Z 0 (by decide) (Z 0) ((Z 0) (3 + a1.toNatClampNeg) 6) 1) (cwV 2 hts gX6_bears_X3_grips rfl rfl rfl (by decide +kernel) ⟨Nat.le_of_ble_eq_true rfl, Nat.le_of_ble_eq_true rfl⟩) hW hS (vB (by decide) (by decide)) (ce_b1 (by decide)) rfl rfl rfl rfl hl.1 (Nat.le_of_ble_eq_true rfl) dX6_bears_34 (fun H locs hW hS => ?_)
                                      refine lv_topi (fun x_27 ex_27 => ?_)
                                      refine lv_if_eq (tgt := 42) hx hb dX6_bears_37 (by decide) (fun c_28 => ?_) (fun c_28 => ?_)
                                      · skip
                                        refine lv_iinc (v := 0) (lv' := [(3, .int 0), (2, .ref (G.2.2.1 0 (3 + a1.toNatClampNeg))), (0, .ref (G.2.2.1 11 0)), (1, .int a1)]) hx hb dX6_bears_42 hl (k := 0) rfl (by decide) (by decide) rfl (fun ls hl => ?_)
                                        refine lv_goto (tgt := 18) hx hb dX6_bears_45 (by decide) ?_
                                        refine lv_iload_n hx hb dX6_bears_18 rfl (lv_at hl 0 rfl) ?_
                                        refine lv_if_lt (tgt := 48) hx hb dX6_bears_19 (by decide) (fun c_29 => ?_) (fun c_29 => ?_)
                                        · exact absurd c_29 (by decide)
                                        · skip
                                          refine lv_aload_n hx hb dX6_bears_22 rfl (lv_at hl 2 rfl) ?_
                                          refine wr_get hC hinRX6 hW (vS (by decide)) ((wE_c (Z' := wset Z 11 (Z 11)) (by first | (simp [wset]; done) | (simp only [wset]; split <;> first | (exfalso; omega) | simp))).trans ce_s0) rfl 0 (by decide) hk0 rfl dX6_bears_23 ?_
                                          refine wr_get hC hinRX0 hW (vB (by decide) (by decide)) (ce_b0 (by decide)) rfl 0 (by decide) hk1 rfl dX6_bears_26 ?_
                                          refine lv_aload_n hx hb dX6_bears_29 rfl (lv_at hl 1 rfl) ?_
                                          refine wr_get hC hinRX5 hW (vBs (by decide) (find_lt c_1)) (ce_bs (by decide) (find_lt c_1)) rfl 6 (by decide) hk2 rfl dX6_bears_30 ?_
                                          refine lv_iload_n hx hb dX6_bears_33 rfl (lv_at hl 0 rfl) ?_
                                          refine wc_i hC hml (kX3_grips l G Z 0 (by decide) (Z 0) ((Z 0) (3 + a1.toNatClampNeg) 6) 0) (cwV 2 hts gX6_bears_X3_grips rfl rfl rfl (by decide +kernel) ⟨Nat.le_of_ble_eq_true rfl, Nat.le_of_ble_eq_true rfl⟩) hW hS (vB (by decide) (by decide)) (ce_b1 (by decide)) rfl rfl rfl rfl hl.1 (Nat.le_of_ble_eq_true rfl) dX6_bears_34 (fun H locs hW hS => ?_)
                                          refine lv_topi (fun x_30 ex_30 => ?_)
                                          refine lv_if_eq (tgt := 42) hx hb dX6_bears_37 (by decide) (fun c_31 => ?_) (fun c_31 => ?_)
                                          · skip
                                            refine lv_iinc (v := (-1)) (lv' := [(3, .int (-1)), (2, .ref (G.2.2.1 0 (3 + a1.toNatClampNeg))), (0, .ref (G.2.2.1 11 0)), (1, .int a1)]) hx hb dX6_bears_42 hl (k := 0) rfl (by decide) (by decide) rfl (fun ls hl => ?_)
                                            refine lv_goto (tgt := 18) hx hb dX6_bears_45 (by decide) ?_
                                            refine lv_iload_n hx hb dX6_bears_18 rfl (lv_at hl 0 rfl) ?_
                                            refine lv_if_lt (tgt := 48) hx hb dX6_bears_19 (by decide) (fun c_32 => ?_) (fun c_32 => ?_)
                                            · skip
                                              refine lv_bipush (v := (-6)) hx hb dX6_bears_48 (by decide) ?_
                                              have hW := wW_eq (Z' := Z) hW (by
                                                funext i9
                                                by_cases e0 : i9 = 0
                                                all_goals first | (simp [wset, e0]; done) | (exfalso; omega) | (subst_vars; simp [wset]; done) | (subst_vars; simp_all [wset]; done))
                                              have hf : fX6_bears Z a1 = (-6) := by
                                                subst ex_30
                                                subst ex_27
                                                subst ex_24
                                                subst ex_21
                                                subst ex_18
                                                subst ex_15
                                                subst ex_12
                                                subst ex_9
                                                subst ex_6
                                                subst ex_3
                                                exact (if_pos c_1).trans ((if_pos c_4).trans ((if_pos c_7).trans ((if_pos c_10).trans ((if_pos c_13).trans ((if_pos c_16).trans ((if_pos c_19).trans ((if_pos c_22).trans ((if_pos c_25).trans ((if_pos c_28).trans ((if_pos c_31).trans rfl))))))))))
                                              exact we_i hC hr hlocks hf.symm rfl hW hS dX6_bears_50
                                            · exact absurd c_32 (by decide)
                                          · skip
                                            refine lv_iload_n hx hb dX6_bears_40 rfl (lv_at hl 0 rfl) ?_
                                            have hW := wW_eq (Z' := Z) hW (by
                                              funext i9
                                              by_cases e0 : i9 = 0
                                              all_goals first | (simp [wset, e0]; done) | (exfalso; omega) | (subst_vars; simp [wset]; done) | (subst_vars; simp_all [wset]; done))
                                            have hf : fX6_bears Z a1 = 0 := by
                                              subst ex_30
                                              subst ex_27
                                              subst ex_24
                                              subst ex_21
                                              subst ex_18
                                              subst ex_15
                                              subst ex_12
                                              subst ex_9
                                              subst ex_6
                                              subst ex_3
                                              exact (if_pos c_1).trans ((if_pos c_4).trans ((if_pos c_7).trans ((if_pos c_10).trans ((if_pos c_13).trans ((if_pos c_16).trans ((if_pos c_19).trans ((if_pos c_22).trans ((if_pos c_25).trans ((if_pos c_28).trans ((if_neg c_31).trans rfl))))))))))
                                            exact we_i hC hr hlocks hf.symm rfl hW hS dX6_bears_41
                                      · skip
                                        refine lv_iload_n hx hb dX6_bears_40 rfl (lv_at hl 0 rfl) ?_
                                        have hW := wW_eq (Z' := Z) hW (by
                                          funext i9
                                          by_cases e0 : i9 = 0
                                          all_goals first | (simp [wset, e0]; done) | (exfalso; omega) | (subst_vars; simp [wset]; done) | (subst_vars; simp_all [wset]; done))
                                        have hf : fX6_bears Z a1 = 1 := by
                                          subst ex_27
                                          subst ex_24
                                          subst ex_21
                                          subst ex_18
                                          subst ex_15
                                          subst ex_12
                                          subst ex_9
                                          subst ex_6
                                          subst ex_3
                                          exact (if_pos c_1).trans ((if_pos c_4).trans ((if_pos c_7).trans ((if_pos c_10).trans ((if_pos c_13).trans ((if_pos c_16).trans ((if_pos c_19).trans ((if_pos c_22).trans ((if_pos c_25).trans ((if_neg c_28).trans rfl)))))))))
                                        exact we_i hC hr hlocks hf.symm rfl hW hS dX6_bears_41
                                  · skip
                                    refine lv_iload_n hx hb dX6_bears_40 rfl (lv_at hl 0 rfl) ?_
                                    have hW := wW_eq (Z' := Z) hW (by
                                      funext i9
                                      by_cases e0 : i9 = 0
                                      all_goals first | (simp [wset, e0]; done) | (exfalso; omega) | (subst_vars; simp [wset]; done) | (subst_vars; simp_all [wset]; done))
                                    have hf : fX6_bears Z a1 = 2 := by
                                      subst ex_24
                                      subst ex_21
                                      subst ex_18
                                      subst ex_15
                                      subst ex_12
                                      subst ex_9
                                      subst ex_6
                                      subst ex_3
                                      exact (if_pos c_1).trans ((if_pos c_4).trans ((if_pos c_7).trans ((if_pos c_10).trans ((if_pos c_13).trans ((if_pos c_16).trans ((if_pos c_19).trans ((if_pos c_22).trans ((if_neg c_25).trans rfl))))))))
                                    exact we_i hC hr hlocks hf.symm rfl hW hS dX6_bears_41
                              · skip
                                refine lv_iload_n hx hb dX6_bears_40 rfl (lv_at hl 0 rfl) ?_
                                have hW := wW_eq (Z' := Z) hW (by
                                  funext i9
                                  by_cases e0 : i9 = 0
                                  all_goals first | (simp [wset, e0]; done) | (exfalso; omega) | (subst_vars; simp [wset]; done) | (subst_vars; simp_all [wset]; done))
                                have hf : fX6_bears Z a1 = 3 := by
                                  subst ex_21
                                  subst ex_18
                                  subst ex_15
                                  subst ex_12
                                  subst ex_9
                                  subst ex_6
                                  subst ex_3
                                  exact (if_pos c_1).trans ((if_pos c_4).trans ((if_pos c_7).trans ((if_pos c_10).trans ((if_pos c_13).trans ((if_pos c_16).trans ((if_pos c_19).trans ((if_neg c_22).trans rfl)))))))
                                exact we_i hC hr hlocks hf.symm rfl hW hS dX6_bears_41
                          · skip
                            refine lv_iload_n hx hb dX6_bears_40 rfl (lv_at hl 0 rfl) ?_
                            have hW := wW_eq (Z' := Z) hW (by
                              funext i9
                              by_cases e0 : i9 = 0
                              all_goals first | (simp [wset, e0]; done) | (exfalso; omega) | (subst_vars; simp [wset]; done) | (subst_vars; simp_all [wset]; done))
                            have hf : fX6_bears Z a1 = 4 := by
                              subst ex_18
                              subst ex_15
                              subst ex_12
                              subst ex_9
                              subst ex_6
                              subst ex_3
                              exact (if_pos c_1).trans ((if_pos c_4).trans ((if_pos c_7).trans ((if_pos c_10).trans ((if_pos c_13).trans ((if_pos c_16).trans ((if_neg c_19).trans rfl))))))
                            exact we_i hC hr hlocks hf.symm rfl hW hS dX6_bears_41
                      · skip
                        refine lv_iload_n hx hb dX6_bears_40 rfl (lv_at hl 0 rfl) ?_
                        have hW := wW_eq (Z' := Z) hW (by
                          funext i9
                          by_cases e0 : i9 = 0
                          all_goals first | (simp [wset, e0]; done) | (exfalso; omega) | (subst_vars; simp [wset]; done) | (subst_vars; simp_all [wset]; done))
                        have hf : fX6_bears Z a1 = 5 := by
                          subst ex_15
                          subst ex_12
                          subst ex_9
                          subst ex_6
                          subst ex_3
                          exact (if_pos c_1).trans ((if_pos c_4).trans ((if_pos c_7).trans ((if_pos c_10).trans ((if_pos c_13).trans ((if_neg c_16).trans rfl)))))
                        exact we_i hC hr hlocks hf.symm rfl hW hS dX6_bears_41
                  · skip
                    refine lv_iload_n hx hb dX6_bears_40 rfl (lv_at hl 0 rfl) ?_
                    have hW := wW_eq (Z' := Z) hW (by
                      funext i9
                      by_cases e0 : i9 = 0
                      all_goals first | (simp [wset, e0]; done) | (exfalso; omega) | (subst_vars; simp [wset]; done) | (subst_vars; simp_all [wset]; done))
                    have hf : fX6_bears Z a1 = 6 := by
                      subst ex_12
                      subst ex_9
                      subst ex_6
                      subst ex_3
                      exact (if_pos c_1).trans ((if_pos c_4).trans ((if_pos c_7).trans ((if_pos c_10).trans ((if_neg c_13).trans rfl))))
                    exact we_i hC hr hlocks hf.symm rfl hW hS dX6_bears_41
              · skip
                refine lv_iload_n hx hb dX6_bears_40 rfl (lv_at hl 0 rfl) ?_
                have hW := wW_eq (Z' := Z) hW (by
                  funext i9
                  by_cases e0 : i9 = 0
                  all_goals first | (simp [wset, e0]; done) | (exfalso; omega) | (subst_vars; simp [wset]; done) | (subst_vars; simp_all [wset]; done))
                have hf : fX6_bears Z a1 = 7 := by
                  subst ex_9
                  subst ex_6
                  subst ex_3
                  exact (if_pos c_1).trans ((if_pos c_4).trans ((if_pos c_7).trans ((if_neg c_10).trans rfl)))
                exact we_i hC hr hlocks hf.symm rfl hW hS dX6_bears_41
          · skip
            refine lv_iload_n hx hb dX6_bears_40 rfl (lv_at hl 0 rfl) ?_
            have hW := wW_eq (Z' := Z) hW (by
              funext i9
              by_cases e0 : i9 = 0
              all_goals first | (simp [wset, e0]; done) | (exfalso; omega) | (subst_vars; simp [wset]; done) | (subst_vars; simp_all [wset]; done))
            have hf : fX6_bears Z a1 = 8 := by
              subst ex_6
              subst ex_3
              exact (if_pos c_1).trans ((if_pos c_4).trans ((if_neg c_7).trans rfl))
            exact we_i hC hr hlocks hf.symm rfl hW hS dX6_bears_41
      · skip
        refine lv_iload_n hx hb dX6_bears_40 rfl (lv_at hl 0 rfl) ?_
        have hW := wW_eq (Z' := Z) hW (by
          funext i9
          by_cases e0 : i9 = 0
          all_goals first | (simp [wset, e0]; done) | (exfalso; omega) | (subst_vars; simp [wset]; done) | (subst_vars; simp_all [wset]; done))
        have hf : fX6_bears Z a1 = 9 := by
          subst ex_3
          exact (if_pos c_1).trans ((if_neg c_4).trans rfl)
        exact we_i hC hr hlocks hf.symm rfl hW hS dX6_bears_41
  · refine lv_rev (v' := .null) (congrArg va_rf (if_neg c_1)) ?_
    refine lv_astore_nN (lv' := [(2, .null), (0, .ref (G.2.2.1 11 0)), (1, .int a1)]) hx hb dX6_bears_8 rfl hl (by decide) rfl (fun ls hl => ?_)
    refine lv_aload_nN hx hb dX6_bears_9 rfl (lv_at hl 0 rfl) ?_
    refine lv_ifnonnullN hx hb dX6_bears_10 ?_
    refine lv_iconst (v := (-1)) hx hb dX6_bears_13 (by decide) ?_
    have hW := wW_eq (Z' := Z) hW (by
      funext i9
      by_cases e0 : i9 = 0
      all_goals first | (simp [wset, e0]; done) | (exfalso; omega) | (subst_vars; simp [wset]; done) | (subst_vars; simp_all [wset]; done))
    have hf : fX6_bears Z a1 = (-1) := (if_neg c_1).trans rfl
    exact we_i hC hr hlocks hf.symm rfl hW hS dX6_bears_14
def fX6_wipe (Z : wZ) : wZ × Int32 :=
  let x_1 := (Z 11) 6 0
  ((wset Z 11 (bput (Z 11) 6 0 0)), x_1)
abbrev rX6_wipe : Room := { frames := 0, cells := 0, slots := 0, locals := 0 }
set_option maxHeartbeats 4000000 in
set_option maxRecDepth 100000 in
theorem kX6_wipe (l : Launch) (G : wG) (Z : wZ)    : mI l yX6_wipe wsX6_wipe rX6_wipe G [.ref (G.2.2.1 11 0)] Z (fX6_wipe Z).2 (fX6_wipe Z).1 := by
  refine Met.ofW (cc := cX6_wipe) (maxL := 2) (ret := (some .int)) (by decide) rfl ?_
  intro p e s m args below meth c s₁ B0 hml hv
  obtain ⟨rfl, hW, hK, hL⟩ := hv
  have hlocks := B0.notSynchronized
  have hr := B0.returns
  have hC : wX p s m c cX6_wipe _ wsX6_wipe RX6 G := ⟨B0.exec, B0.bytes, findClass_of_methodNamed B0.named, atoms_spec (ws := wsX6_wipe) B0.pre, hK, hL⟩
  have hx := hC.1
  have hb := hC.2.1
  have hts := hC.2.2.2.1
  have hinRX2 : ∀ w ∈ wsX20, w ∈ wsX6_wipe := by decide +kernel
  have hinRX6 : ∀ w ∈ wsX60, w ∈ wsX6_wipe := by decide +kernel
  have hk0 := hts (.fieldLink RX6 45 "RampShafts" "pad" "LRampShafts$Pad;") (by decide +kernel)
  have hk1 := hts (.fieldLink RX6 172 "RampShafts$Pad" "length" "I") (by decide +kernel)
  have hS : va_S (wA G) s.heap s.heap [] := va_S.rf
  have hl := lv_entry ([.ref (G.2.2.1 11 0)]) (n := 2) (Nat.le_of_ble_eq_true rfl)
  rw [lg_entry_eq]
  generalize (lg_sl ([.ref (G.2.2.1 11 0)]) ++ List.replicate (2 - (lg_sl ([.ref (G.2.2.1 11 0)])).length) Slot.unset).toArray = ls at hl ⊢
  have hl : lv_has ls 2 [(0, .ref (G.2.2.1 11 0))] := hl
  refine lv_aload_n hx hb dX6_wipe_0 rfl (lv_at hl 0 rfl) ?_
  refine wr_get hC hinRX6 hW (vS (by decide)) ((wE_c (Z' := wset Z 11 (Z 11)) (by first | (simp [wset]; done) | (simp only [wset]; split <;> first | (exfalso; omega) | simp))).trans ce_s0) rfl 6 (by decide) hk0 rfl dX6_wipe_1 ?_
  refine wr_get hC hinRX2 hW (vS (by decide)) ((wE_c (Z' := wset Z 11 (Z 11)) (by first | (simp [wset]; done) | (simp only [wset]; split <;> first | (exfalso; omega) | simp))).trans ce_s6) rfl 1 (by decide) hk1 rfl dX6_wipe_4 ?_
  refine lv_topi (fun x_1 ex_1 => ?_)
  refine lv_istore_n (lv' := [(1, .int x_1), (0, .ref (G.2.2.1 11 0))]) hx hb dX6_wipe_7 rfl hl (by decide) rfl (fun ls hl => ?_)
  refine lv_aload_n hx hb dX6_wipe_8 rfl (lv_at hl 1 rfl) ?_
  refine wr_get hC hinRX6 hW (vS (by decide)) ((wE_c (Z' := wset Z 11 (Z 11)) (by first | (simp [wset]; done) | (simp only [wset]; split <;> first | (exfalso; omega) | simp))).trans ce_s0) rfl 6 (by decide) hk0 rfl dX6_wipe_9 ?_
  refine lv_iconst (v := 0) hx hb dX6_wipe_12 (by decide) ?_
  have hW := wW_eq (Z' := (wset Z 11 (Z 11))) hW (by
    funext i9
    by_cases e0 : i9 = 11
    all_goals first | (simp [wset, e0]; done) | (exfalso; omega) | (subst_vars; simp [wset]; done) | (subst_vars; simp_all [wset]; done))
  refine wr_put (Z' := wset Z 11 (bput (Z 11) 6 0 0)) (v := .int 0) hC hinRX2 tyX2 tyX2_ok nmX2 hW hS (vS (by decide)) ce_s6 rfl 1 (by decide) hk1 rfl (tyX2_ok 1 (by decide)) rfl rfl (Nat.le_of_ble_eq_true rfl) wset_off pu_s6_0 dX6_wipe_13 (fun H locs hW hS => ?_)
  refine lv_iload_n hx hb dX6_wipe_16 rfl (lv_at hl 0 rfl) ?_
  have hf : fX6_wipe Z = ((wset Z 11 (bput (Z 11) 6 0 0)), x_1) := by
    subst ex_1
    exact rfl
  exact we_i hC hr hlocks (congrArg Prod.snd hf).symm (congrArg Prod.fst hf).symm hW hS dX6_wipe_17
def fX6_fault (Z : wZ) : wZ × Int32 :=
  let P_1 := fX4_findFault (Z 11)
  ((wset Z 11 P_1.1), P_1.2)
abbrev rX6_fault : Room := { frames := 6, cells := 0, slots := 0, locals := 128 }
set_option maxHeartbeats 4000000 in
set_option maxRecDepth 100000 in
theorem kX6_fault (l : Launch) (G : wG) (Z : wZ)    : mI l yX6_fault wsX6_fault rX6_fault G [.ref (G.2.2.1 11 0)] Z (fX6_fault Z).2 (fX6_fault Z).1 := by
  refine Met.ofW (cc := cX6_fault) (maxL := 1) (ret := (some .int)) (by decide) rfl ?_
  intro p e s m args below meth c s₁ B0 hml hv
  obtain ⟨rfl, hW, hK, hL⟩ := hv
  have hlocks := B0.notSynchronized
  have hr := B0.returns
  have hC : wX p s m c cX6_fault _ wsX6_fault RX6 G := ⟨B0.exec, B0.bytes, findClass_of_methodNamed B0.named, atoms_spec (ws := wsX6_fault) B0.pre, hK, hL⟩
  have hx := hC.1
  have hb := hC.2.1
  have hts := hC.2.2.2.1
  have hinRX6 : ∀ w ∈ wsX60, w ∈ wsX6_fault := by decide +kernel
  have hk0 := hts (.fieldLink RX6 37 "RampShafts" "reader" "LRampShafts$Reader;") (by decide +kernel)
  have hS : va_S (wA G) s.heap s.heap [] := va_S.rf
  have hl := lv_entry ([.ref (G.2.2.1 11 0)]) (n := 1) (Nat.le_of_ble_eq_true rfl)
  rw [lg_entry_eq]
  generalize (lg_sl ([.ref (G.2.2.1 11 0)]) ++ List.replicate (1 - (lg_sl ([.ref (G.2.2.1 11 0)])).length) Slot.unset).toArray = ls at hl ⊢
  have hl : lv_has ls 1 [(0, .ref (G.2.2.1 11 0))] := hl
  refine lv_aload_n hx hb dX6_fault_0 rfl (lv_at hl 0 rfl) ?_
  refine wr_get hC hinRX6 hW (vS (by decide)) ((wE_c (Z' := wset Z 11 (Z 11)) (by first | (simp [wset]; done) | (simp only [wset]; split <;> first | (exfalso; omega) | simp))).trans ce_s0) rfl 5 (by decide) hk0 rfl dX6_fault_1 ?_
  have hW := wW_eq (Z' := (wset Z 11 (Z 11))) hW (by
    funext i9
    by_cases e0 : i9 = 11
    all_goals first | (simp [wset, e0]; done) | (exfalso; omega) | (subst_vars; simp [wset]; done) | (subst_vars; simp_all [wset]; done))
  refine wc_i hC hml (kX4_findFault l G Z (Z 11)) (cwV 0 hts gX6_fault_X4_findFault rfl rfl rfl (by decide +kernel) ⟨Nat.le_of_ble_eq_true rfl, Nat.le_of_ble_eq_true rfl⟩) hW hS (vS (by decide)) ce_s5 rfl rfl rfl rfl hl.1 (Nat.le_of_ble_eq_true rfl) dX6_fault_4 (fun H locs hW hS => ?_)
  obtain ⟨P_1, eP_1⟩ : ∃ y, y = fX4_findFault (Z 11) := ⟨_, rfl⟩
  rw [← eP_1] at hW ⊢
  have hf : fX6_fault Z = ((wset Z 11 P_1.1), P_1.2) := by
    subst eP_1
    exact rfl
  exact we_i hC hr hlocks (congrArg Prod.snd hf).symm (congrArg Prod.fst hf).symm hW hS dX6_fault_7
def fX6_carryOutOrder (Z : wZ) : wZ × Int32 :=
  if ((Z 11) 5 1) = 104 then (let P_2 := fX0_bringHome (Z 0) ((Z 11) 5 3)
    ((wset Z 0 P_2.1), P_2.2))
  else if ((Z 11) 5 1) = 105 then (Z, (-3))
  else if ((Z 11) 5 1) = 106 then (Z, (-3))
  else if ((Z 11) 5 1) = 107 then (Z, (-3))
  else if ((Z 11) 5 1) = 108 then (let P_7 := fX0_changeLoad (Z 0) ((Z 11) 5 3) ((Z 11) 5 4)
    ((wset Z 0 P_7.1), P_7.2))
  else if ((Z 11) 5 1) = 109 then (let P_9 := fX0_moveTo (Z 0) ((Z 11) 5 3) ((Z 11) 5 4)
    ((wset Z 0 P_9.1), P_9.2))
  else if ((Z 11) 5 1) = 110 then (let P_11 := fX0_addShaft (Z 0) ((Z 11) 5 3)
    ((wset Z 0 P_11.1), P_11.2))
  else if ((Z 11) 5 1) = 111 then (Z, (-3))
  else if ((Z 11) 5 1) = 112 then (let P_14 := fX0_addPlan (Z 0) ((Z 11) 5 2) ((Z 11) 5 3) ((Z 11) 5 4)
    ((wset Z 0 P_14.1), P_14.2))
  else if ((Z 11) 5 1) = 113 then (Z, (-3))
  else if ((Z 11) 5 1) = 114 then (Z, (-3))
  else if ((Z 11) 5 1) = 115 then (let P_18 := fX0_halt (Z 0) ((Z 11) 5 3)
    ((wset Z 0 P_18.1), P_18.2))
  else if ((Z 11) 5 1) = 116 then (let P_20 := fX0_passTicks (Z 0) ((Z 11) 5 2)
    ((wset Z 0 P_20.1), P_20.2))
  else (Z, (-3))
abbrev rX6_carryOutOrder : Room := { frames := 5, cells := 0, slots := 0, locals := 117 }
set_option maxHeartbeats 4000000 in
set_option maxRecDepth 100000 in
theorem kX6_carryOutOrder (l : Launch) (G : wG) (Z : wZ)    : mI l yX6_carryOutOrder wsX6_carryOutOrder rX6_carryOutOrder G [.ref (G.2.2.1 11 0)] Z (fX6_carryOutOrder Z).2 (fX6_carryOutOrder Z).1 := by
  refine Met.ofW (cc := cX6_carryOutOrder) (maxL := 1) (ret := (some .int)) (by decide) rfl ?_
  intro p e s m args below meth c s₁ B0 hml hv
  obtain ⟨rfl, hW, hK, hL⟩ := hv
  have hlocks := B0.notSynchronized
  have hr := B0.returns
  have hC : wX p s m c cX6_carryOutOrder _ wsX6_carryOutOrder RX6 G := ⟨B0.exec, B0.bytes, findClass_of_methodNamed B0.named, atoms_spec (ws := wsX6_carryOutOrder) B0.pre, hK, hL⟩
  have hx := hC.1
  have hb := hC.2.1
  have hts := hC.2.2.2.1
  have hinRX4 : ∀ w ∈ wsX40, w ∈ wsX6_carryOutOrder := by decide +kernel
  have hinRX6 : ∀ w ∈ wsX60, w ∈ wsX6_carryOutOrder := by decide +kernel
  have hk0 := hts (.fieldLink RX6 37 "RampShafts" "reader" "LRampShafts$Reader;") (by decide +kernel)
  have hk1 := hts (.fieldLink RX6 251 "RampShafts$Reader" "order" "I") (by decide +kernel)
  have hk2 := hts (.fieldLink RX6 10 "RampShafts" "bench" "LRampShafts$Bench;") (by decide +kernel)
  have hk3 := hts (.fieldLink RX6 254 "RampShafts$Reader" "digit" "I") (by decide +kernel)
  have hk4 := hts (.fieldLink RX6 257 "RampShafts$Reader" "value" "I") (by decide +kernel)
  have hk5 := hts (.fieldLink RX6 260 "RampShafts$Reader" "number" "I") (by decide +kernel)
  have hS : va_S (wA G) s.heap s.heap [] := va_S.rf
  have hl := lv_entry ([.ref (G.2.2.1 11 0)]) (n := 1) (Nat.le_of_ble_eq_true rfl)
  rw [lg_entry_eq]
  generalize (lg_sl ([.ref (G.2.2.1 11 0)]) ++ List.replicate (1 - (lg_sl ([.ref (G.2.2.1 11 0)])).length) Slot.unset).toArray = ls at hl ⊢
  have hl : lv_has ls 1 [(0, .ref (G.2.2.1 11 0))] := hl
  refine lv_aload_n hx hb dX6_carryOutOrder_0 rfl (lv_at hl 0 rfl) ?_
  refine wr_get hC hinRX6 hW (vS (by decide)) ((wE_c (Z' := wset Z 11 (Z 11)) (by first | (simp [wset]; done) | (simp only [wset]; split <;> first | (exfalso; omega) | simp))).trans ce_s0) rfl 5 (by decide) hk0 rfl dX6_carryOutOrder_1 ?_
  refine wr_get hC hinRX4 hW (vS (by decide)) ((wE_c (Z' := wset Z 11 (Z 11)) (by first | (simp [wset]; done) | (simp only [wset]; split <;> first | (exfalso; omega) | simp))).trans ce_s5) rfl 2 (by decide) hk1 rfl dX6_carryOutOrder_4 ?_
  by_cases c_1 : ((Z 11) 5 1) = 104
  · refine lv_re c_1 ?_
    refine lv_tableIn (tgt := 175) (off := 168) hx hb dX6_carryOutOrder_7 (by decide) (by decide) (by decide) (by decide) ?_
    refine lv_aload_n hx hb dX6_carryOutOrder_175 rfl (lv_at hl 0 rfl) ?_
    refine wr_get hC hinRX6 hW (vS (by decide)) ((wE_c (Z' := wset Z 11 (Z 11)) (by first | (simp [wset]; done) | (simp only [wset]; split <;> first | (exfalso; omega) | simp))).trans ce_s0) rfl 0 (by decide) hk2 rfl dX6_carryOutOrder_176 ?_
    refine lv_aload_n hx hb dX6_carryOutOrder_179 rfl (lv_at hl 0 rfl) ?_
    refine wr_get hC hinRX6 hW (vS (by decide)) ((wE_c (Z' := wset Z 11 (Z 11)) (by first | (simp [wset]; done) | (simp only [wset]; split <;> first | (exfalso; omega) | simp))).trans ce_s0) rfl 5 (by decide) hk0 rfl dX6_carryOutOrder_180 ?_
    refine wr_get hC hinRX4 hW (vS (by decide)) ((wE_c (Z' := wset Z 11 (Z 11)) (by first | (simp [wset]; done) | (simp only [wset]; split <;> first | (exfalso; omega) | simp))).trans ce_s5) rfl 4 (by decide) hk3 rfl dX6_carryOutOrder_183 ?_
    have hW := wW_eq (Z' := (wset Z 0 (Z 0))) hW (by
      funext i9
      by_cases e0 : i9 = 0
      all_goals first | (simp [wset, e0]; done) | (exfalso; omega) | (subst_vars; simp [wset]; done) | (subst_vars; simp_all [wset]; done))
    refine wc_i hC hml (kX0_bringHome l G Z 0 (by decide) (Z 0) ((Z 11) 5 3)) (cwV 1 hts gX6_carryOutOrder_X0_bringHome rfl rfl rfl (by decide +kernel) ⟨Nat.le_of_ble_eq_true rfl, Nat.le_of_ble_eq_true rfl⟩) hW hS (vB (by decide) (by decide)) (ce_b0 (by decide)) rfl rfl rfl rfl hl.1 (Nat.le_of_ble_eq_true rfl) dX6_carryOutOrder_186 (fun H locs hW hS => ?_)
    obtain ⟨P_2, eP_2⟩ : ∃ y, y = fX0_bringHome (Z 0) ((Z 11) 5 3) := ⟨_, rfl⟩
    rw [← eP_2] at hW ⊢
    have hf : fX6_carryOutOrder Z = ((wset Z 0 P_2.1), P_2.2) := by
      subst eP_2
      exact (if_pos c_1).trans rfl
    exact we_i hC hr hlocks (congrArg Prod.snd hf).symm (congrArg Prod.fst hf).symm hW hS dX6_carryOutOrder_189
  by_cases c_3 : ((Z 11) 5 1) = 105
  · refine lv_re c_3 ?_
    refine lv_tableIn (tgt := 205) (off := 198) hx hb dX6_carryOutOrder_7 (by decide) (by decide) (by decide) (by decide) ?_
    refine lv_bipush (v := (-3)) hx hb dX6_carryOutOrder_205 (by decide) ?_
    have hf : fX6_carryOutOrder Z = (Z, (-3)) := (if_neg c_1).trans ((if_pos c_3).trans rfl)
    exact we_i hC hr hlocks (congrArg Prod.snd hf).symm (congrArg Prod.fst hf).symm hW hS dX6_carryOutOrder_207
  by_cases c_4 : ((Z 11) 5 1) = 106
  · refine lv_re c_4 ?_
    refine lv_tableIn (tgt := 205) (off := 198) hx hb dX6_carryOutOrder_7 (by decide) (by decide) (by decide) (by decide) ?_
    refine lv_bipush (v := (-3)) hx hb dX6_carryOutOrder_205 (by decide) ?_
    have hf : fX6_carryOutOrder Z = (Z, (-3)) := (if_neg c_1).trans ((if_neg c_3).trans ((if_pos c_4).trans rfl))
    exact we_i hC hr hlocks (congrArg Prod.snd hf).symm (congrArg Prod.fst hf).symm hW hS dX6_carryOutOrder_207
  by_cases c_5 : ((Z 11) 5 1) = 107
  · refine lv_re c_5 ?_
    refine lv_tableIn (tgt := 205) (off := 198) hx hb dX6_carryOutOrder_7 (by decide) (by decide) (by decide) (by decide) ?_
    refine lv_bipush (v := (-3)) hx hb dX6_carryOutOrder_205 (by decide) ?_
    have hf : fX6_carryOutOrder Z = (Z, (-3)) := (if_neg c_1).trans ((if_neg c_3).trans ((if_neg c_4).trans ((if_pos c_5).trans rfl)))
    exact we_i hC hr hlocks (congrArg Prod.snd hf).symm (congrArg Prod.fst hf).symm hW hS dX6_carryOutOrder_207
  by_cases c_6 : ((Z 11) 5 1) = 108
  · refine lv_re c_6 ?_
    refine lv_tableIn (tgt := 153) (off := 146) hx hb dX6_carryOutOrder_7 (by decide) (by decide) (by decide) (by decide) ?_
    refine lv_aload_n hx hb dX6_carryOutOrder_153 rfl (lv_at hl 0 rfl) ?_
    refine wr_get hC hinRX6 hW (vS (by decide)) ((wE_c (Z' := wset Z 11 (Z 11)) (by first | (simp [wset]; done) | (simp only [wset]; split <;> first | (exfalso; omega) | simp))).trans ce_s0) rfl 0 (by decide) hk2 rfl dX6_carryOutOrder_154 ?_
    refine lv_aload_n hx hb dX6_carryOutOrder_157 rfl (lv_at hl 0 rfl) ?_
    refine wr_get hC hinRX6 hW (vS (by decide)) ((wE_c (Z' := wset Z 11 (Z 11)) (by first | (simp [wset]; done) | (simp only [wset]; split <;> first | (exfalso; omega) | simp))).trans ce_s0) rfl 5 (by decide) hk0 rfl dX6_carryOutOrder_158 ?_
    refine wr_get hC hinRX4 hW (vS (by decide)) ((wE_c (Z' := wset Z 11 (Z 11)) (by first | (simp [wset]; done) | (simp only [wset]; split <;> first | (exfalso; omega) | simp))).trans ce_s5) rfl 4 (by decide) hk3 rfl dX6_carryOutOrder_161 ?_
    refine lv_aload_n hx hb dX6_carryOutOrder_164 rfl (lv_at hl 0 rfl) ?_
    refine wr_get hC hinRX6 hW (vS (by decide)) ((wE_c (Z' := wset Z 11 (Z 11)) (by first | (simp [wset]; done) | (simp only [wset]; split <;> first | (exfalso; omega) | simp))).trans ce_s0) rfl 5 (by decide) hk0 rfl dX6_carryOutOrder_165 ?_
    refine wr_get hC hinRX4 hW (vS (by decide)) ((wE_c (Z' := wset Z 11 (Z 11)) (by first | (simp [wset]; done) | (simp only [wset]; split <;> first | (exfalso; omega) | simp))).trans ce_s5) rfl 5 (by decide) hk4 rfl dX6_carryOutOrder_168 ?_
    have hW := wW_eq (Z' := (wset Z 0 (Z 0))) hW (by
      funext i9
      by_cases e0 : i9 = 0
      all_goals first | (simp [wset, e0]; done) | (exfalso; omega) | (subst_vars; simp [wset]; done) | (subst_vars; simp_all [wset]; done))
    refine wc_i hC hml (kX0_changeLoad l G Z 0 (by decide) (Z 0) ((Z 11) 5 3) ((Z 11) 5 4)) (cwV 2 hts gX6_carryOutOrder_X0_changeLoad rfl rfl rfl (by decide +kernel) ⟨Nat.le_of_ble_eq_true rfl, Nat.le_of_ble_eq_true rfl⟩) hW hS (vB (by decide) (by decide)) (ce_b0 (by decide)) rfl rfl rfl rfl hl.1 (Nat.le_of_ble_eq_true rfl) dX6_carryOutOrder_171 (fun H locs hW hS => ?_)
    obtain ⟨P_7, eP_7⟩ : ∃ y, y = fX0_changeLoad (Z 0) ((Z 11) 5 3) ((Z 11) 5 4) := ⟨_, rfl⟩
    rw [← eP_7] at hW ⊢
    have hf : fX6_carryOutOrder Z = ((wset Z 0 P_7.1), P_7.2) := by
      subst eP_7
      exact (if_neg c_1).trans ((if_neg c_3).trans ((if_neg c_4).trans ((if_neg c_5).trans ((if_pos c_6).trans rfl))))
    exact we_i hC hr hlocks (congrArg Prod.snd hf).symm (congrArg Prod.fst hf).symm hW hS dX6_carryOutOrder_174
  by_cases c_8 : ((Z 11) 5 1) = 109
  · refine lv_re c_8 ?_
    refine lv_tableIn (tgt := 87) (off := 80) hx hb dX6_carryOutOrder_7 (by decide) (by decide) (by decide) (by decide) ?_
    refine lv_aload_n hx hb dX6_carryOutOrder_87 rfl (lv_at hl 0 rfl) ?_
    refine wr_get hC hinRX6 hW (vS (by decide)) ((wE_c (Z' := wset Z 11 (Z 11)) (by first | (simp [wset]; done) | (simp only [wset]; split <;> first | (exfalso; omega) | simp))).trans ce_s0) rfl 0 (by decide) hk2 rfl dX6_carryOutOrder_88 ?_
    refine lv_aload_n hx hb dX6_carryOutOrder_91 rfl (lv_at hl 0 rfl) ?_
    refine wr_get hC hinRX6 hW (vS (by decide)) ((wE_c (Z' := wset Z 11 (Z 11)) (by first | (simp [wset]; done) | (simp only [wset]; split <;> first | (exfalso; omega) | simp))).trans ce_s0) rfl 5 (by decide) hk0 rfl dX6_carryOutOrder_92 ?_
    refine wr_get hC hinRX4 hW (vS (by decide)) ((wE_c (Z' := wset Z 11 (Z 11)) (by first | (simp [wset]; done) | (simp only [wset]; split <;> first | (exfalso; omega) | simp))).trans ce_s5) rfl 4 (by decide) hk3 rfl dX6_carryOutOrder_95 ?_
    refine lv_aload_n hx hb dX6_carryOutOrder_98 rfl (lv_at hl 0 rfl) ?_
    refine wr_get hC hinRX6 hW (vS (by decide)) ((wE_c (Z' := wset Z 11 (Z 11)) (by first | (simp [wset]; done) | (simp only [wset]; split <;> first | (exfalso; omega) | simp))).trans ce_s0) rfl 5 (by decide) hk0 rfl dX6_carryOutOrder_99 ?_
    refine wr_get hC hinRX4 hW (vS (by decide)) ((wE_c (Z' := wset Z 11 (Z 11)) (by first | (simp [wset]; done) | (simp only [wset]; split <;> first | (exfalso; omega) | simp))).trans ce_s5) rfl 5 (by decide) hk4 rfl dX6_carryOutOrder_102 ?_
    have hW := wW_eq (Z' := (wset Z 0 (Z 0))) hW (by
      funext i9
      by_cases e0 : i9 = 0
      all_goals first | (simp [wset, e0]; done) | (exfalso; omega) | (subst_vars; simp [wset]; done) | (subst_vars; simp_all [wset]; done))
    refine wc_i hC hml (kX0_moveTo l G Z 0 (by decide) (Z 0) ((Z 11) 5 3) ((Z 11) 5 4)) (cwV 2 hts gX6_carryOutOrder_X0_moveTo rfl rfl rfl (by decide +kernel) ⟨Nat.le_of_ble_eq_true rfl, Nat.le_of_ble_eq_true rfl⟩) hW hS (vB (by decide) (by decide)) (ce_b0 (by decide)) rfl rfl rfl rfl hl.1 (Nat.le_of_ble_eq_true rfl) dX6_carryOutOrder_105 (fun H locs hW hS => ?_)
    obtain ⟨P_9, eP_9⟩ : ∃ y, y = fX0_moveTo (Z 0) ((Z 11) 5 3) ((Z 11) 5 4) := ⟨_, rfl⟩
    rw [← eP_9] at hW ⊢
    have hf : fX6_carryOutOrder Z = ((wset Z 0 P_9.1), P_9.2) := by
      subst eP_9
      exact (if_neg c_1).trans ((if_neg c_3).trans ((if_neg c_4).trans ((if_neg c_5).trans ((if_neg c_6).trans ((if_pos c_8).trans rfl)))))
    exact we_i hC hr hlocks (congrArg Prod.snd hf).symm (congrArg Prod.fst hf).symm hW hS dX6_carryOutOrder_108
  by_cases c_10 : ((Z 11) 5 1) = 110
  · refine lv_re c_10 ?_
    refine lv_tableIn (tgt := 72) (off := 65) hx hb dX6_carryOutOrder_7 (by decide) (by decide) (by decide) (by decide) ?_
    refine lv_aload_n hx hb dX6_carryOutOrder_72 rfl (lv_at hl 0 rfl) ?_
    refine wr_get hC hinRX6 hW (vS (by decide)) ((wE_c (Z' := wset Z 11 (Z 11)) (by first | (simp [wset]; done) | (simp only [wset]; split <;> first | (exfalso; omega) | simp))).trans ce_s0) rfl 0 (by decide) hk2 rfl dX6_carryOutOrder_73 ?_
    refine lv_aload_n hx hb dX6_carryOutOrder_76 rfl (lv_at hl 0 rfl) ?_
    refine wr_get hC hinRX6 hW (vS (by decide)) ((wE_c (Z' := wset Z 11 (Z 11)) (by first | (simp [wset]; done) | (simp only [wset]; split <;> first | (exfalso; omega) | simp))).trans ce_s0) rfl 5 (by decide) hk0 rfl dX6_carryOutOrder_77 ?_
    refine wr_get hC hinRX4 hW (vS (by decide)) ((wE_c (Z' := wset Z 11 (Z 11)) (by first | (simp [wset]; done) | (simp only [wset]; split <;> first | (exfalso; omega) | simp))).trans ce_s5) rfl 4 (by decide) hk3 rfl dX6_carryOutOrder_80 ?_
    have hW := wW_eq (Z' := (wset Z 0 (Z 0))) hW (by
      funext i9
      by_cases e0 : i9 = 0
      all_goals first | (simp [wset, e0]; done) | (exfalso; omega) | (subst_vars; simp [wset]; done) | (subst_vars; simp_all [wset]; done))
    refine wc_i hC hml (kX0_addShaft l G Z 0 (by decide) (Z 0) ((Z 11) 5 3)) (cwV 1 hts gX6_carryOutOrder_X0_addShaft rfl rfl rfl (by decide +kernel) ⟨Nat.le_of_ble_eq_true rfl, Nat.le_of_ble_eq_true rfl⟩) hW hS (vB (by decide) (by decide)) (ce_b0 (by decide)) rfl rfl rfl rfl hl.1 (Nat.le_of_ble_eq_true rfl) dX6_carryOutOrder_83 (fun H locs hW hS => ?_)
    obtain ⟨P_11, eP_11⟩ : ∃ y, y = fX0_addShaft (Z 0) ((Z 11) 5 3) := ⟨_, rfl⟩
    rw [← eP_11] at hW ⊢
    have hf : fX6_carryOutOrder Z = ((wset Z 0 P_11.1), P_11.2) := by
      subst eP_11
      exact (if_neg c_1).trans ((if_neg c_3).trans ((if_neg c_4).trans ((if_neg c_5).trans ((if_neg c_6).trans ((if_neg c_8).trans ((if_pos c_10).trans rfl))))))
    exact we_i hC hr hlocks (congrArg Prod.snd hf).symm (congrArg Prod.fst hf).symm hW hS dX6_carryOutOrder_86
  by_cases c_12 : ((Z 11) 5 1) = 111
  · refine lv_re c_12 ?_
    refine lv_tableIn (tgt := 205) (off := 198) hx hb dX6_carryOutOrder_7 (by decide) (by decide) (by decide) (by decide) ?_
    refine lv_bipush (v := (-3)) hx hb dX6_carryOutOrder_205 (by decide) ?_
    have hf : fX6_carryOutOrder Z = (Z, (-3)) := (if_neg c_1).trans ((if_neg c_3).trans ((if_neg c_4).trans ((if_neg c_5).trans ((if_neg c_6).trans ((if_neg c_8).trans ((if_neg c_10).trans ((if_pos c_12).trans rfl)))))))
    exact we_i hC hr hlocks (congrArg Prod.snd hf).symm (congrArg Prod.fst hf).symm hW hS dX6_carryOutOrder_207
  by_cases c_13 : ((Z 11) 5 1) = 112
  · refine lv_re c_13 ?_
    refine lv_tableIn (tgt := 109) (off := 102) hx hb dX6_carryOutOrder_7 (by decide) (by decide) (by decide) (by decide) ?_
    refine lv_aload_n hx hb dX6_carryOutOrder_109 rfl (lv_at hl 0 rfl) ?_
    refine wr_get hC hinRX6 hW (vS (by decide)) ((wE_c (Z' := wset Z 11 (Z 11)) (by first | (simp [wset]; done) | (simp only [wset]; split <;> first | (exfalso; omega) | simp))).trans ce_s0) rfl 0 (by decide) hk2 rfl dX6_carryOutOrder_110 ?_
    refine lv_aload_n hx hb dX6_carryOutOrder_113 rfl (lv_at hl 0 rfl) ?_
    refine wr_get hC hinRX6 hW (vS (by decide)) ((wE_c (Z' := wset Z 11 (Z 11)) (by first | (simp [wset]; done) | (simp only [wset]; split <;> first | (exfalso; omega) | simp))).trans ce_s0) rfl 5 (by decide) hk0 rfl dX6_carryOutOrder_114 ?_
    refine wr_get hC hinRX4 hW (vS (by decide)) ((wE_c (Z' := wset Z 11 (Z 11)) (by first | (simp [wset]; done) | (simp only [wset]; split <;> first | (exfalso; omega) | simp))).trans ce_s5) rfl 3 (by decide) hk5 rfl dX6_carryOutOrder_117 ?_
    refine lv_aload_n hx hb dX6_carryOutOrder_120 rfl (lv_at hl 0 rfl) ?_
    refine wr_get hC hinRX6 hW (vS (by decide)) ((wE_c (Z' := wset Z 11 (Z 11)) (by first | (simp [wset]; done) | (simp only [wset]; split <;> first | (exfalso; omega) | simp))).trans ce_s0) rfl 5 (by decide) hk0 rfl dX6_carryOutOrder_121 ?_
    refine wr_get hC hinRX4 hW (vS (by decide)) ((wE_c (Z' := wset Z 11 (Z 11)) (by first | (simp [wset]; done) | (simp only [wset]; split <;> first | (exfalso; omega) | simp))).trans ce_s5) rfl 4 (by decide) hk3 rfl dX6_carryOutOrder_124 ?_
    refine lv_aload_n hx hb dX6_carryOutOrder_127 rfl (lv_at hl 0 rfl) ?_
    refine wr_get hC hinRX6 hW (vS (by decide)) ((wE_c (Z' := wset Z 11 (Z 11)) (by first | (simp [wset]; done) | (simp only [wset]; split <;> first | (exfalso; omega) | simp))).trans ce_s0) rfl 5 (by decide) hk0 rfl dX6_carryOutOrder_128 ?_
    refine wr_get hC hinRX4 hW (vS (by decide)) ((wE_c (Z' := wset Z 11 (Z 11)) (by first | (simp [wset]; done) | (simp only [wset]; split <;> first | (exfalso; omega) | simp))).trans ce_s5) rfl 5 (by decide) hk4 rfl dX6_carryOutOrder_131 ?_
    have hW := wW_eq (Z' := (wset Z 0 (Z 0))) hW (by
      funext i9
      by_cases e0 : i9 = 0
      all_goals first | (simp [wset, e0]; done) | (exfalso; omega) | (subst_vars; simp [wset]; done) | (subst_vars; simp_all [wset]; done))
    refine wc_i hC hml (kX0_addPlan l G Z 0 (by decide) (Z 0) ((Z 11) 5 2) ((Z 11) 5 3) ((Z 11) 5 4)) (cwV 3 hts gX6_carryOutOrder_X0_addPlan rfl rfl rfl (by decide +kernel) ⟨Nat.le_of_ble_eq_true rfl, Nat.le_of_ble_eq_true rfl⟩) hW hS (vB (by decide) (by decide)) (ce_b0 (by decide)) rfl rfl rfl rfl hl.1 (Nat.le_of_ble_eq_true rfl) dX6_carryOutOrder_134 (fun H locs hW hS => ?_)
    obtain ⟨P_14, eP_14⟩ : ∃ y, y = fX0_addPlan (Z 0) ((Z 11) 5 2) ((Z 11) 5 3) ((Z 11) 5 4) := ⟨_, rfl⟩
    rw [← eP_14] at hW ⊢
    have hf : fX6_carryOutOrder Z = ((wset Z 0 P_14.1), P_14.2) := by
      subst eP_14
      exact (if_neg c_1).trans ((if_neg c_3).trans ((if_neg c_4).trans ((if_neg c_5).trans ((if_neg c_6).trans ((if_neg c_8).trans ((if_neg c_10).trans ((if_neg c_12).trans ((if_pos c_13).trans rfl))))))))
    exact we_i hC hr hlocks (congrArg Prod.snd hf).symm (congrArg Prod.fst hf).symm hW hS dX6_carryOutOrder_137
  by_cases c_15 : ((Z 11) 5 1) = 113
  · refine lv_re c_15 ?_
    refine lv_tableIn (tgt := 205) (off := 198) hx hb dX6_carryOutOrder_7 (by decide) (by decide) (by decide) (by decide) ?_
    refine lv_bipush (v := (-3)) hx hb dX6_carryOutOrder_205 (by decide) ?_
    have hf : fX6_carryOutOrder Z = (Z, (-3)) := (if_neg c_1).trans ((if_neg c_3).trans ((if_neg c_4).trans ((if_neg c_5).trans ((if_neg c_6).trans ((if_neg c_8).trans ((if_neg c_10).trans ((if_neg c_12).trans ((if_neg c_13).trans ((if_pos c_15).trans rfl)))))))))
    exact we_i hC hr hlocks (congrArg Prod.snd hf).symm (congrArg Prod.fst hf).symm hW hS dX6_carryOutOrder_207
  by_cases c_16 : ((Z 11) 5 1) = 114
  · refine lv_re c_16 ?_
    refine lv_tableIn (tgt := 205) (off := 198) hx hb dX6_carryOutOrder_7 (by decide) (by decide) (by decide) (by decide) ?_
    refine lv_bipush (v := (-3)) hx hb dX6_carryOutOrder_205 (by decide) ?_
    have hf : fX6_carryOutOrder Z = (Z, (-3)) := (if_neg c_1).trans ((if_neg c_3).trans ((if_neg c_4).trans ((if_neg c_5).trans ((if_neg c_6).trans ((if_neg c_8).trans ((if_neg c_10).trans ((if_neg c_12).trans ((if_neg c_13).trans ((if_neg c_15).trans ((if_pos c_16).trans rfl))))))))))
    exact we_i hC hr hlocks (congrArg Prod.snd hf).symm (congrArg Prod.fst hf).symm hW hS dX6_carryOutOrder_207
  by_cases c_17 : ((Z 11) 5 1) = 115
  · refine lv_re c_17 ?_
    refine lv_tableIn (tgt := 138) (off := 131) hx hb dX6_carryOutOrder_7 (by decide) (by decide) (by decide) (by decide) ?_
    refine lv_aload_n hx hb dX6_carryOutOrder_138 rfl (lv_at hl 0 rfl) ?_
    refine wr_get hC hinRX6 hW (vS (by decide)) ((wE_c (Z' := wset Z 11 (Z 11)) (by first | (simp [wset]; done) | (simp only [wset]; split <;> first | (exfalso; omega) | simp))).trans ce_s0) rfl 0 (by decide) hk2 rfl dX6_carryOutOrder_139 ?_
    refine lv_aload_n hx hb dX6_carryOutOrder_142 rfl (lv_at hl 0 rfl) ?_
    refine wr_get hC hinRX6 hW (vS (by decide)) ((wE_c (Z' := wset Z 11 (Z 11)) (by first | (simp [wset]; done) | (simp only [wset]; split <;> first | (exfalso; omega) | simp))).trans ce_s0) rfl 5 (by decide) hk0 rfl dX6_carryOutOrder_143 ?_
    refine wr_get hC hinRX4 hW (vS (by decide)) ((wE_c (Z' := wset Z 11 (Z 11)) (by first | (simp [wset]; done) | (simp only [wset]; split <;> first | (exfalso; omega) | simp))).trans ce_s5) rfl 4 (by decide) hk3 rfl dX6_carryOutOrder_146 ?_
    have hW := wW_eq (Z' := (wset Z 0 (Z 0))) hW (by
      funext i9
      by_cases e0 : i9 = 0
      all_goals first | (simp [wset, e0]; done) | (exfalso; omega) | (subst_vars; simp [wset]; done) | (subst_vars; simp_all [wset]; done))
    refine wc_i hC hml (kX0_halt l G Z 0 (by decide) (Z 0) ((Z 11) 5 3)) (cwV 1 hts gX6_carryOutOrder_X0_halt rfl rfl rfl (by decide +kernel) ⟨Nat.le_of_ble_eq_true rfl, Nat.le_of_ble_eq_true rfl⟩) hW hS (vB (by decide) (by decide)) (ce_b0 (by decide)) rfl rfl rfl rfl hl.1 (Nat.le_of_ble_eq_true rfl) dX6_carryOutOrder_149 (fun H locs hW hS => ?_)
    obtain ⟨P_18, eP_18⟩ : ∃ y, y = fX0_halt (Z 0) ((Z 11) 5 3) := ⟨_, rfl⟩
    rw [← eP_18] at hW ⊢
    have hf : fX6_carryOutOrder Z = ((wset Z 0 P_18.1), P_18.2) := by
      subst eP_18
      exact (if_neg c_1).trans ((if_neg c_3).trans ((if_neg c_4).trans ((if_neg c_5).trans ((if_neg c_6).trans ((if_neg c_8).trans ((if_neg c_10).trans ((if_neg c_12).trans ((if_neg c_13).trans ((if_neg c_15).trans ((if_neg c_16).trans ((if_pos c_17).trans rfl)))))))))))
    exact we_i hC hr hlocks (congrArg Prod.snd hf).symm (congrArg Prod.fst hf).symm hW hS dX6_carryOutOrder_152
  by_cases c_19 : ((Z 11) 5 1) = 116
  · refine lv_re c_19 ?_
    refine lv_tableIn (tgt := 190) (off := 183) hx hb dX6_carryOutOrder_7 (by decide) (by decide) (by decide) (by decide) ?_
    refine lv_aload_n hx hb dX6_carryOutOrder_190 rfl (lv_at hl 0 rfl) ?_
    refine wr_get hC hinRX6 hW (vS (by decide)) ((wE_c (Z' := wset Z 11 (Z 11)) (by first | (simp [wset]; done) | (simp only [wset]; split <;> first | (exfalso; omega) | simp))).trans ce_s0) rfl 0 (by decide) hk2 rfl dX6_carryOutOrder_191 ?_
    refine lv_aload_n hx hb dX6_carryOutOrder_194 rfl (lv_at hl 0 rfl) ?_
    refine wr_get hC hinRX6 hW (vS (by decide)) ((wE_c (Z' := wset Z 11 (Z 11)) (by first | (simp [wset]; done) | (simp only [wset]; split <;> first | (exfalso; omega) | simp))).trans ce_s0) rfl 5 (by decide) hk0 rfl dX6_carryOutOrder_195 ?_
    refine wr_get hC hinRX4 hW (vS (by decide)) ((wE_c (Z' := wset Z 11 (Z 11)) (by first | (simp [wset]; done) | (simp only [wset]; split <;> first | (exfalso; omega) | simp))).trans ce_s5) rfl 3 (by decide) hk5 rfl dX6_carryOutOrder_198 ?_
    have hW := wW_eq (Z' := (wset Z 0 (Z 0))) hW (by
      funext i9
      by_cases e0 : i9 = 0
      all_goals first | (simp [wset, e0]; done) | (exfalso; omega) | (subst_vars; simp [wset]; done) | (subst_vars; simp_all [wset]; done))
    refine wc_i hC hml (kX0_passTicks l G Z 0 (by decide) (Z 0) ((Z 11) 5 2)) (cwV 1 hts gX6_carryOutOrder_X0_passTicks rfl rfl rfl (by decide +kernel) ⟨Nat.le_of_ble_eq_true rfl, Nat.le_of_ble_eq_true rfl⟩) hW hS (vB (by decide) (by decide)) (ce_b0 (by decide)) rfl rfl rfl rfl hl.1 (Nat.le_of_ble_eq_true rfl) dX6_carryOutOrder_201 (fun H locs hW hS => ?_)
    obtain ⟨P_20, eP_20⟩ : ∃ y, y = fX0_passTicks (Z 0) ((Z 11) 5 2) := ⟨_, rfl⟩
    rw [← eP_20] at hW ⊢
    have hf : fX6_carryOutOrder Z = ((wset Z 0 P_20.1), P_20.2) := by
      subst eP_20
      exact (if_neg c_1).trans ((if_neg c_3).trans ((if_neg c_4).trans ((if_neg c_5).trans ((if_neg c_6).trans ((if_neg c_8).trans ((if_neg c_10).trans ((if_neg c_12).trans ((if_neg c_13).trans ((if_neg c_15).trans ((if_neg c_16).trans ((if_neg c_17).trans ((if_pos c_19).trans rfl))))))))))))
    exact we_i hC hr hlocks (congrArg Prod.snd hf).symm (congrArg Prod.fst hf).symm hW hS dX6_carryOutOrder_204
  refine lv_tableOut (tgt := 205) hx hb dX6_carryOutOrder_7 (by
    have hz : ∀ k : Int32, ¬ ((Z 11) 5 1) = k → ¬ ((Z 11) 5 1).toInt = k.toInt := fun k h q => h (Int32.toInt_inj.mp q)
    have c_1z : ¬ ((Z 11) 5 1).toInt = 104 := fun q => hz 104 c_1 (q.trans (by decide))
    have c_3z : ¬ ((Z 11) 5 1).toInt = 105 := fun q => hz 105 c_3 (q.trans (by decide))
    have c_4z : ¬ ((Z 11) 5 1).toInt = 106 := fun q => hz 106 c_4 (q.trans (by decide))
    have c_5z : ¬ ((Z 11) 5 1).toInt = 107 := fun q => hz 107 c_5 (q.trans (by decide))
    have c_6z : ¬ ((Z 11) 5 1).toInt = 108 := fun q => hz 108 c_6 (q.trans (by decide))
    have c_8z : ¬ ((Z 11) 5 1).toInt = 109 := fun q => hz 109 c_8 (q.trans (by decide))
    have c_10z : ¬ ((Z 11) 5 1).toInt = 110 := fun q => hz 110 c_10 (q.trans (by decide))
    have c_12z : ¬ ((Z 11) 5 1).toInt = 111 := fun q => hz 111 c_12 (q.trans (by decide))
    have c_13z : ¬ ((Z 11) 5 1).toInt = 112 := fun q => hz 112 c_13 (q.trans (by decide))
    have c_15z : ¬ ((Z 11) 5 1).toInt = 113 := fun q => hz 113 c_15 (q.trans (by decide))
    have c_16z : ¬ ((Z 11) 5 1).toInt = 114 := fun q => hz 114 c_16 (q.trans (by decide))
    have c_17z : ¬ ((Z 11) 5 1).toInt = 115 := fun q => hz 115 c_17 (q.trans (by decide))
    have c_19z : ¬ ((Z 11) 5 1).toInt = 116 := fun q => hz 116 c_19 (q.trans (by decide))
    omega) (by decide) ?_
  refine lv_bipush (v := (-3)) hx hb dX6_carryOutOrder_205 (by decide) ?_
  have hf : fX6_carryOutOrder Z = (Z, (-3)) := (if_neg c_1).trans ((if_neg c_3).trans ((if_neg c_4).trans ((if_neg c_5).trans ((if_neg c_6).trans ((if_neg c_8).trans ((if_neg c_10).trans ((if_neg c_12).trans ((if_neg c_13).trans ((if_neg c_15).trans ((if_neg c_16).trans ((if_neg c_17).trans ((if_neg c_19).trans rfl))))))))))))
  exact we_i hC hr hlocks (congrArg Prod.snd hf).symm (congrArg Prod.fst hf).symm hW hS dX6_carryOutOrder_207
def fX6_undo (Z : wZ) : wZ × Int32 :=
  if hX1_latest (Z 11) then (let B_2 := fX1_dropLatest (Z 11)
    ((wset (wset Z 0 (Z (4 + (fX1_placeOfLatest (Z 11)).toNatClampNeg))) 11 B_2), B_2 1 1))
  else (Z, (-5))
abbrev rX6_undo : Room := { frames := 2, cells := 0, slots := 0, locals := 44 }
set_option maxHeartbeats 4000000 in
set_option maxRecDepth 100000 in
theorem kX6_undo (l : Launch) (G : wG) (Z : wZ)    : mI l yX6_undo wsX6_undo rX6_undo G [.ref (G.2.2.1 11 0)] Z (fX6_undo Z).2 (fX6_undo Z).1 := by
  refine Met.ofW (cc := cX6_undo) (maxL := 2) (ret := (some .int)) (by decide) rfl ?_
  intro p e s m args below meth c s₁ B0 hml hv
  obtain ⟨rfl, hW, hK, hL⟩ := hv
  have hlocks := B0.notSynchronized
  have hr := B0.returns
  have hC : wX p s m c cX6_undo _ wsX6_undo RX6 G := ⟨B0.exec, B0.bytes, findClass_of_methodNamed B0.named, atoms_spec (ws := wsX6_undo) B0.pre, hK, hL⟩
  have hx := hC.1
  have hb := hC.2.1
  have hts := hC.2.2.2.1
  have hinRX1 : ∀ w ∈ wsX10, w ∈ wsX6_undo := by decide +kernel
  have hinRX6 : ∀ w ∈ wsX60, w ∈ wsX6_undo := by decide +kernel
  have hk0 := hts (.fieldLink RX6 22 "RampShafts" "history" "LRampShafts$History;") (by decide +kernel)
  have hk1 := hts (.fieldLink RX6 10 "RampShafts" "bench" "LRampShafts$Bench;") (by decide +kernel)
  have hk2 := hts (.fieldLink RX6 177 "RampShafts$History" "kept" "I") (by decide +kernel)
  have hS : va_S (wA G) s.heap s.heap [] := va_S.rf
  have hl := lv_entry ([.ref (G.2.2.1 11 0)]) (n := 2) (Nat.le_of_ble_eq_true rfl)
  rw [lg_entry_eq]
  generalize (lg_sl ([.ref (G.2.2.1 11 0)]) ++ List.replicate (2 - (lg_sl ([.ref (G.2.2.1 11 0)])).length) Slot.unset).toArray = ls at hl ⊢
  have hl : lv_has ls 2 [(0, .ref (G.2.2.1 11 0))] := hl
  refine lv_aload_n hx hb dX6_undo_0 rfl (lv_at hl 0 rfl) ?_
  refine wr_get hC hinRX6 hW (vS (by decide)) ((wE_c (Z' := wset Z 11 (Z 11)) (by first | (simp [wset]; done) | (simp only [wset]; split <;> first | (exfalso; omega) | simp))).trans ce_s0) rfl 2 (by decide) hk0 rfl dX6_undo_1 ?_
  have hW := wW_eq (Z' := (wset Z 11 (Z 11))) hW (by
    funext i9
    by_cases e0 : i9 = 11
    all_goals first | (simp [wset, e0]; done) | (exfalso; omega) | (subst_vars; simp [wset]; done) | (subst_vars; simp_all [wset]; done))
  refine wc_q hC hml (kX1_latest l G Z (Z 11)) (cwV 0 hts gX6_undo_X1_latest rfl rfl rfl (by decide +kernel) ⟨Nat.le_of_ble_eq_true rfl, Nat.le_of_ble_eq_true rfl⟩) hW hS (vS (by decide)) ce_s1 rfl rfl rfl rfl hl.1 (Nat.le_of_ble_eq_true rfl) dX6_undo_4 (fun H locs hW hS => ?_)
  by_cases c_1 : hX1_latest (Z 11)
  · have h9 := latest_lt c_1
    refine lv_rev (v' := .ref (G.2.2.1 (4 + (fX1_placeOfLatest (Z 11)).toNatClampNeg) 0)) (congrArg va_rf (if_pos c_1)) ?_
    refine lv_astore_n (lv' := [(1, .ref (G.2.2.1 (4 + (fX1_placeOfLatest (Z 11)).toNatClampNeg) 0)), (0, .ref (G.2.2.1 11 0))]) hx hb dX6_undo_7 rfl hl (by decide) rfl (fun ls hl => ?_)
    refine lv_aload_n hx hb dX6_undo_8 rfl (lv_at hl 0 rfl) ?_
    refine lv_ifnonnull (tgt := 15) hx hb dX6_undo_9 (by decide) ?_
    refine lv_aload_n hx hb dX6_undo_15 rfl (lv_at hl 1 rfl) ?_
    refine wr_get hC hinRX6 hW (vS (by decide)) ce_s0 rfl 0 (by decide) hk1 rfl dX6_undo_16 ?_
    refine lv_aload_n hx hb dX6_undo_19 rfl (lv_at hl 0 rfl) ?_
    have hW := wW_eq (Z' := Z) hW (by
      funext i9
      by_cases e0 : i9 = 11
      all_goals first | (simp [wset, e0]; done) | (exfalso; omega) | (subst_vars; simp [wset]; done) | (subst_vars; simp_all [wset]; done))
    have hW := wW_eq (Z' := (wset Z 0 (Z 0))) hW (by
      funext i9
      by_cases e0 : i9 = 0
      all_goals first | (simp [wset, e0]; done) | (exfalso; omega) | (subst_vars; simp [wset]; done) | (subst_vars; simp_all [wset]; done))
    refine wc_v hC hml (kX0_take l G Z 0 (by decide) (4 + (fX1_placeOfLatest (Z 11)).toNatClampNeg) (by omega) (by omega) (Z 0)) (cwV 1 hts gX6_undo_X0_take rfl rfl rfl (by decide +kernel) ⟨Nat.le_of_ble_eq_true rfl, Nat.le_of_ble_eq_true rfl⟩) hW hS (vB (by decide) (by decide)) (ce_b0 (by decide)) rfl rfl rfl rfl hl.1 (Nat.le_of_ble_eq_true rfl) dX6_undo_20 (fun H locs hW hS => ?_)
    refine lv_aload_n hx hb dX6_undo_23 rfl (lv_at hl 1 rfl) ?_
    refine wr_get hC hinRX6 hW (vS (by decide)) ((wE_c (Z' := wset Z 11 (Z 11)) (by first | (simp [wset]; done) | (simp only [wset]; split <;> first | (exfalso; omega) | simp))).trans ce_s0) rfl 2 (by decide) hk0 rfl dX6_undo_24 ?_
    have hW := wW_eq (Z' := (wset (wset Z 0 (Z (4 + (fX1_placeOfLatest (Z 11)).toNatClampNeg))) 11 (Z 11))) hW (by
      funext i9
      by_cases e0 : i9 = 0
      all_goals by_cases e1 : i9 = 11
      all_goals first | (simp [wset, e0, e1]; done) | (exfalso; omega) | (subst_vars; simp [wset]; done) | (subst_vars; simp_all [wset]; done))
    refine wc_v hC hml (kX1_dropLatest l G (wset Z 0 (Z (4 + (fX1_placeOfLatest (Z 11)).toNatClampNeg))) (Z 11)) (cwV 0 hts gX6_undo_X1_dropLatest rfl rfl rfl (by decide +kernel) ⟨Nat.le_of_ble_eq_true rfl, Nat.le_of_ble_eq_true rfl⟩) hW hS (vS (by decide)) ce_s1 rfl rfl rfl rfl hl.1 (Nat.le_of_ble_eq_true rfl) dX6_undo_27 (fun H locs hW hS => ?_)
    obtain ⟨B_2, eB_2⟩ : ∃ y, y = fX1_dropLatest (Z 11) := ⟨_, rfl⟩
    rw [← eB_2] at hW
    refine lv_aload_n hx hb dX6_undo_30 rfl (lv_at hl 1 rfl) ?_
    refine wr_get hC hinRX6 hW (vS (by decide)) ce_s0 rfl 2 (by decide) hk0 rfl dX6_undo_31 ?_
    refine wr_get hC hinRX1 hW (vS (by decide)) ce_s1 rfl 2 (by decide) hk2 rfl dX6_undo_34 ?_
    have hf : fX6_undo Z = ((wset (wset Z 0 (Z (4 + (fX1_placeOfLatest (Z 11)).toNatClampNeg))) 11 B_2), B_2 1 1) := by
      subst eB_2
      exact (if_pos c_1).trans rfl
    exact we_i hC hr hlocks (congrArg Prod.snd hf).symm (congrArg Prod.fst hf).symm hW hS dX6_undo_37
  · refine lv_rev (v' := .null) (congrArg va_rf (if_neg c_1)) ?_
    refine lv_astore_nN (lv' := [(1, .null), (0, .ref (G.2.2.1 11 0))]) hx hb dX6_undo_7 rfl hl (by decide) rfl (fun ls hl => ?_)
    refine lv_aload_nN hx hb dX6_undo_8 rfl (lv_at hl 0 rfl) ?_
    refine lv_ifnonnullN hx hb dX6_undo_9 ?_
    refine lv_bipush (v := (-5)) hx hb dX6_undo_12 (by decide) ?_
    have hW := wW_eq (Z' := Z) hW (by
      funext i9
      by_cases e0 : i9 = 11
      all_goals first | (simp [wset, e0]; done) | (exfalso; omega) | (subst_vars; simp [wset]; done) | (subst_vars; simp_all [wset]; done))
    have hf : fX6_undo Z = (Z, (-5)) := (if_neg c_1).trans rfl
    exact we_i hC hr hlocks (congrArg Prod.snd hf).symm (congrArg Prod.fst hf).symm hW hS dX6_undo_14
def fX6_save (Z : wZ) (a1 : Int32) : wZ × Int32 :=
  if a1 < 0 then (Z, (-2))
  else if a1 < 2 then ((wset (wset Z (2 + a1.toNatClampNeg) (Z 0)) 11 (bput (Z 11) 4 a1.toNatClampNeg (vp_nar .boolean 1))), (Z 0) 0 0)
  else (Z, (-2))
abbrev rX6_save : Room := { frames := 2, cells := 0, slots := 0, locals := 44 }
set_option maxHeartbeats 4000000 in
set_option maxRecDepth 100000 in
theorem kX6_save (l : Launch) (G : wG) (Z : wZ)  (a1 : Int32)  : mI l yX6_save wsX6_save rX6_save G [.ref (G.2.2.1 11 0), .int a1] Z (fX6_save Z a1).2 (fX6_save Z a1).1 := by
  refine Met.ofW (cc := cX6_save) (maxL := 2) (ret := (some .int)) (by decide) rfl ?_
  intro p e s m args below meth c s₁ B0 hml hv
  obtain ⟨rfl, hW, hK, hL⟩ := hv
  have hlocks := B0.notSynchronized
  have hr := B0.returns
  have hC : wX p s m c cX6_save _ wsX6_save RX6 G := ⟨B0.exec, B0.bytes, findClass_of_methodNamed B0.named, atoms_spec (ws := wsX6_save) B0.pre, hK, hL⟩
  have hx := hC.1
  have hb := hC.2.1
  have hts := hC.2.2.2.1
  have hinRX0 : ∀ w ∈ wsX00, w ∈ wsX6_save := by decide +kernel
  have hinRX6 : ∀ w ∈ wsX60, w ∈ wsX6_save := by decide +kernel
  have hk0 := hts (.fieldLink RX6 26 "RampShafts" "slots" "[LRampShafts$Bench;") (by decide +kernel)
  have hk1 := hts (.fieldLink RX6 10 "RampShafts" "bench" "LRampShafts$Bench;") (by decide +kernel)
  have hk2 := hts (.fieldLink RX6 30 "RampShafts" "saved" "[Z") (by decide +kernel)
  have hk3 := hts (.fieldLink RX6 150 "RampShafts$Bench" "shaftCount" "I") (by decide +kernel)
  have hS : va_S (wA G) s.heap s.heap [] := va_S.rf
  have hl := lv_entry ([.ref (G.2.2.1 11 0), .int a1]) (n := 2) (Nat.le_of_ble_eq_true rfl)
  rw [lg_entry_eq]
  generalize (lg_sl ([.ref (G.2.2.1 11 0), .int a1]) ++ List.replicate (2 - (lg_sl ([.ref (G.2.2.1 11 0), .int a1])).length) Slot.unset).toArray = ls at hl ⊢
  have hl : lv_has ls 2 [(0, .ref (G.2.2.1 11 0)), (1, .int a1)] := hl
  refine lv_iload_n hx hb dX6_save_0 rfl (lv_at hl 1 rfl) ?_
  refine lv_if_lt (tgt := 9) hx hb dX6_save_1 (by decide) (fun c_1 => ?_) (fun c_1 => ?_)
  · skip
    refine lv_bipush (v := (-2)) hx hb dX6_save_9 (by decide) ?_
    have hf : fX6_save Z a1 = (Z, (-2)) := (if_pos c_1).trans rfl
    exact we_i hC hr hlocks (congrArg Prod.snd hf).symm (congrArg Prod.fst hf).symm hW hS dX6_save_11
  · skip
    refine lv_iload_n hx hb dX6_save_4 rfl (lv_at hl 1 rfl) ?_
    refine lv_iconst (v := 2) hx hb dX6_save_5 (by decide) ?_
    refine lv_icmp_lt (tgt := 12) hx hb dX6_save_6 (by decide) (fun c_2 => ?_) (fun c_2 => ?_)
    · skip
      refine lv_aload_n hx hb dX6_save_12 rfl (lv_at hl 0 rfl) ?_
      refine wr_get hC hinRX6 hW (vS (by decide)) ((wE_c (Z' := wset Z 11 (Z 11)) (by first | (simp [wset]; done) | (simp only [wset]; split <;> first | (exfalso; omega) | simp))).trans ce_s0) rfl 3 (by decide) hk0 rfl dX6_save_13 ?_
      refine lv_iload_n hx hb dX6_save_16 rfl (lv_at hl 1 rfl) ?_
      have hv_3 : vp_in a1 2 := in_lt (N := 2) (by decide) (by decide) c_1 c_2
      refine wr_aald (v := .ref (G.2.2.1 (2 + a1.toNatClampNeg) 0)) (kA := 4) hC hW (vS (by decide)) ((wE_c (Z' := wset Z 11 (Z 11)) (by first | (simp [wset]; done) | (simp only [wset]; split <;> first | (exfalso; omega) | simp))).trans ce_s3) rfl hv_3 rfl dX6_save_17 ?_
      have hv_3l := vp_lt hv_3
      refine lv_aload_n hx hb dX6_save_18 rfl (lv_at hl 0 rfl) ?_
      refine wr_get hC hinRX6 hW (vS (by decide)) ((wE_c (Z' := wset Z 11 (Z 11)) (by first | (simp [wset]; done) | (simp only [wset]; split <;> first | (exfalso; omega) | simp))).trans ce_s0) rfl 0 (by decide) hk1 rfl dX6_save_19 ?_
      have hW := wW_eq (Z' := (wset Z (2 + a1.toNatClampNeg) (Z (2 + a1.toNatClampNeg)))) hW (by
        funext i9
        by_cases e0 : i9 = (2 + a1.toNatClampNeg)
        all_goals first | (simp [wset, e0]; done) | (exfalso; omega) | (subst_vars; simp [wset]; done) | (subst_vars; simp_all [wset]; done))
      refine wc_v hC hml (kX0_take l G Z (2 + a1.toNatClampNeg) (by have h9 := vp_lt hv_3; omega) 0 (by decide) (by omega) (Z (2 + a1.toNatClampNeg))) (cwV 1 hts gX6_save_X0_take rfl rfl rfl (by decide +kernel) ⟨Nat.le_of_ble_eq_true rfl, Nat.le_of_ble_eq_true rfl⟩) hW hS (vB (by have h9 := vp_lt hv_3; omega) (by decide)) (ce_b0 (by have h9 := vp_lt hv_3; omega)) rfl rfl rfl rfl hl.1 (Nat.le_of_ble_eq_true rfl) dX6_save_22 (fun H locs hW hS => ?_)
      refine lv_aload_n hx hb dX6_save_25 rfl (lv_at hl 0 rfl) ?_
      refine wr_get hC hinRX6 hW (vS (by decide)) ((wE_c (Z' := wset Z 11 (Z 11)) (by first | (simp [wset]; done) | (simp only [wset]; split <;> first | (exfalso; omega) | simp))).trans ce_s0) rfl 4 (by decide) hk2 rfl dX6_save_26 ?_
      refine lv_iload_n hx hb dX6_save_29 rfl (lv_at hl 1 rfl) ?_
      refine lv_iconst (v := 1) hx hb dX6_save_30 (by decide) ?_
      have hW := wW_eq (Z' := (wset (wset Z (2 + a1.toNatClampNeg) (Z 0)) 11 (Z 11))) hW (by
        funext i9
        by_cases e0 : i9 = (2 + a1.toNatClampNeg)
        all_goals by_cases e1 : i9 = 11
        all_goals first | (simp [wset, e0, e1]; done) | (exfalso; omega) | (subst_vars; simp [wset]; done) | (subst_vars; simp_all [wset]; done))
      have hv_4 : vp_in a1 2 := in_lt (N := 2) (by decide) (by decide) c_1 c_2
      refine wr_zast (kA := 1) (Z' := wset (wset Z (2 + a1.toNatClampNeg) (Z 0)) 11 (bput (Z 11) 4 a1.toNatClampNeg (vp_nar .boolean 1))) hC hW hS (vS (by decide)) ce_s4 rfl hv_4 wset_off pu_s4 dX6_save_31 (fun H locs hW hS => ?_)
      refine lv_aload_n hx hb dX6_save_32 rfl (lv_at hl 0 rfl) ?_
      refine wr_get hC hinRX6 hW (vS (by decide)) ce_s0 rfl 0 (by decide) hk1 rfl dX6_save_33 ?_
      refine wr_get hC hinRX0 hW (vB (by decide) (by decide)) ((wE_c (Z' := wset Z 0 (Z 0)) (by first | (simp [wset]; done) | (simp only [wset]; split <;> first | (exfalso; omega) | simp))).trans (ce_b0 (by decide))) rfl 5 (by decide) hk3 rfl dX6_save_36 ?_
      have hf : fX6_save Z a1 = ((wset (wset Z (2 + a1.toNatClampNeg) (Z 0)) 11 (bput (Z 11) 4 a1.toNatClampNeg (vp_nar .boolean 1))), (Z 0) 0 0) := (if_neg c_1).trans ((if_pos c_2).trans rfl)
      exact we_i hC hr hlocks (congrArg Prod.snd hf).symm (congrArg Prod.fst hf).symm hW hS dX6_save_39
    · skip
      refine lv_bipush (v := (-2)) hx hb dX6_save_9 (by decide) ?_
      have hf : fX6_save Z a1 = (Z, (-2)) := (if_neg c_1).trans ((if_neg c_2).trans rfl)
      exact we_i hC hr hlocks (congrArg Prod.snd hf).symm (congrArg Prod.fst hf).symm hW hS dX6_save_11
def fX6_restore (Z : wZ) (a1 : Int32) : wZ × Int32 :=
  if a1 < 0 then (Z, (-2))
  else if a1 < 2 then (if ((Z 11) 4 a1.toNatClampNeg) = 0 then (Z, (-5))
    else let Z_5 := fX1_mark Z
    let Q_7 := fX6_recorded (wset Z_5 0 (Z_5 (2 + a1.toNatClampNeg))) ((Z_5 (2 + a1.toNatClampNeg)) 0 0)
    (Q_7.1, Q_7.2))
  else (Z, (-2))
abbrev rX6_restore : Room := { frames := 3, cells := 0, slots := 0, locals := 65 }
set_option maxHeartbeats 4000000 in
set_option maxRecDepth 100000 in
theorem kX6_restore (l : Launch) (G : wG) (Z : wZ)  (a1 : Int32)  : mI l yX6_restore wsX6_restore rX6_restore G [.ref (G.2.2.1 11 0), .int a1] Z (fX6_restore Z a1).2 (fX6_restore Z a1).1 := by
  refine Met.ofW (cc := cX6_restore) (maxL := 2) (ret := (some .int)) (by decide) rfl ?_
  intro p e s m args below meth c s₁ B0 hml hv
  obtain ⟨rfl, hW, hK, hL⟩ := hv
  have hlocks := B0.notSynchronized
  have hr := B0.returns
  have hC : wX p s m c cX6_restore _ wsX6_restore RX6 G := ⟨B0.exec, B0.bytes, findClass_of_methodNamed B0.named, atoms_spec (ws := wsX6_restore) B0.pre, hK, hL⟩
  have hx := hC.1
  have hb := hC.2.1
  have hts := hC.2.2.2.1
  have hinRX0 : ∀ w ∈ wsX00, w ∈ wsX6_restore := by decide +kernel
  have hinRX6 : ∀ w ∈ wsX60, w ∈ wsX6_restore := by decide +kernel
  have hk0 := hts (.fieldLink RX6 30 "RampShafts" "saved" "[Z") (by decide +kernel)
  have hk1 := hts (.fieldLink RX6 22 "RampShafts" "history" "LRampShafts$History;") (by decide +kernel)
  have hk2 := hts (.fieldLink RX6 10 "RampShafts" "bench" "LRampShafts$Bench;") (by decide +kernel)
  have hk3 := hts (.fieldLink RX6 26 "RampShafts" "slots" "[LRampShafts$Bench;") (by decide +kernel)
  have hk4 := hts (.fieldLink RX6 150 "RampShafts$Bench" "shaftCount" "I") (by decide +kernel)
  have hS : va_S (wA G) s.heap s.heap [] := va_S.rf
  have hl := lv_entry ([.ref (G.2.2.1 11 0), .int a1]) (n := 2) (Nat.le_of_ble_eq_true rfl)
  rw [lg_entry_eq]
  generalize (lg_sl ([.ref (G.2.2.1 11 0), .int a1]) ++ List.replicate (2 - (lg_sl ([.ref (G.2.2.1 11 0), .int a1])).length) Slot.unset).toArray = ls at hl ⊢
  have hl : lv_has ls 2 [(0, .ref (G.2.2.1 11 0)), (1, .int a1)] := hl
  refine lv_iload_n hx hb dX6_restore_0 rfl (lv_at hl 1 rfl) ?_
  refine lv_if_lt (tgt := 9) hx hb dX6_restore_1 (by decide) (fun c_1 => ?_) (fun c_1 => ?_)
  · skip
    refine lv_bipush (v := (-2)) hx hb dX6_restore_9 (by decide) ?_
    have hf : fX6_restore Z a1 = (Z, (-2)) := (if_pos c_1).trans rfl
    exact we_i hC hr hlocks (congrArg Prod.snd hf).symm (congrArg Prod.fst hf).symm hW hS dX6_restore_11
  · skip
    refine lv_iload_n hx hb dX6_restore_4 rfl (lv_at hl 1 rfl) ?_
    refine lv_iconst (v := 2) hx hb dX6_restore_5 (by decide) ?_
    refine lv_icmp_lt (tgt := 12) hx hb dX6_restore_6 (by decide) (fun c_2 => ?_) (fun c_2 => ?_)
    · skip
      refine lv_aload_n hx hb dX6_restore_12 rfl (lv_at hl 0 rfl) ?_
      refine wr_get hC hinRX6 hW (vS (by decide)) ((wE_c (Z' := wset Z 11 (Z 11)) (by first | (simp [wset]; done) | (simp only [wset]; split <;> first | (exfalso; omega) | simp))).trans ce_s0) rfl 4 (by decide) hk0 rfl dX6_restore_13 ?_
      refine lv_iload_n hx hb dX6_restore_16 rfl (lv_at hl 1 rfl) ?_
      have hv_3 : vp_in a1 2 := in_lt (N := 2) (by decide) (by decide) c_1 c_2
      refine wr_zald (kA := 1) hC hW (vS (by decide)) ((wE_c (Z' := wset Z 11 (Z 11)) (by first | (simp [wset]; done) | (simp only [wset]; split <;> first | (exfalso; omega) | simp))).trans ce_s4) rfl hv_3 dX6_restore_17 ?_
      refine lv_if_ne (tgt := 24) hx hb dX6_restore_18 (by decide) (fun c_4 => ?_) (fun c_4 => ?_)
      · skip
        refine lv_aload_n hx hb dX6_restore_24 rfl (lv_at hl 0 rfl) ?_
        refine wr_get hC hinRX6 hW (vS (by decide)) ((wE_c (Z' := wset Z 11 (Z 11)) (by first | (simp [wset]; done) | (simp only [wset]; split <;> first | (exfalso; omega) | simp))).trans ce_s0) rfl 2 (by decide) hk1 rfl dX6_restore_25 ?_
        refine lv_aload_n hx hb dX6_restore_28 rfl (lv_at hl 0 rfl) ?_
        refine wr_get hC hinRX6 hW (vS (by decide)) ((wE_c (Z' := wset Z 11 (Z 11)) (by first | (simp [wset]; done) | (simp only [wset]; split <;> first | (exfalso; omega) | simp))).trans ce_s0) rfl 0 (by decide) hk2 rfl dX6_restore_29 ?_
        refine wc_v hC hml (kX1_mark l G Z) (cwV 1 hts gX6_restore_X1_mark rfl rfl rfl (by decide +kernel) ⟨Nat.le_of_ble_eq_true rfl, Nat.le_of_ble_eq_true rfl⟩) hW hS (vS (by decide)) ((wE_c (Z' := wset Z 11 (Z 11)) (by first | (simp [wset]; done) | (simp only [wset]; split <;> first | (exfalso; omega) | simp))).trans ce_s1) rfl rfl rfl rfl hl.1 (Nat.le_of_ble_eq_true rfl) dX6_restore_32 (fun H locs hW hS => ?_)
        obtain ⟨Z_5, eZ_5⟩ : ∃ y, y = fX1_mark Z := ⟨_, rfl⟩
        rw [← eZ_5] at hW
        refine lv_aload_n hx hb dX6_restore_35 rfl (lv_at hl 0 rfl) ?_
        refine wr_get hC hinRX6 hW (vS (by decide)) ((wE_c (Z' := wset Z_5 11 (Z_5 11)) (by first | (simp [wset]; done) | (simp only [wset]; split <;> first | (exfalso; omega) | simp))).trans ce_s0) rfl 0 (by decide) hk2 rfl dX6_restore_36 ?_
        refine lv_aload_n hx hb dX6_restore_39 rfl (lv_at hl 0 rfl) ?_
        refine wr_get hC hinRX6 hW (vS (by decide)) ((wE_c (Z' := wset Z_5 11 (Z_5 11)) (by first | (simp [wset]; done) | (simp only [wset]; split <;> first | (exfalso; omega) | simp))).trans ce_s0) rfl 3 (by decide) hk3 rfl dX6_restore_40 ?_
        refine lv_iload_n hx hb dX6_restore_43 rfl (lv_at hl 1 rfl) ?_
        have hv_6 : vp_in a1 2 := in_lt (N := 2) (by decide) (by decide) c_1 c_2
        refine wr_aald (v := .ref (G.2.2.1 (2 + a1.toNatClampNeg) 0)) (kA := 4) hC hW (vS (by decide)) ((wE_c (Z' := wset Z_5 11 (Z_5 11)) (by first | (simp [wset]; done) | (simp only [wset]; split <;> first | (exfalso; omega) | simp))).trans ce_s3) rfl hv_6 rfl dX6_restore_44 ?_
        have hv_6l := vp_lt hv_6
        have hW := wW_eq (Z' := (wset Z_5 0 (Z_5 0))) hW (by
          funext i9
          by_cases e0 : i9 = 0
          all_goals first | (simp [wset, e0]; done) | (exfalso; omega) | (subst_vars; simp [wset]; done) | (subst_vars; simp_all [wset]; done))
        refine wc_v hC hml (kX0_take l G Z_5 0 (by decide) (2 + a1.toNatClampNeg) (by have h9 := vp_lt hv_6; omega) (by omega) (Z_5 0)) (cwV 1 hts gX6_restore_X0_take rfl rfl rfl (by decide +kernel) ⟨Nat.le_of_ble_eq_true rfl, Nat.le_of_ble_eq_true rfl⟩) hW hS (vB (by decide) (by decide)) (ce_b0 (by decide)) rfl rfl rfl rfl hl.1 (Nat.le_of_ble_eq_true rfl) dX6_restore_45 (fun H locs hW hS => ?_)
        refine lv_aload_n hx hb dX6_restore_48 rfl (lv_at hl 0 rfl) ?_
        refine lv_aload_n hx hb dX6_restore_49 rfl (lv_at hl 0 rfl) ?_
        refine wr_get hC hinRX6 hW (vS (by decide)) ((wE_c (Z' := wset Z_5 11 (Z_5 11)) (by first | (simp [wset]; done) | (simp only [wset]; split <;> first | (exfalso; omega) | simp))).trans ce_s0) rfl 0 (by decide) hk2 rfl dX6_restore_50 ?_
        refine wr_get hC hinRX0 hW (vB (by decide) (by decide)) (ce_b0 (by decide)) rfl 5 (by decide) hk4 rfl dX6_restore_53 ?_
        refine wc_i hC hml (kX6_recorded l G (wset Z_5 0 (Z_5 (2 + a1.toNatClampNeg))) ((Z_5 (2 + a1.toNatClampNeg)) 0 0)) (cwV 1 hts gX6_restore_X6_recorded rfl rfl rfl (by decide +kernel) ⟨Nat.le_of_ble_eq_true rfl, Nat.le_of_ble_eq_true rfl⟩) hW hS (vS (by decide)) ((wE_c (Z' := wset Z_5 11 (Z_5 11)) (by first | (simp [wset]; done) | (simp only [wset]; split <;> first | (exfalso; omega) | simp))).trans ce_s0) rfl rfl rfl rfl hl.1 (Nat.le_of_ble_eq_true rfl) dX6_restore_56 (fun H locs hW hS => ?_)
        obtain ⟨Q_7, eQ_7⟩ : ∃ y, y = fX6_recorded (wset Z_5 0 (Z_5 (2 + a1.toNatClampNeg))) ((Z_5 (2 + a1.toNatClampNeg)) 0 0) := ⟨_, rfl⟩
        rw [← eQ_7] at hW ⊢
        have hf : fX6_restore Z a1 = (Q_7.1, Q_7.2) := by
          subst eQ_7
          subst eZ_5
          exact (if_neg c_1).trans ((if_pos c_2).trans ((if_neg c_4).trans rfl))
        exact we_i hC hr hlocks (congrArg Prod.snd hf).symm (congrArg Prod.fst hf).symm hW hS dX6_restore_59
      · skip
        refine lv_bipush (v := (-5)) hx hb dX6_restore_21 (by decide) ?_
        have hf : fX6_restore Z a1 = (Z, (-5)) := (if_neg c_1).trans ((if_pos c_2).trans ((if_pos c_4).trans rfl))
        exact we_i hC hr hlocks (congrArg Prod.snd hf).symm (congrArg Prod.fst hf).symm hW hS dX6_restore_23
    · skip
      refine lv_bipush (v := (-2)) hx hb dX6_restore_9 (by decide) ?_
      have hf : fX6_restore Z a1 = (Z, (-2)) := (if_neg c_1).trans ((if_neg c_2).trans rfl)
      exact we_i hC hr hlocks (congrArg Prod.snd hf).symm (congrArg Prod.fst hf).symm hW hS dX6_restore_11

def fX4_readOrder (B : wB) : wB × Int32 :=
  let x_1 := fX2_signAt B (B 5 0)
  if x_1 = 104 then (let B_3 := (bput (bput B 5 1 x_1) 5 0 ((B 5 0) + 1))
    let P_4 := fX4_readDigit B_3
    (P_4.1, P_4.2))
  else if x_1 = 105 then ((bput B 5 1 x_1), 0)
  else if x_1 = 106 then ((bput B 5 1 x_1), 0)
  else if x_1 = 107 then ((bput B 5 1 x_1), 0)
  else if x_1 = 108 then (let B_9 := (bput (bput B 5 1 x_1) 5 0 ((B 5 0) + 1))
    let P_10 := fX4_readDigit B_9
    if P_10.2 = 0 then (P_10.1, 0)
    else let P_12 := fX4_skip P_10.1 61
    if P_12.2 = 0 then (P_12.1, 0)
    else let P_14 := fX4_readLoad P_12.1
    if P_14.2 = 0 then (P_14.1, 0)
    else (P_14.1, 1))
  else if x_1 = 109 then (let B_17 := (bput (bput B 5 1 x_1) 5 0 ((B 5 0) + 1))
    let P_18 := fX4_readDigit B_17
    if P_18.2 = 0 then (P_18.1, 0)
    else let P_20 := fX4_skip P_18.1 64
    if P_20.2 = 0 then (P_20.1, 0)
    else let P_22 := fX4_readPlace P_20.1
    if P_22.2 = 0 then (P_22.1, 0)
    else (P_22.1, 1))
  else if x_1 = 110 then (let B_25 := (bput (bput B 5 1 x_1) 5 0 ((B 5 0) + 1))
    let P_26 := fX4_readDigit B_25
    (P_26.1, P_26.2))
  else if x_1 = 111 then ((bput B 5 1 x_1), 0)
  else if x_1 = 112 then (let B_29 := (bput (bput B 5 1 x_1) 5 0 ((B 5 0) + 1))
    let P_30 := fX4_readNumber B_29
    if P_30.2 = 0 then (P_30.1, 0)
    else let P_32 := fX4_skip P_30.1 58
    if P_32.2 = 0 then (P_32.1, 0)
    else let P_34 := fX4_readDigit P_32.1
    if P_34.2 = 0 then (P_34.1, 0)
    else let P_36 := fX4_skip P_34.1 64
    if P_36.2 = 0 then (P_36.1, 0)
    else let P_38 := fX4_readPlace P_36.1
    if P_38.2 = 0 then (P_38.1, 0)
    else (P_38.1, 1))
  else if x_1 = 113 then ((bput B 5 1 x_1), 0)
  else if x_1 = 114 then ((bput B 5 1 x_1), 0)
  else if x_1 = 115 then (let B_43 := (bput (bput B 5 1 x_1) 5 0 ((B 5 0) + 1))
    let P_44 := fX4_readDigit B_43
    (P_44.1, P_44.2))
  else if x_1 = 116 then (let B_46 := (bput (bput B 5 1 x_1) 5 0 ((B 5 0) + 1))
    let P_47 := fX4_readNumber B_46
    (P_47.1, P_47.2))
  else ((bput B 5 1 x_1), 0)
abbrev rX4_readOrder : Room := { frames := 4, cells := 0, slots := 0, locals := 87 }
set_option maxHeartbeats 4000000 in
set_option maxRecDepth 100000 in
theorem kX4_readOrder (l : Launch) (G : wG) (Z : wZ) (B : wB)   : mI l yX4_readOrder wsX4_readOrder rX4_readOrder G [.ref (G.2.2.1 11 5)] (wset Z 11 B) (fX4_readOrder B).2 (wset Z 11 (fX4_readOrder B).1) := by
  refine Met.ofW (cc := cX4_readOrder) (maxL := 1) (ret := (some .boolean)) (by decide) rfl ?_
  intro p e s m args below meth c s₁ B0 hml hv
  obtain ⟨rfl, hW, hK, hL⟩ := hv
  have hlocks := B0.notSynchronized
  have hr := B0.returns
  have hC : wX p s m c cX4_readOrder _ wsX4_readOrder RX4 G := ⟨B0.exec, B0.bytes, findClass_of_methodNamed B0.named, atoms_spec (ws := wsX4_readOrder) B0.pre, hK, hL⟩
  have hx := hC.1
  have hb := hC.2.1
  have hts := hC.2.2.2.1
  have hinRX4 : ∀ w ∈ wsX40, w ∈ wsX4_readOrder := by decide +kernel
  have hk0 := hts (.fieldLink RX4 12 "RampShafts$Reader" "pad" "LRampShafts$Pad;") (by decide +kernel)
  have hk1 := hts (.fieldLink RX4 18 "RampShafts$Reader" "at" "I") (by decide +kernel)
  have hk2 := hts (.fieldLink RX4 40 "RampShafts$Reader" "order" "I") (by decide +kernel)
  have hS : va_S (wA G) s.heap s.heap [] := va_S.rf
  have hl := lv_entry ([.ref (G.2.2.1 11 5)]) (n := 1) (Nat.le_of_ble_eq_true rfl)
  rw [lg_entry_eq]
  generalize (lg_sl ([.ref (G.2.2.1 11 5)]) ++ List.replicate (1 - (lg_sl ([.ref (G.2.2.1 11 5)])).length) Slot.unset).toArray = ls at hl ⊢
  have hl : lv_has ls 1 [(0, .ref (G.2.2.1 11 5))] := hl
  refine lv_aload_n hx hb dX4_readOrder_0 rfl (lv_at hl 0 rfl) ?_
  refine lv_aload_n hx hb dX4_readOrder_1 rfl (lv_at hl 0 rfl) ?_
  refine wr_get hC hinRX4 hW (vS (by decide)) ce_s5 rfl 0 (by decide) hk0 rfl dX4_readOrder_2 ?_
  refine lv_aload_n hx hb dX4_readOrder_5 rfl (lv_at hl 0 rfl) ?_
  refine wr_get hC hinRX4 hW (vS (by decide)) ce_s5 rfl 1 (by decide) hk1 rfl dX4_readOrder_6 ?_
  refine wc_i hC hml (kX2_signAt l G Z B (B 5 0)) (cwV 1 hts gX4_readOrder_X2_signAt rfl rfl rfl (by decide +kernel) ⟨Nat.le_of_ble_eq_true rfl, Nat.le_of_ble_eq_true rfl⟩) hW hS (vS (by decide)) ce_s6 rfl rfl rfl rfl hl.1 (Nat.le_of_ble_eq_true rfl) dX4_readOrder_9 (fun H locs hW hS => ?_)
  refine lv_topi (fun x_1 ex_1 => ?_)
  refine wr_put (Z' := wset Z 11 (bput B 5 1 x_1)) (v := .int x_1) hC hinRX4 tyX4 tyX4_ok nmX4 hW hS (vS (by decide)) ce_s5 rfl 2 (by decide) hk2 rfl (tyX4_ok 2 (by decide)) rfl rfl (Nat.le_of_ble_eq_true rfl) wset_off pu_s5_1 dX4_readOrder_12 (fun H locs hW hS => ?_)
  refine lv_aload_n hx hb dX4_readOrder_15 rfl (lv_at hl 0 rfl) ?_
  refine wr_get hC hinRX4 hW (vS (by decide)) ce_s5 rfl 2 (by decide) hk2 rfl dX4_readOrder_16 ?_
  refine lv_re (y := x_1) (bput_h) ?_
  by_cases c_2 : x_1 = 104
  · refine lv_re c_2 ?_
    refine lv_tableIn (tgt := 84) (off := 65) hx hb dX4_readOrder_19 (by decide) (by decide) (by decide) (by decide) ?_
    refine lv_aload_n hx hb dX4_readOrder_84 rfl (lv_at hl 0 rfl) ?_
    refine lv_dup hx hb dX4_readOrder_85 rfl ?_
    refine wr_get hC hinRX4 hW (vS (by decide)) ce_s5 rfl 1 (by decide) hk1 rfl dX4_readOrder_86 ?_
    refine lv_re (y := B 5 0) (bput_q (by decide)) ?_
    refine lv_iconst (v := 1) hx hb dX4_readOrder_89 (by decide) ?_
    refine lv_iadd hx hb dX4_readOrder_90 ?_
    refine wr_put (Z' := wset Z 11 (bput (bput B 5 1 x_1) 5 0 ((B 5 0) + 1))) (v := .int ((B 5 0) + 1)) hC hinRX4 tyX4 tyX4_ok nmX4 hW hS (vS (by decide)) ce_s5 rfl 1 (by decide) hk1 rfl (tyX4_ok 1 (by decide)) rfl rfl (Nat.le_of_ble_eq_true rfl) wset_off pu_s5_0 dX4_readOrder_91 (fun H locs hW hS => ?_)
    refine lv_aload_n hx hb dX4_readOrder_94 rfl (lv_at hl 0 rfl) ?_
    obtain ⟨B_3, eB_3⟩ : ∃ y, y = (bput (bput B 5 1 x_1) 5 0 ((B 5 0) + 1)) := ⟨_, rfl⟩
    rw [← eB_3] at hW
    refine wc_i hC hml (kX4_readDigit l G Z B_3) (cwV 0 hts gX4_readOrder_X4_readDigit rfl rfl rfl (by decide +kernel) ⟨Nat.le_of_ble_eq_true rfl, Nat.le_of_ble_eq_true rfl⟩) hW hS (vS (by decide)) ce_s5 rfl rfl rfl rfl hl.1 (Nat.le_of_ble_eq_true rfl) dX4_readOrder_95 (fun H locs hW hS => ?_)
    obtain ⟨P_4, eP_4⟩ : ∃ y, y = fX4_readDigit B_3 := ⟨_, rfl⟩
    rw [← eP_4] at hW ⊢
    have hf : fX4_readOrder B = (P_4.1, P_4.2) := by
      subst eP_4
      subst eB_3
      subst ex_1
      exact (if_pos c_2).trans rfl
    exact we_z hC hr hlocks (by rw [eP_4]; exact nbX4_readDigit) (congrArg Prod.snd hf).symm (congrArg (fun u => wset Z 11 u.1) hf).symm hW hS dX4_readOrder_98
  by_cases c_5 : x_1 = 105
  · refine lv_re c_5 ?_
    refine lv_tableIn (tgt := 247) (off := 228) hx hb dX4_readOrder_19 (by decide) (by decide) (by decide) (by decide) ?_
    refine lv_iconst (v := 0) hx hb dX4_readOrder_247 (by decide) ?_
    have hf : fX4_readOrder B = ((bput B 5 1 x_1), 0) := by
      subst ex_1
      exact (if_neg c_2).trans ((if_pos c_5).trans rfl)
    exact we_z hC hr hlocks (by first | rfl | decide | assumption | exact nar_char_i _) (congrArg Prod.snd hf).symm (congrArg (fun u => wset Z 11 u.1) hf).symm hW hS dX4_readOrder_248
  by_cases c_6 : x_1 = 106
  · refine lv_re c_6 ?_
    refine lv_tableIn (tgt := 247) (off := 228) hx hb dX4_readOrder_19 (by decide) (by decide) (by decide) (by decide) ?_
    refine lv_iconst (v := 0) hx hb dX4_readOrder_247 (by decide) ?_
    have hf : fX4_readOrder B = ((bput B 5 1 x_1), 0) := by
      subst ex_1
      exact (if_neg c_2).trans ((if_neg c_5).trans ((if_pos c_6).trans rfl))
    exact we_z hC hr hlocks (by first | rfl | decide | assumption | exact nar_char_i _) (congrArg Prod.snd hf).symm (congrArg (fun u => wset Z 11 u.1) hf).symm hW hS dX4_readOrder_248
  by_cases c_7 : x_1 = 107
  · refine lv_re c_7 ?_
    refine lv_tableIn (tgt := 247) (off := 228) hx hb dX4_readOrder_19 (by decide) (by decide) (by decide) (by decide) ?_
    refine lv_iconst (v := 0) hx hb dX4_readOrder_247 (by decide) ?_
    have hf : fX4_readOrder B = ((bput B 5 1 x_1), 0) := by
      subst ex_1
      exact (if_neg c_2).trans ((if_neg c_5).trans ((if_neg c_6).trans ((if_pos c_7).trans rfl)))
    exact we_z hC hr hlocks (by first | rfl | decide | assumption | exact nar_char_i _) (congrArg Prod.snd hf).symm (congrArg (fun u => wset Z 11 u.1) hf).symm hW hS dX4_readOrder_248
  by_cases c_8 : x_1 = 108
  · refine lv_re c_8 ?_
    refine lv_tableIn (tgt := 193) (off := 174) hx hb dX4_readOrder_19 (by decide) (by decide) (by decide) (by decide) ?_
    refine lv_aload_n hx hb dX4_readOrder_193 rfl (lv_at hl 0 rfl) ?_
    refine lv_dup hx hb dX4_readOrder_194 rfl ?_
    refine wr_get hC hinRX4 hW (vS (by decide)) ce_s5 rfl 1 (by decide) hk1 rfl dX4_readOrder_195 ?_
    refine lv_re (y := B 5 0) (bput_q (by decide)) ?_
    refine lv_iconst (v := 1) hx hb dX4_readOrder_198 (by decide) ?_
    refine lv_iadd hx hb dX4_readOrder_199 ?_
    refine wr_put (Z' := wset Z 11 (bput (bput B 5 1 x_1) 5 0 ((B 5 0) + 1))) (v := .int ((B 5 0) + 1)) hC hinRX4 tyX4 tyX4_ok nmX4 hW hS (vS (by decide)) ce_s5 rfl 1 (by decide) hk1 rfl (tyX4_ok 1 (by decide)) rfl rfl (Nat.le_of_ble_eq_true rfl) wset_off pu_s5_0 dX4_readOrder_200 (fun H locs hW hS => ?_)
    refine lv_aload_n hx hb dX4_readOrder_203 rfl (lv_at hl 0 rfl) ?_
    obtain ⟨B_9, eB_9⟩ : ∃ y, y = (bput (bput B 5 1 x_1) 5 0 ((B 5 0) + 1)) := ⟨_, rfl⟩
    rw [← eB_9] at hW
    refine wc_i hC hml (kX4_readDigit l G Z B_9) (cwV 0 hts gX4_readOrder_X4_readDigit rfl rfl rfl (by decide +kernel) ⟨Nat.le_of_ble_eq_true rfl, Nat.le_of_ble_eq_true rfl⟩) hW hS (vS (by decide)) ce_s5 rfl rfl rfl rfl hl.1 (Nat.le_of_ble_eq_true rfl) dX4_readOrder_204 (fun H locs hW hS => ?_)
    obtain ⟨P_10, eP_10⟩ : ∃ y, y = fX4_readDigit B_9 := ⟨_, rfl⟩
    rw [← eP_10] at hW ⊢
    refine lv_if_eq (tgt := 230) hx hb dX4_readOrder_207 (by decide) (fun c_11 => ?_) (fun c_11 => ?_)
    · skip
      refine lv_iconst (v := 0) hx hb dX4_readOrder_230 (by decide) ?_
      have hf : fX4_readOrder B = (P_10.1, 0) := by
        subst eP_10
        subst eB_9
        subst ex_1
        exact (if_neg c_2).trans ((if_neg c_5).trans ((if_neg c_6).trans ((if_neg c_7).trans ((if_pos c_8).trans ((if_pos c_11).trans rfl)))))
      exact we_z hC hr hlocks (by first | rfl | decide | assumption | exact nar_char_i _) (congrArg Prod.snd hf).symm (congrArg (fun u => wset Z 11 u.1) hf).symm hW hS dX4_readOrder_231
    · skip
      refine lv_aload_n hx hb dX4_readOrder_210 rfl (lv_at hl 0 rfl) ?_
      refine lv_bipush (v := 61) hx hb dX4_readOrder_211 (by decide) ?_
      refine wc_i hC hml (kX4_skip l G Z P_10.1 61) (cwV 1 hts gX4_readOrder_X4_skip rfl rfl rfl (by decide +kernel) ⟨Nat.le_of_ble_eq_true rfl, Nat.le_of_ble_eq_true rfl⟩) hW hS (vS (by decide)) ce_s5 rfl rfl rfl rfl hl.1 (Nat.le_of_ble_eq_true rfl) dX4_readOrder_213 (fun H locs hW hS => ?_)
      obtain ⟨P_12, eP_12⟩ : ∃ y, y = fX4_skip P_10.1 61 := ⟨_, rfl⟩
      rw [← eP_12] at hW ⊢
      refine lv_if_eq (tgt := 230) hx hb dX4_readOrder_216 (by decide) (fun c_13 => ?_) (fun c_13 => ?_)
      · skip
        refine lv_iconst (v := 0) hx hb dX4_readOrder_230 (by decide) ?_
        have hf : fX4_readOrder B = (P_12.1, 0) := by
          subst eP_12
          subst eP_10
          subst eB_9
          subst ex_1
          exact (if_neg c_2).trans ((if_neg c_5).trans ((if_neg c_6).trans ((if_neg c_7).trans ((if_pos c_8).trans ((if_neg c_11).trans ((if_pos c_13).trans rfl))))))
        exact we_z hC hr hlocks (by first | rfl | decide | assumption | exact nar_char_i _) (congrArg Prod.snd hf).symm (congrArg (fun u => wset Z 11 u.1) hf).symm hW hS dX4_readOrder_231
      · skip
        refine lv_aload_n hx hb dX4_readOrder_219 rfl (lv_at hl 0 rfl) ?_
        refine wc_i hC hml (kX4_readLoad l G Z P_12.1) (cwV 0 hts gX4_readOrder_X4_readLoad rfl rfl rfl (by decide +kernel) ⟨Nat.le_of_ble_eq_true rfl, Nat.le_of_ble_eq_true rfl⟩) hW hS (vS (by decide)) ce_s5 rfl rfl rfl rfl hl.1 (Nat.le_of_ble_eq_true rfl) dX4_readOrder_220 (fun H locs hW hS => ?_)
        obtain ⟨P_14, eP_14⟩ : ∃ y, y = fX4_readLoad P_12.1 := ⟨_, rfl⟩
        rw [← eP_14] at hW ⊢
        refine lv_if_eq (tgt := 230) hx hb dX4_readOrder_223 (by decide) (fun c_15 => ?_) (fun c_15 => ?_)
        · skip
          refine lv_iconst (v := 0) hx hb dX4_readOrder_230 (by decide) ?_
          have hf : fX4_readOrder B = (P_14.1, 0) := by
            subst eP_14
            subst eP_12
            subst eP_10
            subst eB_9
            subst ex_1
            exact (if_neg c_2).trans ((if_neg c_5).trans ((if_neg c_6).trans ((if_neg c_7).trans ((if_pos c_8).trans ((if_neg c_11).trans ((if_neg c_13).trans ((if_pos c_15).trans rfl)))))))
          exact we_z hC hr hlocks (by first | rfl | decide | assumption | exact nar_char_i _) (congrArg Prod.snd hf).symm (congrArg (fun u => wset Z 11 u.1) hf).symm hW hS dX4_readOrder_231
        · skip
          refine lv_iconst (v := 1) hx hb dX4_readOrder_226 (by decide) ?_
          refine lv_goto (tgt := 231) hx hb dX4_readOrder_227 (by decide) ?_
          have hf : fX4_readOrder B = (P_14.1, 1) := by
            subst eP_14
            subst eP_12
            subst eP_10
            subst eB_9
            subst ex_1
            exact (if_neg c_2).trans ((if_neg c_5).trans ((if_neg c_6).trans ((if_neg c_7).trans ((if_pos c_8).trans ((if_neg c_11).trans ((if_neg c_13).trans ((if_neg c_15).trans rfl)))))))
          exact we_z hC hr hlocks (by first | rfl | decide | assumption | exact nar_char_i _) (congrArg Prod.snd hf).symm (congrArg (fun u => wset Z 11 u.1) hf).symm hW hS dX4_readOrder_231
  by_cases c_16 : x_1 = 109
  · refine lv_re c_16 ?_
    refine lv_tableIn (tgt := 99) (off := 80) hx hb dX4_readOrder_19 (by decide) (by decide) (by decide) (by decide) ?_
    refine lv_aload_n hx hb dX4_readOrder_99 rfl (lv_at hl 0 rfl) ?_
    refine lv_dup hx hb dX4_readOrder_100 rfl ?_
    refine wr_get hC hinRX4 hW (vS (by decide)) ce_s5 rfl 1 (by decide) hk1 rfl dX4_readOrder_101 ?_
    refine lv_re (y := B 5 0) (bput_q (by decide)) ?_
    refine lv_iconst (v := 1) hx hb dX4_readOrder_104 (by decide) ?_
    refine lv_iadd hx hb dX4_readOrder_105 ?_
    refine wr_put (Z' := wset Z 11 (bput (bput B 5 1 x_1) 5 0 ((B 5 0) + 1))) (v := .int ((B 5 0) + 1)) hC hinRX4 tyX4 tyX4_ok nmX4 hW hS (vS (by decide)) ce_s5 rfl 1 (by decide) hk1 rfl (tyX4_ok 1 (by decide)) rfl rfl (Nat.le_of_ble_eq_true rfl) wset_off pu_s5_0 dX4_readOrder_106 (fun H locs hW hS => ?_)
    refine lv_aload_n hx hb dX4_readOrder_109 rfl (lv_at hl 0 rfl) ?_
    obtain ⟨B_17, eB_17⟩ : ∃ y, y = (bput (bput B 5 1 x_1) 5 0 ((B 5 0) + 1)) := ⟨_, rfl⟩
    rw [← eB_17] at hW
    refine wc_i hC hml (kX4_readDigit l G Z B_17) (cwV 0 hts gX4_readOrder_X4_readDigit rfl rfl rfl (by decide +kernel) ⟨Nat.le_of_ble_eq_true rfl, Nat.le_of_ble_eq_true rfl⟩) hW hS (vS (by decide)) ce_s5 rfl rfl rfl rfl hl.1 (Nat.le_of_ble_eq_true rfl) dX4_readOrder_110 (fun H locs hW hS => ?_)
    obtain ⟨P_18, eP_18⟩ : ∃ y, y = fX4_readDigit B_17 := ⟨_, rfl⟩
    rw [← eP_18] at hW ⊢
    refine lv_if_eq (tgt := 136) hx hb dX4_readOrder_113 (by decide) (fun c_19 => ?_) (fun c_19 => ?_)
    · skip
      refine lv_iconst (v := 0) hx hb dX4_readOrder_136 (by decide) ?_
      have hf : fX4_readOrder B = (P_18.1, 0) := by
        subst eP_18
        subst eB_17
        subst ex_1
        exact (if_neg c_2).trans ((if_neg c_5).trans ((if_neg c_6).trans ((if_neg c_7).trans ((if_neg c_8).trans ((if_pos c_16).trans ((if_pos c_19).trans rfl))))))
      exact we_z hC hr hlocks (by first | rfl | decide | assumption | exact nar_char_i _) (congrArg Prod.snd hf).symm (congrArg (fun u => wset Z 11 u.1) hf).symm hW hS dX4_readOrder_137
    · skip
      refine lv_aload_n hx hb dX4_readOrder_116 rfl (lv_at hl 0 rfl) ?_
      refine lv_bipush (v := 64) hx hb dX4_readOrder_117 (by decide) ?_
      refine wc_i hC hml (kX4_skip l G Z P_18.1 64) (cwV 1 hts gX4_readOrder_X4_skip rfl rfl rfl (by decide +kernel) ⟨Nat.le_of_ble_eq_true rfl, Nat.le_of_ble_eq_true rfl⟩) hW hS (vS (by decide)) ce_s5 rfl rfl rfl rfl hl.1 (Nat.le_of_ble_eq_true rfl) dX4_readOrder_119 (fun H locs hW hS => ?_)
      obtain ⟨P_20, eP_20⟩ : ∃ y, y = fX4_skip P_18.1 64 := ⟨_, rfl⟩
      rw [← eP_20] at hW ⊢
      refine lv_if_eq (tgt := 136) hx hb dX4_readOrder_122 (by decide) (fun c_21 => ?_) (fun c_21 => ?_)
      · skip
        refine lv_iconst (v := 0) hx hb dX4_readOrder_136 (by decide) ?_
        have hf : fX4_readOrder B = (P_20.1, 0) := by
          subst eP_20
          subst eP_18
          subst eB_17
          subst ex_1
          exact (if_neg c_2).trans ((if_neg c_5).trans ((if_neg c_6).trans ((if_neg c_7).trans ((if_neg c_8).trans ((if_pos c_16).trans ((if_neg c_19).trans ((if_pos c_21).trans rfl)))))))
        exact we_z hC hr hlocks (by first | rfl | decide | assumption | exact nar_char_i _) (congrArg Prod.snd hf).symm (congrArg (fun u => wset Z 11 u.1) hf).symm hW hS dX4_readOrder_137
      · skip
        refine lv_aload_n hx hb dX4_readOrder_125 rfl (lv_at hl 0 rfl) ?_
        refine wc_i hC hml (kX4_readPlace l G Z P_20.1) (cwV 0 hts gX4_readOrder_X4_readPlace rfl rfl rfl (by decide +kernel) ⟨Nat.le_of_ble_eq_true rfl, Nat.le_of_ble_eq_true rfl⟩) hW hS (vS (by decide)) ce_s5 rfl rfl rfl rfl hl.1 (Nat.le_of_ble_eq_true rfl) dX4_readOrder_126 (fun H locs hW hS => ?_)
        obtain ⟨P_22, eP_22⟩ : ∃ y, y = fX4_readPlace P_20.1 := ⟨_, rfl⟩
        rw [← eP_22] at hW ⊢
        refine lv_if_eq (tgt := 136) hx hb dX4_readOrder_129 (by decide) (fun c_23 => ?_) (fun c_23 => ?_)
        · skip
          refine lv_iconst (v := 0) hx hb dX4_readOrder_136 (by decide) ?_
          have hf : fX4_readOrder B = (P_22.1, 0) := by
            subst eP_22
            subst eP_20
            subst eP_18
            subst eB_17
            subst ex_1
            exact (if_neg c_2).trans ((if_neg c_5).trans ((if_neg c_6).trans ((if_neg c_7).trans ((if_neg c_8).trans ((if_pos c_16).trans ((if_neg c_19).trans ((if_neg c_21).trans ((if_pos c_23).trans rfl))))))))
          exact we_z hC hr hlocks (by first | rfl | decide | assumption | exact nar_char_i _) (congrArg Prod.snd hf).symm (congrArg (fun u => wset Z 11 u.1) hf).symm hW hS dX4_readOrder_137
        · skip
          refine lv_iconst (v := 1) hx hb dX4_readOrder_132 (by decide) ?_
          refine lv_goto (tgt := 137) hx hb dX4_readOrder_133 (by decide) ?_
          have hf : fX4_readOrder B = (P_22.1, 1) := by
            subst eP_22
            subst eP_20
            subst eP_18
            subst eB_17
            subst ex_1
            exact (if_neg c_2).trans ((if_neg c_5).trans ((if_neg c_6).trans ((if_neg c_7).trans ((if_neg c_8).trans ((if_pos c_16).trans ((if_neg c_19).trans ((if_neg c_21).trans ((if_neg c_23).trans rfl))))))))
          exact we_z hC hr hlocks (by first | rfl | decide | assumption | exact nar_char_i _) (congrArg Prod.snd hf).symm (congrArg (fun u => wset Z 11 u.1) hf).symm hW hS dX4_readOrder_137
  by_cases c_24 : x_1 = 110
  · refine lv_re c_24 ?_
    refine lv_tableIn (tgt := 84) (off := 65) hx hb dX4_readOrder_19 (by decide) (by decide) (by decide) (by decide) ?_
    refine lv_aload_n hx hb dX4_readOrder_84 rfl (lv_at hl 0 rfl) ?_
    refine lv_dup hx hb dX4_readOrder_85 rfl ?_
    refine wr_get hC hinRX4 hW (vS (by decide)) ce_s5 rfl 1 (by decide) hk1 rfl dX4_readOrder_86 ?_
    refine lv_re (y := B 5 0) (bput_q (by decide)) ?_
    refine lv_iconst (v := 1) hx hb dX4_readOrder_89 (by decide) ?_
    refine lv_iadd hx hb dX4_readOrder_90 ?_
    refine wr_put (Z' := wset Z 11 (bput (bput B 5 1 x_1) 5 0 ((B 5 0) + 1))) (v := .int ((B 5 0) + 1)) hC hinRX4 tyX4 tyX4_ok nmX4 hW hS (vS (by decide)) ce_s5 rfl 1 (by decide) hk1 rfl (tyX4_ok 1 (by decide)) rfl rfl (Nat.le_of_ble_eq_true rfl) wset_off pu_s5_0 dX4_readOrder_91 (fun H locs hW hS => ?_)
    refine lv_aload_n hx hb dX4_readOrder_94 rfl (lv_at hl 0 rfl) ?_
    obtain ⟨B_25, eB_25⟩ : ∃ y, y = (bput (bput B 5 1 x_1) 5 0 ((B 5 0) + 1)) := ⟨_, rfl⟩
    rw [← eB_25] at hW
    refine wc_i hC hml (kX4_readDigit l G Z B_25) (cwV 0 hts gX4_readOrder_X4_readDigit rfl rfl rfl (by decide +kernel) ⟨Nat.le_of_ble_eq_true rfl, Nat.le_of_ble_eq_true rfl⟩) hW hS (vS (by decide)) ce_s5 rfl rfl rfl rfl hl.1 (Nat.le_of_ble_eq_true rfl) dX4_readOrder_95 (fun H locs hW hS => ?_)
    obtain ⟨P_26, eP_26⟩ : ∃ y, y = fX4_readDigit B_25 := ⟨_, rfl⟩
    rw [← eP_26] at hW ⊢
    have hf : fX4_readOrder B = (P_26.1, P_26.2) := by
      subst eP_26
      subst eB_25
      subst ex_1
      exact (if_neg c_2).trans ((if_neg c_5).trans ((if_neg c_6).trans ((if_neg c_7).trans ((if_neg c_8).trans ((if_neg c_16).trans ((if_pos c_24).trans rfl))))))
    exact we_z hC hr hlocks (by rw [eP_26]; exact nbX4_readDigit) (congrArg Prod.snd hf).symm (congrArg (fun u => wset Z 11 u.1) hf).symm hW hS dX4_readOrder_98
  by_cases c_27 : x_1 = 111
  · refine lv_re c_27 ?_
    refine lv_tableIn (tgt := 247) (off := 228) hx hb dX4_readOrder_19 (by decide) (by decide) (by decide) (by decide) ?_
    refine lv_iconst (v := 0) hx hb dX4_readOrder_247 (by decide) ?_
    have hf : fX4_readOrder B = ((bput B 5 1 x_1), 0) := by
      subst ex_1
      exact (if_neg c_2).trans ((if_neg c_5).trans ((if_neg c_6).trans ((if_neg c_7).trans ((if_neg c_8).trans ((if_neg c_16).trans ((if_neg c_24).trans ((if_pos c_27).trans rfl)))))))
    exact we_z hC hr hlocks (by first | rfl | decide | assumption | exact nar_char_i _) (congrArg Prod.snd hf).symm (congrArg (fun u => wset Z 11 u.1) hf).symm hW hS dX4_readOrder_248
  by_cases c_28 : x_1 = 112
  · refine lv_re c_28 ?_
    refine lv_tableIn (tgt := 138) (off := 119) hx hb dX4_readOrder_19 (by decide) (by decide) (by decide) (by decide) ?_
    refine lv_aload_n hx hb dX4_readOrder_138 rfl (lv_at hl 0 rfl) ?_
    refine lv_dup hx hb dX4_readOrder_139 rfl ?_
    refine wr_get hC hinRX4 hW (vS (by decide)) ce_s5 rfl 1 (by decide) hk1 rfl dX4_readOrder_140 ?_
    refine lv_re (y := B 5 0) (bput_q (by decide)) ?_
    refine lv_iconst (v := 1) hx hb dX4_readOrder_143 (by decide) ?_
    refine lv_iadd hx hb dX4_readOrder_144 ?_
    refine wr_put (Z' := wset Z 11 (bput (bput B 5 1 x_1) 5 0 ((B 5 0) + 1))) (v := .int ((B 5 0) + 1)) hC hinRX4 tyX4 tyX4_ok nmX4 hW hS (vS (by decide)) ce_s5 rfl 1 (by decide) hk1 rfl (tyX4_ok 1 (by decide)) rfl rfl (Nat.le_of_ble_eq_true rfl) wset_off pu_s5_0 dX4_readOrder_145 (fun H locs hW hS => ?_)
    refine lv_aload_n hx hb dX4_readOrder_148 rfl (lv_at hl 0 rfl) ?_
    obtain ⟨B_29, eB_29⟩ : ∃ y, y = (bput (bput B 5 1 x_1) 5 0 ((B 5 0) + 1)) := ⟨_, rfl⟩
    rw [← eB_29] at hW
    refine wc_i hC hml (kX4_readNumber l G Z B_29) (cwV 0 hts gX4_readOrder_X4_readNumber rfl rfl rfl (by decide +kernel) ⟨Nat.le_of_ble_eq_true rfl, Nat.le_of_ble_eq_true rfl⟩) hW hS (vS (by decide)) ce_s5 rfl rfl rfl rfl hl.1 (Nat.le_of_ble_eq_true rfl) dX4_readOrder_149 (fun H locs hW hS => ?_)
    obtain ⟨P_30, eP_30⟩ : ∃ y, y = fX4_readNumber B_29 := ⟨_, rfl⟩
    rw [← eP_30] at hW ⊢
    refine lv_if_eq (tgt := 191) hx hb dX4_readOrder_152 (by decide) (fun c_31 => ?_) (fun c_31 => ?_)
    · skip
      refine lv_iconst (v := 0) hx hb dX4_readOrder_191 (by decide) ?_
      have hf : fX4_readOrder B = (P_30.1, 0) := by
        subst eP_30
        subst eB_29
        subst ex_1
        exact (if_neg c_2).trans ((if_neg c_5).trans ((if_neg c_6).trans ((if_neg c_7).trans ((if_neg c_8).trans ((if_neg c_16).trans ((if_neg c_24).trans ((if_neg c_27).trans ((if_pos c_28).trans ((if_pos c_31).trans rfl)))))))))
      exact we_z hC hr hlocks (by first | rfl | decide | assumption | exact nar_char_i _) (congrArg Prod.snd hf).symm (congrArg (fun u => wset Z 11 u.1) hf).symm hW hS dX4_readOrder_192
    · skip
      refine lv_aload_n hx hb dX4_readOrder_155 rfl (lv_at hl 0 rfl) ?_
      refine lv_bipush (v := 58) hx hb dX4_readOrder_156 (by decide) ?_
      refine wc_i hC hml (kX4_skip l G Z P_30.1 58) (cwV 1 hts gX4_readOrder_X4_skip rfl rfl rfl (by decide +kernel) ⟨Nat.le_of_ble_eq_true rfl, Nat.le_of_ble_eq_true rfl⟩) hW hS (vS (by decide)) ce_s5 rfl rfl rfl rfl hl.1 (Nat.le_of_ble_eq_true rfl) dX4_readOrder_158 (fun H locs hW hS => ?_)
      obtain ⟨P_32, eP_32⟩ : ∃ y, y = fX4_skip P_30.1 58 := ⟨_, rfl⟩
      rw [← eP_32] at hW ⊢
      refine lv_if_eq (tgt := 191) hx hb dX4_readOrder_161 (by decide) (fun c_33 => ?_) (fun c_33 => ?_)
      · skip
        refine lv_iconst (v := 0) hx hb dX4_readOrder_191 (by decide) ?_
        have hf : fX4_readOrder B = (P_32.1, 0) := by
          subst eP_32
          subst eP_30
          subst eB_29
          subst ex_1
          exact (if_neg c_2).trans ((if_neg c_5).trans ((if_neg c_6).trans ((if_neg c_7).trans ((if_neg c_8).trans ((if_neg c_16).trans ((if_neg c_24).trans ((if_neg c_27).trans ((if_pos c_28).trans ((if_neg c_31).trans ((if_pos c_33).trans rfl))))))))))
        exact we_z hC hr hlocks (by first | rfl | decide | assumption | exact nar_char_i _) (congrArg Prod.snd hf).symm (congrArg (fun u => wset Z 11 u.1) hf).symm hW hS dX4_readOrder_192
      · skip
        refine lv_aload_n hx hb dX4_readOrder_164 rfl (lv_at hl 0 rfl) ?_
        refine wc_i hC hml (kX4_readDigit l G Z P_32.1) (cwV 0 hts gX4_readOrder_X4_readDigit rfl rfl rfl (by decide +kernel) ⟨Nat.le_of_ble_eq_true rfl, Nat.le_of_ble_eq_true rfl⟩) hW hS (vS (by decide)) ce_s5 rfl rfl rfl rfl hl.1 (Nat.le_of_ble_eq_true rfl) dX4_readOrder_165 (fun H locs hW hS => ?_)
        obtain ⟨P_34, eP_34⟩ : ∃ y, y = fX4_readDigit P_32.1 := ⟨_, rfl⟩
        rw [← eP_34] at hW ⊢
        refine lv_if_eq (tgt := 191) hx hb dX4_readOrder_168 (by decide) (fun c_35 => ?_) (fun c_35 => ?_)
        · skip
          refine lv_iconst (v := 0) hx hb dX4_readOrder_191 (by decide) ?_
          have hf : fX4_readOrder B = (P_34.1, 0) := by
            subst eP_34
            subst eP_32
            subst eP_30
            subst eB_29
            subst ex_1
            exact (if_neg c_2).trans ((if_neg c_5).trans ((if_neg c_6).trans ((if_neg c_7).trans ((if_neg c_8).trans ((if_neg c_16).trans ((if_neg c_24).trans ((if_neg c_27).trans ((if_pos c_28).trans ((if_neg c_31).trans ((if_neg c_33).trans ((if_pos c_35).trans rfl)))))))))))
          exact we_z hC hr hlocks (by first | rfl | decide | assumption | exact nar_char_i _) (congrArg Prod.snd hf).symm (congrArg (fun u => wset Z 11 u.1) hf).symm hW hS dX4_readOrder_192
        · skip
          refine lv_aload_n hx hb dX4_readOrder_171 rfl (lv_at hl 0 rfl) ?_
          refine lv_bipush (v := 64) hx hb dX4_readOrder_172 (by decide) ?_
          refine wc_i hC hml (kX4_skip l G Z P_34.1 64) (cwV 1 hts gX4_readOrder_X4_skip rfl rfl rfl (by decide +kernel) ⟨Nat.le_of_ble_eq_true rfl, Nat.le_of_ble_eq_true rfl⟩) hW hS (vS (by decide)) ce_s5 rfl rfl rfl rfl hl.1 (Nat.le_of_ble_eq_true rfl) dX4_readOrder_174 (fun H locs hW hS => ?_)
          obtain ⟨P_36, eP_36⟩ : ∃ y, y = fX4_skip P_34.1 64 := ⟨_, rfl⟩
          rw [← eP_36] at hW ⊢
          refine lv_if_eq (tgt := 191) hx hb dX4_readOrder_177 (by decide) (fun c_37 => ?_) (fun c_37 => ?_)
          · skip
            refine lv_iconst (v := 0) hx hb dX4_readOrder_191 (by decide) ?_
            have hf : fX4_readOrder B = (P_36.1, 0) := by
              subst eP_36
              subst eP_34
              subst eP_32
              subst eP_30
              subst eB_29
              subst ex_1
              exact (if_neg c_2).trans ((if_neg c_5).trans ((if_neg c_6).trans ((if_neg c_7).trans ((if_neg c_8).trans ((if_neg c_16).trans ((if_neg c_24).trans ((if_neg c_27).trans ((if_pos c_28).trans ((if_neg c_31).trans ((if_neg c_33).trans ((if_neg c_35).trans ((if_pos c_37).trans rfl))))))))))))
            exact we_z hC hr hlocks (by first | rfl | decide | assumption | exact nar_char_i _) (congrArg Prod.snd hf).symm (congrArg (fun u => wset Z 11 u.1) hf).symm hW hS dX4_readOrder_192
          · skip
            refine lv_aload_n hx hb dX4_readOrder_180 rfl (lv_at hl 0 rfl) ?_
            refine wc_i hC hml (kX4_readPlace l G Z P_36.1) (cwV 0 hts gX4_readOrder_X4_readPlace rfl rfl rfl (by decide +kernel) ⟨Nat.le_of_ble_eq_true rfl, Nat.le_of_ble_eq_true rfl⟩) hW hS (vS (by decide)) ce_s5 rfl rfl rfl rfl hl.1 (Nat.le_of_ble_eq_true rfl) dX4_readOrder_181 (fun H locs hW hS => ?_)
            obtain ⟨P_38, eP_38⟩ : ∃ y, y = fX4_readPlace P_36.1 := ⟨_, rfl⟩
            rw [← eP_38] at hW ⊢
            refine lv_if_eq (tgt := 191) hx hb dX4_readOrder_184 (by decide) (fun c_39 => ?_) (fun c_39 => ?_)
            · skip
              refine lv_iconst (v := 0) hx hb dX4_readOrder_191 (by decide) ?_
              have hf : fX4_readOrder B = (P_38.1, 0) := by
                subst eP_38
                subst eP_36
                subst eP_34
                subst eP_32
                subst eP_30
                subst eB_29
                subst ex_1
                exact (if_neg c_2).trans ((if_neg c_5).trans ((if_neg c_6).trans ((if_neg c_7).trans ((if_neg c_8).trans ((if_neg c_16).trans ((if_neg c_24).trans ((if_neg c_27).trans ((if_pos c_28).trans ((if_neg c_31).trans ((if_neg c_33).trans ((if_neg c_35).trans ((if_neg c_37).trans ((if_pos c_39).trans rfl)))))))))))))
              exact we_z hC hr hlocks (by first | rfl | decide | assumption | exact nar_char_i _) (congrArg Prod.snd hf).symm (congrArg (fun u => wset Z 11 u.1) hf).symm hW hS dX4_readOrder_192
            · skip
              refine lv_iconst (v := 1) hx hb dX4_readOrder_187 (by decide) ?_
              refine lv_goto (tgt := 192) hx hb dX4_readOrder_188 (by decide) ?_
              have hf : fX4_readOrder B = (P_38.1, 1) := by
                subst eP_38
                subst eP_36
                subst eP_34
                subst eP_32
                subst eP_30
                subst eB_29
                subst ex_1
                exact (if_neg c_2).trans ((if_neg c_5).trans ((if_neg c_6).trans ((if_neg c_7).trans ((if_neg c_8).trans ((if_neg c_16).trans ((if_neg c_24).trans ((if_neg c_27).trans ((if_pos c_28).trans ((if_neg c_31).trans ((if_neg c_33).trans ((if_neg c_35).trans ((if_neg c_37).trans ((if_neg c_39).trans rfl)))))))))))))
              exact we_z hC hr hlocks (by first | rfl | decide | assumption | exact nar_char_i _) (congrArg Prod.snd hf).symm (congrArg (fun u => wset Z 11 u.1) hf).symm hW hS dX4_readOrder_192
  by_cases c_40 : x_1 = 113
  · refine lv_re c_40 ?_
    refine lv_tableIn (tgt := 247) (off := 228) hx hb dX4_readOrder_19 (by decide) (by decide) (by decide) (by decide) ?_
    refine lv_iconst (v := 0) hx hb dX4_readOrder_247 (by decide) ?_
    have hf : fX4_readOrder B = ((bput B 5 1 x_1), 0) := by
      subst ex_1
      exact (if_neg c_2).trans ((if_neg c_5).trans ((if_neg c_6).trans ((if_neg c_7).trans ((if_neg c_8).trans ((if_neg c_16).trans ((if_neg c_24).trans ((if_neg c_27).trans ((if_neg c_28).trans ((if_pos c_40).trans rfl)))))))))
    exact we_z hC hr hlocks (by first | rfl | decide | assumption | exact nar_char_i _) (congrArg Prod.snd hf).symm (congrArg (fun u => wset Z 11 u.1) hf).symm hW hS dX4_readOrder_248
  by_cases c_41 : x_1 = 114
  · refine lv_re c_41 ?_
    refine lv_tableIn (tgt := 247) (off := 228) hx hb dX4_readOrder_19 (by decide) (by decide) (by decide) (by decide) ?_
    refine lv_iconst (v := 0) hx hb dX4_readOrder_247 (by decide) ?_
    have hf : fX4_readOrder B = ((bput B 5 1 x_1), 0) := by
      subst ex_1
      exact (if_neg c_2).trans ((if_neg c_5).trans ((if_neg c_6).trans ((if_neg c_7).trans ((if_neg c_8).trans ((if_neg c_16).trans ((if_neg c_24).trans ((if_neg c_27).trans ((if_neg c_28).trans ((if_neg c_40).trans ((if_pos c_41).trans rfl))))))))))
    exact we_z hC hr hlocks (by first | rfl | decide | assumption | exact nar_char_i _) (congrArg Prod.snd hf).symm (congrArg (fun u => wset Z 11 u.1) hf).symm hW hS dX4_readOrder_248
  by_cases c_42 : x_1 = 115
  · refine lv_re c_42 ?_
    refine lv_tableIn (tgt := 84) (off := 65) hx hb dX4_readOrder_19 (by decide) (by decide) (by decide) (by decide) ?_
    refine lv_aload_n hx hb dX4_readOrder_84 rfl (lv_at hl 0 rfl) ?_
    refine lv_dup hx hb dX4_readOrder_85 rfl ?_
    refine wr_get hC hinRX4 hW (vS (by decide)) ce_s5 rfl 1 (by decide) hk1 rfl dX4_readOrder_86 ?_
    refine lv_re (y := B 5 0) (bput_q (by decide)) ?_
    refine lv_iconst (v := 1) hx hb dX4_readOrder_89 (by decide) ?_
    refine lv_iadd hx hb dX4_readOrder_90 ?_
    refine wr_put (Z' := wset Z 11 (bput (bput B 5 1 x_1) 5 0 ((B 5 0) + 1))) (v := .int ((B 5 0) + 1)) hC hinRX4 tyX4 tyX4_ok nmX4 hW hS (vS (by decide)) ce_s5 rfl 1 (by decide) hk1 rfl (tyX4_ok 1 (by decide)) rfl rfl (Nat.le_of_ble_eq_true rfl) wset_off pu_s5_0 dX4_readOrder_91 (fun H locs hW hS => ?_)
    refine lv_aload_n hx hb dX4_readOrder_94 rfl (lv_at hl 0 rfl) ?_
    obtain ⟨B_43, eB_43⟩ : ∃ y, y = (bput (bput B 5 1 x_1) 5 0 ((B 5 0) + 1)) := ⟨_, rfl⟩
    rw [← eB_43] at hW
    refine wc_i hC hml (kX4_readDigit l G Z B_43) (cwV 0 hts gX4_readOrder_X4_readDigit rfl rfl rfl (by decide +kernel) ⟨Nat.le_of_ble_eq_true rfl, Nat.le_of_ble_eq_true rfl⟩) hW hS (vS (by decide)) ce_s5 rfl rfl rfl rfl hl.1 (Nat.le_of_ble_eq_true rfl) dX4_readOrder_95 (fun H locs hW hS => ?_)
    obtain ⟨P_44, eP_44⟩ : ∃ y, y = fX4_readDigit B_43 := ⟨_, rfl⟩
    rw [← eP_44] at hW ⊢
    have hf : fX4_readOrder B = (P_44.1, P_44.2) := by
      subst eP_44
      subst eB_43
      subst ex_1
      exact (if_neg c_2).trans ((if_neg c_5).trans ((if_neg c_6).trans ((if_neg c_7).trans ((if_neg c_8).trans ((if_neg c_16).trans ((if_neg c_24).trans ((if_neg c_27).trans ((if_neg c_28).trans ((if_neg c_40).trans ((if_neg c_41).trans ((if_pos c_42).trans rfl)))))))))))
    exact we_z hC hr hlocks (by rw [eP_44]; exact nbX4_readDigit) (congrArg Prod.snd hf).symm (congrArg (fun u => wset Z 11 u.1) hf).symm hW hS dX4_readOrder_98
  by_cases c_45 : x_1 = 116
  · refine lv_re c_45 ?_
    refine lv_tableIn (tgt := 232) (off := 213) hx hb dX4_readOrder_19 (by decide) (by decide) (by decide) (by decide) ?_
    refine lv_aload_n hx hb dX4_readOrder_232 rfl (lv_at hl 0 rfl) ?_
    refine lv_dup hx hb dX4_readOrder_233 rfl ?_
    refine wr_get hC hinRX4 hW (vS (by decide)) ce_s5 rfl 1 (by decide) hk1 rfl dX4_readOrder_234 ?_
    refine lv_re (y := B 5 0) (bput_q (by decide)) ?_
    refine lv_iconst (v := 1) hx hb dX4_readOrder_237 (by decide) ?_
    refine lv_iadd hx hb dX4_readOrder_238 ?_
    refine wr_put (Z' := wset Z 11 (bput (bput B 5 1 x_1) 5 0 ((B 5 0) + 1))) (v := .int ((B 5 0) + 1)) hC hinRX4 tyX4 tyX4_ok nmX4 hW hS (vS (by decide)) ce_s5 rfl 1 (by decide) hk1 rfl (tyX4_ok 1 (by decide)) rfl rfl (Nat.le_of_ble_eq_true rfl) wset_off pu_s5_0 dX4_readOrder_239 (fun H locs hW hS => ?_)
    refine lv_aload_n hx hb dX4_readOrder_242 rfl (lv_at hl 0 rfl) ?_
    obtain ⟨B_46, eB_46⟩ : ∃ y, y = (bput (bput B 5 1 x_1) 5 0 ((B 5 0) + 1)) := ⟨_, rfl⟩
    rw [← eB_46] at hW
    refine wc_i hC hml (kX4_readNumber l G Z B_46) (cwV 0 hts gX4_readOrder_X4_readNumber rfl rfl rfl (by decide +kernel) ⟨Nat.le_of_ble_eq_true rfl, Nat.le_of_ble_eq_true rfl⟩) hW hS (vS (by decide)) ce_s5 rfl rfl rfl rfl hl.1 (Nat.le_of_ble_eq_true rfl) dX4_readOrder_243 (fun H locs hW hS => ?_)
    obtain ⟨P_47, eP_47⟩ : ∃ y, y = fX4_readNumber B_46 := ⟨_, rfl⟩
    rw [← eP_47] at hW ⊢
    have hf : fX4_readOrder B = (P_47.1, P_47.2) := by
      subst eP_47
      subst eB_46
      subst ex_1
      exact (if_neg c_2).trans ((if_neg c_5).trans ((if_neg c_6).trans ((if_neg c_7).trans ((if_neg c_8).trans ((if_neg c_16).trans ((if_neg c_24).trans ((if_neg c_27).trans ((if_neg c_28).trans ((if_neg c_40).trans ((if_neg c_41).trans ((if_neg c_42).trans ((if_pos c_45).trans rfl))))))))))))
    exact we_z hC hr hlocks (by rw [eP_47]; exact nbX4_readNumber) (congrArg Prod.snd hf).symm (congrArg (fun u => wset Z 11 u.1) hf).symm hW hS dX4_readOrder_246
  refine lv_tableOut (tgt := 247) hx hb dX4_readOrder_19 (by
    have hz : ∀ k : Int32, ¬ x_1 = k → ¬ x_1.toInt = k.toInt := fun k h q => h (Int32.toInt_inj.mp q)
    have c_2z : ¬ x_1.toInt = 104 := fun q => hz 104 c_2 (q.trans (by decide))
    have c_5z : ¬ x_1.toInt = 105 := fun q => hz 105 c_5 (q.trans (by decide))
    have c_6z : ¬ x_1.toInt = 106 := fun q => hz 106 c_6 (q.trans (by decide))
    have c_7z : ¬ x_1.toInt = 107 := fun q => hz 107 c_7 (q.trans (by decide))
    have c_8z : ¬ x_1.toInt = 108 := fun q => hz 108 c_8 (q.trans (by decide))
    have c_16z : ¬ x_1.toInt = 109 := fun q => hz 109 c_16 (q.trans (by decide))
    have c_24z : ¬ x_1.toInt = 110 := fun q => hz 110 c_24 (q.trans (by decide))
    have c_27z : ¬ x_1.toInt = 111 := fun q => hz 111 c_27 (q.trans (by decide))
    have c_28z : ¬ x_1.toInt = 112 := fun q => hz 112 c_28 (q.trans (by decide))
    have c_40z : ¬ x_1.toInt = 113 := fun q => hz 113 c_40 (q.trans (by decide))
    have c_41z : ¬ x_1.toInt = 114 := fun q => hz 114 c_41 (q.trans (by decide))
    have c_42z : ¬ x_1.toInt = 115 := fun q => hz 115 c_42 (q.trans (by decide))
    have c_45z : ¬ x_1.toInt = 116 := fun q => hz 116 c_45 (q.trans (by decide))
    omega) (by decide) ?_
  refine lv_iconst (v := 0) hx hb dX4_readOrder_247 (by decide) ?_
  have hf : fX4_readOrder B = ((bput B 5 1 x_1), 0) := by
    subst ex_1
    exact (if_neg c_2).trans ((if_neg c_5).trans ((if_neg c_6).trans ((if_neg c_7).trans ((if_neg c_8).trans ((if_neg c_16).trans ((if_neg c_24).trans ((if_neg c_27).trans ((if_neg c_28).trans ((if_neg c_40).trans ((if_neg c_41).trans ((if_neg c_42).trans ((if_neg c_45).trans rfl))))))))))))
  exact we_z hC hr hlocks (by first | rfl | decide | assumption | exact nar_char_i _) (congrArg Prod.snd hf).symm (congrArg (fun u => wset Z 11 u.1) hf).symm hW hS dX4_readOrder_248
theorem nbX4_readOrder {B : wB} : narrow .boolean (.int ((fX4_readOrder B).2)) = .int ((fX4_readOrder B).2) := (nb_ite (nbX4_readDigit) (nb_ite nb_0 (nb_ite nb_0 (nb_ite nb_0 (nb_ite (nb_ite nb_0 (nb_ite nb_0 (nb_ite nb_0 nb_1))) (nb_ite (nb_ite nb_0 (nb_ite nb_0 (nb_ite nb_0 nb_1))) (nb_ite (nbX4_readDigit) (nb_ite nb_0 (nb_ite (nb_ite nb_0 (nb_ite nb_0 (nb_ite nb_0 (nb_ite nb_0 (nb_ite nb_0 nb_1))))) (nb_ite nb_0 (nb_ite nb_0 (nb_ite (nbX4_readDigit) (nb_ite (nbX4_readNumber) nb_0)))))))))))))

def fX7_order (B : wB) : wB :=
  let x_1 := fX7_next B
  if x_1 = 104 then (let B_3 := (bput (bput B 0 7 x_1) 0 5 ((B 0 5) + 1))
    let P_4 := fX7_digit B_3
    (bput P_4.1 0 8 P_4.2))
  else if x_1 = 105 then (bput (bput B 0 7 x_1) 0 6 1)
  else if x_1 = 106 then (bput (bput B 0 7 x_1) 0 6 1)
  else if x_1 = 107 then (bput (bput B 0 7 x_1) 0 6 1)
  else if x_1 = 108 then (let B_9 := (bput (bput B 0 7 x_1) 0 5 ((B 0 5) + 1))
    let P_10 := fX7_digit B_9
    let B_11 := (bput P_10.1 0 8 P_10.2)
    let B_12 := fX7_sign B_11 61
    let P_13 := fX7_digit B_12
    (bput P_13.1 0 9 P_13.2))
  else if x_1 = 109 then (let B_15 := (bput (bput B 0 7 x_1) 0 5 ((B 0 5) + 1))
    let P_16 := fX7_digit B_15
    let B_17 := (bput P_16.1 0 8 P_16.2)
    let B_18 := fX7_sign B_17 64
    let P_19 := fX7_place B_18
    (bput P_19.1 0 9 P_19.2))
  else if x_1 = 110 then (let B_21 := (bput (bput B 0 7 x_1) 0 5 ((B 0 5) + 1))
    let P_22 := fX7_digit B_21
    (bput P_22.1 0 8 P_22.2))
  else if x_1 = 111 then (bput (bput B 0 7 x_1) 0 6 1)
  else if x_1 = 112 then (let B_25 := (bput (bput B 0 7 x_1) 0 5 ((B 0 5) + 1))
    let P_26 := fX7_number B_25
    let B_27 := (bput P_26.1 0 8 P_26.2)
    let B_28 := fX7_sign B_27 58
    let P_29 := fX7_digit B_28
    let B_30 := (bput P_29.1 0 9 P_29.2)
    let B_31 := fX7_sign B_30 64
    let P_32 := fX7_place B_31
    (bput P_32.1 0 10 P_32.2))
  else if x_1 = 113 then (bput (bput B 0 7 x_1) 0 6 1)
  else if x_1 = 114 then (bput (bput B 0 7 x_1) 0 6 1)
  else if x_1 = 115 then (let B_36 := (bput (bput B 0 7 x_1) 0 5 ((B 0 5) + 1))
    let P_37 := fX7_digit B_36
    (bput P_37.1 0 8 P_37.2))
  else if x_1 = 116 then (let B_39 := (bput (bput B 0 7 x_1) 0 5 ((B 0 5) + 1))
    let P_40 := fX7_number B_39
    (bput P_40.1 0 8 P_40.2))
  else (bput (bput B 0 7 x_1) 0 6 1)
abbrev rX7_order : Room := { frames := 4, cells := 0, slots := 0, locals := 87 }
set_option maxHeartbeats 4000000 in
set_option maxRecDepth 100000 in
theorem kX7_order (l : Launch) (G : wG) (Z : wZ) (B : wB)  (N : Nat) (hN : N ≤ 900) (hz : pzl B 0 N) : mV l yX7_order wsX7_order rX7_order G [.ref (G.2.2.1 12 0)] (wset Z 12 B) (wset Z 12 (fX7_order B)) := by
  refine Met.ofW (cc := cX7_order) (maxL := 1) (ret := none) (by decide) rfl ?_
  intro p e s m args below meth c s₁ B0 hml hv
  obtain ⟨rfl, hW, hK, hL⟩ := hv
  have hlocks := B0.notSynchronized
  have hr := B0.returns
  have hC : wX p s m c cX7_order _ wsX7_order RX7 G := ⟨B0.exec, B0.bytes, findClass_of_methodNamed B0.named, atoms_spec (ws := wsX7_order) B0.pre, hK, hL⟩
  have hx := hC.1
  have hb := hC.2.1
  have hts := hC.2.2.2.1
  have hinRX7 : ∀ w ∈ wsX70, w ∈ wsX7_order := by decide +kernel
  have hk0 := hts (.fieldLink RX7 175 "RampShaftsModel" "letter" "I") (by decide +kernel)
  have hk1 := hts (.fieldLink RX7 160 "RampShaftsModel" "spot" "I") (by decide +kernel)
  have hk2 := hts (.fieldLink RX7 178 "RampShaftsModel" "first" "I") (by decide +kernel)
  have hk3 := hts (.fieldLink RX7 163 "RampShaftsModel" "isWrong" "Z") (by decide +kernel)
  have hk4 := hts (.fieldLink RX7 187 "RampShaftsModel" "second" "I") (by decide +kernel)
  have hk5 := hts (.fieldLink RX7 190 "RampShaftsModel" "third" "I") (by decide +kernel)
  have hS : va_S (wA G) s.heap s.heap [] := va_S.rf
  have hl := lv_entry ([.ref (G.2.2.1 12 0)]) (n := 1) (Nat.le_of_ble_eq_true rfl)
  rw [lg_entry_eq]
  generalize (lg_sl ([.ref (G.2.2.1 12 0)]) ++ List.replicate (1 - (lg_sl ([.ref (G.2.2.1 12 0)])).length) Slot.unset).toArray = ls at hl ⊢
  have hl : lv_has ls 1 [(0, .ref (G.2.2.1 12 0))] := hl
  refine lv_aload_n hx hb dX7_order_0 rfl (lv_at hl 0 rfl) ?_
  refine lv_aload_n hx hb dX7_order_1 rfl (lv_at hl 0 rfl) ?_
  refine wc_i hC hml (kX7_next l G Z B (N + 0) (by omega) hz) (cwV 0 hts gX7_order_X7_next rfl rfl rfl (by decide +kernel) ⟨Nat.le_of_ble_eq_true rfl, Nat.le_of_ble_eq_true rfl⟩) hW hS (vM (by decide)) ce_m0 rfl rfl rfl rfl hl.1 (Nat.le_of_ble_eq_true rfl) dX7_order_2 (fun H locs hW hS => ?_)
  refine lv_topi (fun x_1 ex_1 => ?_)
  refine wr_put (Z' := wset Z 12 (bput B 0 7 x_1)) (v := .int x_1) hC hinRX7 tyX7 tyX7_ok nmX7 hW hS (vM (by decide)) ce_m0 rfl 13 (by decide) hk0 rfl (tyX7_ok 13 (by decide)) rfl rfl (Nat.le_of_ble_eq_true rfl) wset_off pu_m0_7 dX7_order_5 (fun H locs hW hS => ?_)
  refine lv_aload_n hx hb dX7_order_8 rfl (lv_at hl 0 rfl) ?_
  refine wr_get hC hinRX7 hW (vM (by decide)) ce_m0 rfl 13 (by decide) hk0 rfl dX7_order_9 ?_
  refine lv_re (y := x_1) (bput_h) ?_
  by_cases c_2 : x_1 = 104
  · refine lv_re c_2 ?_
    refine lv_tableIn (tgt := 220) (off := 208) hx hb dX7_order_12 (by decide) (by decide) (by decide) (by decide) ?_
    refine lv_aload_n hx hb dX7_order_220 rfl (lv_at hl 0 rfl) ?_
    refine lv_dup hx hb dX7_order_221 rfl ?_
    refine wr_get hC hinRX7 hW (vM (by decide)) ce_m0 rfl 11 (by decide) hk1 rfl dX7_order_222 ?_
    refine lv_re (y := B 0 5) (bput_q (by decide)) ?_
    refine lv_iconst (v := 1) hx hb dX7_order_225 (by decide) ?_
    refine lv_iadd hx hb dX7_order_226 ?_
    refine wr_put (Z' := wset Z 12 (bput (bput B 0 7 x_1) 0 5 ((B 0 5) + 1))) (v := .int ((B 0 5) + 1)) hC hinRX7 tyX7 tyX7_ok nmX7 hW hS (vM (by decide)) ce_m0 rfl 11 (by decide) hk1 rfl (tyX7_ok 11 (by decide)) rfl rfl (Nat.le_of_ble_eq_true rfl) wset_off pu_m0_5 dX7_order_227 (fun H locs hW hS => ?_)
    refine lv_aload_n hx hb dX7_order_230 rfl (lv_at hl 0 rfl) ?_
    refine lv_aload_n hx hb dX7_order_231 rfl (lv_at hl 0 rfl) ?_
    obtain ⟨B_3, eB_3⟩ : ∃ y, y = (bput (bput B 0 7 x_1) 0 5 ((B 0 5) + 1)) := ⟨_, rfl⟩
    rw [← eB_3] at hW
    refine wc_i hC hml (kX7_digit l G Z B_3 (N + 1) (by omega) (by rw [eB_3]; exact (pz_inc (n := N + 0) (by omega) (pz_oth hz (by omega)) (by simp [bput, eB_3])))) (cwV 0 hts gX7_order_X7_digit rfl rfl rfl (by decide +kernel) ⟨Nat.le_of_ble_eq_true rfl, Nat.le_of_ble_eq_true rfl⟩) hW hS (vM (by decide)) ce_m0 rfl rfl rfl rfl hl.1 (Nat.le_of_ble_eq_true rfl) dX7_order_232 (fun H locs hW hS => ?_)
    obtain ⟨P_4, eP_4⟩ : ∃ y, y = fX7_digit B_3 := ⟨_, rfl⟩
    rw [← eP_4] at hW ⊢
    refine wr_put (Z' := wset Z 12 (bput P_4.1 0 8 P_4.2)) (v := .int P_4.2) hC hinRX7 tyX7 tyX7_ok nmX7 hW hS (vM (by decide)) ce_m0 rfl 14 (by decide) hk2 rfl (tyX7_ok 14 (by decide)) rfl rfl (Nat.le_of_ble_eq_true rfl) wset_off pu_m0_8 dX7_order_235 (fun H locs hW hS => ?_)
    refine lv_goto (tgt := 246) hx hb dX7_order_238 (by decide) ?_
    have hf : fX7_order B = (bput P_4.1 0 8 P_4.2) := by
      subst eP_4
      subst eB_3
      subst ex_1
      exact (if_pos c_2).trans rfl
    exact we_v hC hr hlocks (congrArg (wset Z 12) hf).symm hW hS dX7_order_246
  by_cases c_5 : x_1 = 105
  · refine lv_re c_5 ?_
    refine lv_tableIn (tgt := 241) (off := 229) hx hb dX7_order_12 (by decide) (by decide) (by decide) (by decide) ?_
    refine lv_aload_n hx hb dX7_order_241 rfl (lv_at hl 0 rfl) ?_
    refine lv_iconst (v := 1) hx hb dX7_order_242 (by decide) ?_
    refine wr_put (Z' := wset Z 12 (bput (bput B 0 7 x_1) 0 6 1)) (v := .int 1) hC hinRX7 tyX7 tyX7_ok nmX7 hW hS (vM (by decide)) ce_m0 rfl 12 (by decide) hk3 rfl (tyX7_ok 12 (by decide)) (by first | rfl | decide | assumption) (by first | rfl | decide) (Nat.le_of_ble_eq_true rfl) wset_off pu_m0_6 dX7_order_243 (fun H locs hW hS => ?_)
    have hf : fX7_order B = (bput (bput B 0 7 x_1) 0 6 1) := by
      subst ex_1
      exact (if_neg c_2).trans ((if_pos c_5).trans rfl)
    exact we_v hC hr hlocks (congrArg (wset Z 12) hf).symm hW hS dX7_order_246
  by_cases c_6 : x_1 = 106
  · refine lv_re c_6 ?_
    refine lv_tableIn (tgt := 241) (off := 229) hx hb dX7_order_12 (by decide) (by decide) (by decide) (by decide) ?_
    refine lv_aload_n hx hb dX7_order_241 rfl (lv_at hl 0 rfl) ?_
    refine lv_iconst (v := 1) hx hb dX7_order_242 (by decide) ?_
    refine wr_put (Z' := wset Z 12 (bput (bput B 0 7 x_1) 0 6 1)) (v := .int 1) hC hinRX7 tyX7 tyX7_ok nmX7 hW hS (vM (by decide)) ce_m0 rfl 12 (by decide) hk3 rfl (tyX7_ok 12 (by decide)) (by first | rfl | decide | assumption) (by first | rfl | decide) (Nat.le_of_ble_eq_true rfl) wset_off pu_m0_6 dX7_order_243 (fun H locs hW hS => ?_)
    have hf : fX7_order B = (bput (bput B 0 7 x_1) 0 6 1) := by
      subst ex_1
      exact (if_neg c_2).trans ((if_neg c_5).trans ((if_pos c_6).trans rfl))
    exact we_v hC hr hlocks (congrArg (wset Z 12) hf).symm hW hS dX7_order_246
  by_cases c_7 : x_1 = 107
  · refine lv_re c_7 ?_
    refine lv_tableIn (tgt := 241) (off := 229) hx hb dX7_order_12 (by decide) (by decide) (by decide) (by decide) ?_
    refine lv_aload_n hx hb dX7_order_241 rfl (lv_at hl 0 rfl) ?_
    refine lv_iconst (v := 1) hx hb dX7_order_242 (by decide) ?_
    refine wr_put (Z' := wset Z 12 (bput (bput B 0 7 x_1) 0 6 1)) (v := .int 1) hC hinRX7 tyX7 tyX7_ok nmX7 hW hS (vM (by decide)) ce_m0 rfl 12 (by decide) hk3 rfl (tyX7_ok 12 (by decide)) (by first | rfl | decide | assumption) (by first | rfl | decide) (Nat.le_of_ble_eq_true rfl) wset_off pu_m0_6 dX7_order_243 (fun H locs hW hS => ?_)
    have hf : fX7_order B = (bput (bput B 0 7 x_1) 0 6 1) := by
      subst ex_1
      exact (if_neg c_2).trans ((if_neg c_5).trans ((if_neg c_6).trans ((if_pos c_7).trans rfl)))
    exact we_v hC hr hlocks (congrArg (wset Z 12) hf).symm hW hS dX7_order_246
  by_cases c_8 : x_1 = 108
  · refine lv_re c_8 ?_
    refine lv_tableIn (tgt := 164) (off := 152) hx hb dX7_order_12 (by decide) (by decide) (by decide) (by decide) ?_
    refine lv_aload_n hx hb dX7_order_164 rfl (lv_at hl 0 rfl) ?_
    refine lv_dup hx hb dX7_order_165 rfl ?_
    refine wr_get hC hinRX7 hW (vM (by decide)) ce_m0 rfl 11 (by decide) hk1 rfl dX7_order_166 ?_
    refine lv_re (y := B 0 5) (bput_q (by decide)) ?_
    refine lv_iconst (v := 1) hx hb dX7_order_169 (by decide) ?_
    refine lv_iadd hx hb dX7_order_170 ?_
    refine wr_put (Z' := wset Z 12 (bput (bput B 0 7 x_1) 0 5 ((B 0 5) + 1))) (v := .int ((B 0 5) + 1)) hC hinRX7 tyX7 tyX7_ok nmX7 hW hS (vM (by decide)) ce_m0 rfl 11 (by decide) hk1 rfl (tyX7_ok 11 (by decide)) rfl rfl (Nat.le_of_ble_eq_true rfl) wset_off pu_m0_5 dX7_order_171 (fun H locs hW hS => ?_)
    refine lv_aload_n hx hb dX7_order_174 rfl (lv_at hl 0 rfl) ?_
    refine lv_aload_n hx hb dX7_order_175 rfl (lv_at hl 0 rfl) ?_
    obtain ⟨B_9, eB_9⟩ : ∃ y, y = (bput (bput B 0 7 x_1) 0 5 ((B 0 5) + 1)) := ⟨_, rfl⟩
    rw [← eB_9] at hW
    refine wc_i hC hml (kX7_digit l G Z B_9 (N + 1) (by omega) (by rw [eB_9]; exact (pz_inc (n := N + 0) (by omega) (pz_oth hz (by omega)) (by simp [bput, eB_9])))) (cwV 0 hts gX7_order_X7_digit rfl rfl rfl (by decide +kernel) ⟨Nat.le_of_ble_eq_true rfl, Nat.le_of_ble_eq_true rfl⟩) hW hS (vM (by decide)) ce_m0 rfl rfl rfl rfl hl.1 (Nat.le_of_ble_eq_true rfl) dX7_order_176 (fun H locs hW hS => ?_)
    obtain ⟨P_10, eP_10⟩ : ∃ y, y = fX7_digit B_9 := ⟨_, rfl⟩
    rw [← eP_10] at hW ⊢
    refine wr_put (Z' := wset Z 12 (bput P_10.1 0 8 P_10.2)) (v := .int P_10.2) hC hinRX7 tyX7 tyX7_ok nmX7 hW hS (vM (by decide)) ce_m0 rfl 14 (by decide) hk2 rfl (tyX7_ok 14 (by decide)) rfl rfl (Nat.le_of_ble_eq_true rfl) wset_off pu_m0_8 dX7_order_179 (fun H locs hW hS => ?_)
    refine lv_aload_n hx hb dX7_order_182 rfl (lv_at hl 0 rfl) ?_
    refine lv_bipush (v := 61) hx hb dX7_order_183 (by decide) ?_
    obtain ⟨B_11, eB_11⟩ : ∃ y, y = (bput P_10.1 0 8 P_10.2) := ⟨_, rfl⟩
    rw [← eB_11] at hW
    refine wc_v hC hml (kX7_sign l G Z B_11 61 (N + 2) (by omega) (by rw [eB_11]; exact (pz_oth (by rw [eP_10]; exact pzX7_digit (n := N + 1) (by omega) (by rw [eB_9]; exact (pz_inc (n := N + 0) (by omega) (pz_oth hz (by omega)) (by simp [bput, eB_9, eB_11])))) (by omega)))) (cwV 1 hts gX7_order_X7_sign rfl rfl rfl (by decide +kernel) ⟨Nat.le_of_ble_eq_true rfl, Nat.le_of_ble_eq_true rfl⟩) hW hS (vM (by decide)) ce_m0 rfl rfl rfl rfl hl.1 (Nat.le_of_ble_eq_true rfl) dX7_order_185 (fun H locs hW hS => ?_)
    obtain ⟨B_12, eB_12⟩ : ∃ y, y = fX7_sign B_11 61 := ⟨_, rfl⟩
    rw [← eB_12] at hW
    refine lv_aload_n hx hb dX7_order_188 rfl (lv_at hl 0 rfl) ?_
    refine lv_aload_n hx hb dX7_order_189 rfl (lv_at hl 0 rfl) ?_
    refine wc_i hC hml (kX7_digit l G Z B_12 (N + 3) (by omega) (by rw [eB_12]; exact pzX7_sign (n := N + 2) (by omega) (by rw [eB_11]; exact (pz_oth (by rw [eP_10]; exact pzX7_digit (n := N + 1) (by omega) (by rw [eB_9]; exact (pz_inc (n := N + 0) (by omega) (pz_oth hz (by omega)) (by simp [bput, eB_9, eB_11])))) (by omega))))) (cwV 0 hts gX7_order_X7_digit rfl rfl rfl (by decide +kernel) ⟨Nat.le_of_ble_eq_true rfl, Nat.le_of_ble_eq_true rfl⟩) hW hS (vM (by decide)) ce_m0 rfl rfl rfl rfl hl.1 (Nat.le_of_ble_eq_true rfl) dX7_order_190 (fun H locs hW hS => ?_)
    obtain ⟨P_13, eP_13⟩ : ∃ y, y = fX7_digit B_12 := ⟨_, rfl⟩
    rw [← eP_13] at hW ⊢
    refine wr_put (Z' := wset Z 12 (bput P_13.1 0 9 P_13.2)) (v := .int P_13.2) hC hinRX7 tyX7 tyX7_ok nmX7 hW hS (vM (by decide)) ce_m0 rfl 15 (by decide) hk4 rfl (tyX7_ok 15 (by decide)) rfl rfl (Nat.le_of_ble_eq_true rfl) wset_off pu_m0_9 dX7_order_193 (fun H locs hW hS => ?_)
    refine lv_goto (tgt := 246) hx hb dX7_order_196 (by decide) ?_
    have hf : fX7_order B = (bput P_13.1 0 9 P_13.2) := by
      subst eP_13
      subst eB_12
      subst eB_11
      subst eP_10
      subst eB_9
      subst ex_1
      exact (if_neg c_2).trans ((if_neg c_5).trans ((if_neg c_6).trans ((if_neg c_7).trans ((if_pos c_8).trans rfl))))
    exact we_v hC hr hlocks (congrArg (wset Z 12) hf).symm hW hS dX7_order_246
  by_cases c_14 : x_1 = 109
  · refine lv_re c_14 ?_
    refine lv_tableIn (tgt := 80) (off := 68) hx hb dX7_order_12 (by decide) (by decide) (by decide) (by decide) ?_
    refine lv_aload_n hx hb dX7_order_80 rfl (lv_at hl 0 rfl) ?_
    refine lv_dup hx hb dX7_order_81 rfl ?_
    refine wr_get hC hinRX7 hW (vM (by decide)) ce_m0 rfl 11 (by decide) hk1 rfl dX7_order_82 ?_
    refine lv_re (y := B 0 5) (bput_q (by decide)) ?_
    refine lv_iconst (v := 1) hx hb dX7_order_85 (by decide) ?_
    refine lv_iadd hx hb dX7_order_86 ?_
    refine wr_put (Z' := wset Z 12 (bput (bput B 0 7 x_1) 0 5 ((B 0 5) + 1))) (v := .int ((B 0 5) + 1)) hC hinRX7 tyX7 tyX7_ok nmX7 hW hS (vM (by decide)) ce_m0 rfl 11 (by decide) hk1 rfl (tyX7_ok 11 (by decide)) rfl rfl (Nat.le_of_ble_eq_true rfl) wset_off pu_m0_5 dX7_order_87 (fun H locs hW hS => ?_)
    refine lv_aload_n hx hb dX7_order_90 rfl (lv_at hl 0 rfl) ?_
    refine lv_aload_n hx hb dX7_order_91 rfl (lv_at hl 0 rfl) ?_
    obtain ⟨B_15, eB_15⟩ : ∃ y, y = (bput (bput B 0 7 x_1) 0 5 ((B 0 5) + 1)) := ⟨_, rfl⟩
    rw [← eB_15] at hW
    refine wc_i hC hml (kX7_digit l G Z B_15 (N + 1) (by omega) (by rw [eB_15]; exact (pz_inc (n := N + 0) (by omega) (pz_oth hz (by omega)) (by simp [bput, eB_15])))) (cwV 0 hts gX7_order_X7_digit rfl rfl rfl (by decide +kernel) ⟨Nat.le_of_ble_eq_true rfl, Nat.le_of_ble_eq_true rfl⟩) hW hS (vM (by decide)) ce_m0 rfl rfl rfl rfl hl.1 (Nat.le_of_ble_eq_true rfl) dX7_order_92 (fun H locs hW hS => ?_)
    obtain ⟨P_16, eP_16⟩ : ∃ y, y = fX7_digit B_15 := ⟨_, rfl⟩
    rw [← eP_16] at hW ⊢
    refine wr_put (Z' := wset Z 12 (bput P_16.1 0 8 P_16.2)) (v := .int P_16.2) hC hinRX7 tyX7 tyX7_ok nmX7 hW hS (vM (by decide)) ce_m0 rfl 14 (by decide) hk2 rfl (tyX7_ok 14 (by decide)) rfl rfl (Nat.le_of_ble_eq_true rfl) wset_off pu_m0_8 dX7_order_95 (fun H locs hW hS => ?_)
    refine lv_aload_n hx hb dX7_order_98 rfl (lv_at hl 0 rfl) ?_
    refine lv_bipush (v := 64) hx hb dX7_order_99 (by decide) ?_
    obtain ⟨B_17, eB_17⟩ : ∃ y, y = (bput P_16.1 0 8 P_16.2) := ⟨_, rfl⟩
    rw [← eB_17] at hW
    refine wc_v hC hml (kX7_sign l G Z B_17 64 (N + 2) (by omega) (by rw [eB_17]; exact (pz_oth (by rw [eP_16]; exact pzX7_digit (n := N + 1) (by omega) (by rw [eB_15]; exact (pz_inc (n := N + 0) (by omega) (pz_oth hz (by omega)) (by simp [bput, eB_15, eB_17])))) (by omega)))) (cwV 1 hts gX7_order_X7_sign rfl rfl rfl (by decide +kernel) ⟨Nat.le_of_ble_eq_true rfl, Nat.le_of_ble_eq_true rfl⟩) hW hS (vM (by decide)) ce_m0 rfl rfl rfl rfl hl.1 (Nat.le_of_ble_eq_true rfl) dX7_order_101 (fun H locs hW hS => ?_)
    obtain ⟨B_18, eB_18⟩ : ∃ y, y = fX7_sign B_17 64 := ⟨_, rfl⟩
    rw [← eB_18] at hW
    refine lv_aload_n hx hb dX7_order_104 rfl (lv_at hl 0 rfl) ?_
    refine lv_aload_n hx hb dX7_order_105 rfl (lv_at hl 0 rfl) ?_
    refine wc_i hC hml (kX7_place l G Z B_18 (N + 3) (by omega) (by rw [eB_18]; exact pzX7_sign (n := N + 2) (by omega) (by rw [eB_17]; exact (pz_oth (by rw [eP_16]; exact pzX7_digit (n := N + 1) (by omega) (by rw [eB_15]; exact (pz_inc (n := N + 0) (by omega) (pz_oth hz (by omega)) (by simp [bput, eB_15, eB_17])))) (by omega))))) (cwV 0 hts gX7_order_X7_place rfl rfl rfl (by decide +kernel) ⟨Nat.le_of_ble_eq_true rfl, Nat.le_of_ble_eq_true rfl⟩) hW hS (vM (by decide)) ce_m0 rfl rfl rfl rfl hl.1 (Nat.le_of_ble_eq_true rfl) dX7_order_106 (fun H locs hW hS => ?_)
    obtain ⟨P_19, eP_19⟩ : ∃ y, y = fX7_place B_18 := ⟨_, rfl⟩
    rw [← eP_19] at hW ⊢
    refine wr_put (Z' := wset Z 12 (bput P_19.1 0 9 P_19.2)) (v := .int P_19.2) hC hinRX7 tyX7 tyX7_ok nmX7 hW hS (vM (by decide)) ce_m0 rfl 15 (by decide) hk4 rfl (tyX7_ok 15 (by decide)) rfl rfl (Nat.le_of_ble_eq_true rfl) wset_off pu_m0_9 dX7_order_109 (fun H locs hW hS => ?_)
    refine lv_goto (tgt := 246) hx hb dX7_order_112 (by decide) ?_
    have hf : fX7_order B = (bput P_19.1 0 9 P_19.2) := by
      subst eP_19
      subst eB_18
      subst eB_17
      subst eP_16
      subst eB_15
      subst ex_1
      exact (if_neg c_2).trans ((if_neg c_5).trans ((if_neg c_6).trans ((if_neg c_7).trans ((if_neg c_8).trans ((if_pos c_14).trans rfl)))))
    exact we_v hC hr hlocks (congrArg (wset Z 12) hf).symm hW hS dX7_order_246
  by_cases c_20 : x_1 = 110
  · refine lv_re c_20 ?_
    refine lv_tableIn (tgt := 220) (off := 208) hx hb dX7_order_12 (by decide) (by decide) (by decide) (by decide) ?_
    refine lv_aload_n hx hb dX7_order_220 rfl (lv_at hl 0 rfl) ?_
    refine lv_dup hx hb dX7_order_221 rfl ?_
    refine wr_get hC hinRX7 hW (vM (by decide)) ce_m0 rfl 11 (by decide) hk1 rfl dX7_order_222 ?_
    refine lv_re (y := B 0 5) (bput_q (by decide)) ?_
    refine lv_iconst (v := 1) hx hb dX7_order_225 (by decide) ?_
    refine lv_iadd hx hb dX7_order_226 ?_
    refine wr_put (Z' := wset Z 12 (bput (bput B 0 7 x_1) 0 5 ((B 0 5) + 1))) (v := .int ((B 0 5) + 1)) hC hinRX7 tyX7 tyX7_ok nmX7 hW hS (vM (by decide)) ce_m0 rfl 11 (by decide) hk1 rfl (tyX7_ok 11 (by decide)) rfl rfl (Nat.le_of_ble_eq_true rfl) wset_off pu_m0_5 dX7_order_227 (fun H locs hW hS => ?_)
    refine lv_aload_n hx hb dX7_order_230 rfl (lv_at hl 0 rfl) ?_
    refine lv_aload_n hx hb dX7_order_231 rfl (lv_at hl 0 rfl) ?_
    obtain ⟨B_21, eB_21⟩ : ∃ y, y = (bput (bput B 0 7 x_1) 0 5 ((B 0 5) + 1)) := ⟨_, rfl⟩
    rw [← eB_21] at hW
    refine wc_i hC hml (kX7_digit l G Z B_21 (N + 1) (by omega) (by rw [eB_21]; exact (pz_inc (n := N + 0) (by omega) (pz_oth hz (by omega)) (by simp [bput, eB_21])))) (cwV 0 hts gX7_order_X7_digit rfl rfl rfl (by decide +kernel) ⟨Nat.le_of_ble_eq_true rfl, Nat.le_of_ble_eq_true rfl⟩) hW hS (vM (by decide)) ce_m0 rfl rfl rfl rfl hl.1 (Nat.le_of_ble_eq_true rfl) dX7_order_232 (fun H locs hW hS => ?_)
    obtain ⟨P_22, eP_22⟩ : ∃ y, y = fX7_digit B_21 := ⟨_, rfl⟩
    rw [← eP_22] at hW ⊢
    refine wr_put (Z' := wset Z 12 (bput P_22.1 0 8 P_22.2)) (v := .int P_22.2) hC hinRX7 tyX7 tyX7_ok nmX7 hW hS (vM (by decide)) ce_m0 rfl 14 (by decide) hk2 rfl (tyX7_ok 14 (by decide)) rfl rfl (Nat.le_of_ble_eq_true rfl) wset_off pu_m0_8 dX7_order_235 (fun H locs hW hS => ?_)
    refine lv_goto (tgt := 246) hx hb dX7_order_238 (by decide) ?_
    have hf : fX7_order B = (bput P_22.1 0 8 P_22.2) := by
      subst eP_22
      subst eB_21
      subst ex_1
      exact (if_neg c_2).trans ((if_neg c_5).trans ((if_neg c_6).trans ((if_neg c_7).trans ((if_neg c_8).trans ((if_neg c_14).trans ((if_pos c_20).trans rfl))))))
    exact we_v hC hr hlocks (congrArg (wset Z 12) hf).symm hW hS dX7_order_246
  by_cases c_23 : x_1 = 111
  · refine lv_re c_23 ?_
    refine lv_tableIn (tgt := 241) (off := 229) hx hb dX7_order_12 (by decide) (by decide) (by decide) (by decide) ?_
    refine lv_aload_n hx hb dX7_order_241 rfl (lv_at hl 0 rfl) ?_
    refine lv_iconst (v := 1) hx hb dX7_order_242 (by decide) ?_
    refine wr_put (Z' := wset Z 12 (bput (bput B 0 7 x_1) 0 6 1)) (v := .int 1) hC hinRX7 tyX7 tyX7_ok nmX7 hW hS (vM (by decide)) ce_m0 rfl 12 (by decide) hk3 rfl (tyX7_ok 12 (by decide)) (by first | rfl | decide | assumption) (by first | rfl | decide) (Nat.le_of_ble_eq_true rfl) wset_off pu_m0_6 dX7_order_243 (fun H locs hW hS => ?_)
    have hf : fX7_order B = (bput (bput B 0 7 x_1) 0 6 1) := by
      subst ex_1
      exact (if_neg c_2).trans ((if_neg c_5).trans ((if_neg c_6).trans ((if_neg c_7).trans ((if_neg c_8).trans ((if_neg c_14).trans ((if_neg c_20).trans ((if_pos c_23).trans rfl)))))))
    exact we_v hC hr hlocks (congrArg (wset Z 12) hf).symm hW hS dX7_order_246
  by_cases c_24 : x_1 = 112
  · refine lv_re c_24 ?_
    refine lv_tableIn (tgt := 115) (off := 103) hx hb dX7_order_12 (by decide) (by decide) (by decide) (by decide) ?_
    refine lv_aload_n hx hb dX7_order_115 rfl (lv_at hl 0 rfl) ?_
    refine lv_dup hx hb dX7_order_116 rfl ?_
    refine wr_get hC hinRX7 hW (vM (by decide)) ce_m0 rfl 11 (by decide) hk1 rfl dX7_order_117 ?_
    refine lv_re (y := B 0 5) (bput_q (by decide)) ?_
    refine lv_iconst (v := 1) hx hb dX7_order_120 (by decide) ?_
    refine lv_iadd hx hb dX7_order_121 ?_
    refine wr_put (Z' := wset Z 12 (bput (bput B 0 7 x_1) 0 5 ((B 0 5) + 1))) (v := .int ((B 0 5) + 1)) hC hinRX7 tyX7 tyX7_ok nmX7 hW hS (vM (by decide)) ce_m0 rfl 11 (by decide) hk1 rfl (tyX7_ok 11 (by decide)) rfl rfl (Nat.le_of_ble_eq_true rfl) wset_off pu_m0_5 dX7_order_122 (fun H locs hW hS => ?_)
    refine lv_aload_n hx hb dX7_order_125 rfl (lv_at hl 0 rfl) ?_
    refine lv_aload_n hx hb dX7_order_126 rfl (lv_at hl 0 rfl) ?_
    obtain ⟨B_25, eB_25⟩ : ∃ y, y = (bput (bput B 0 7 x_1) 0 5 ((B 0 5) + 1)) := ⟨_, rfl⟩
    rw [← eB_25] at hW
    refine wc_i hC hml (kX7_number l G Z B_25 (N + 1) (by omega) (by rw [eB_25]; exact (pz_inc (n := N + 0) (by omega) (pz_oth hz (by omega)) (by simp [bput, eB_25])))) (cwV 0 hts gX7_order_X7_number rfl rfl rfl (by decide +kernel) ⟨Nat.le_of_ble_eq_true rfl, Nat.le_of_ble_eq_true rfl⟩) hW hS (vM (by decide)) ce_m0 rfl rfl rfl rfl hl.1 (Nat.le_of_ble_eq_true rfl) dX7_order_127 (fun H locs hW hS => ?_)
    obtain ⟨P_26, eP_26⟩ : ∃ y, y = fX7_number B_25 := ⟨_, rfl⟩
    rw [← eP_26] at hW ⊢
    refine wr_put (Z' := wset Z 12 (bput P_26.1 0 8 P_26.2)) (v := .int P_26.2) hC hinRX7 tyX7 tyX7_ok nmX7 hW hS (vM (by decide)) ce_m0 rfl 14 (by decide) hk2 rfl (tyX7_ok 14 (by decide)) rfl rfl (Nat.le_of_ble_eq_true rfl) wset_off pu_m0_8 dX7_order_130 (fun H locs hW hS => ?_)
    refine lv_aload_n hx hb dX7_order_133 rfl (lv_at hl 0 rfl) ?_
    refine lv_bipush (v := 58) hx hb dX7_order_134 (by decide) ?_
    obtain ⟨B_27, eB_27⟩ : ∃ y, y = (bput P_26.1 0 8 P_26.2) := ⟨_, rfl⟩
    rw [← eB_27] at hW
    refine wc_v hC hml (kX7_sign l G Z B_27 58 (N + 5) (by omega) (by rw [eB_27]; exact (pz_oth (by rw [eP_26]; exact pzX7_number (n := N + 1) (by omega) (by rw [eB_25]; exact (pz_inc (n := N + 0) (by omega) (pz_oth hz (by omega)) (by simp [bput, eB_25, eB_27])))) (by omega)))) (cwV 1 hts gX7_order_X7_sign rfl rfl rfl (by decide +kernel) ⟨Nat.le_of_ble_eq_true rfl, Nat.le_of_ble_eq_true rfl⟩) hW hS (vM (by decide)) ce_m0 rfl rfl rfl rfl hl.1 (Nat.le_of_ble_eq_true rfl) dX7_order_136 (fun H locs hW hS => ?_)
    obtain ⟨B_28, eB_28⟩ : ∃ y, y = fX7_sign B_27 58 := ⟨_, rfl⟩
    rw [← eB_28] at hW
    refine lv_aload_n hx hb dX7_order_139 rfl (lv_at hl 0 rfl) ?_
    refine lv_aload_n hx hb dX7_order_140 rfl (lv_at hl 0 rfl) ?_
    refine wc_i hC hml (kX7_digit l G Z B_28 (N + 6) (by omega) (by rw [eB_28]; exact pzX7_sign (n := N + 5) (by omega) (by rw [eB_27]; exact (pz_oth (by rw [eP_26]; exact pzX7_number (n := N + 1) (by omega) (by rw [eB_25]; exact (pz_inc (n := N + 0) (by omega) (pz_oth hz (by omega)) (by simp [bput, eB_25, eB_27])))) (by omega))))) (cwV 0 hts gX7_order_X7_digit rfl rfl rfl (by decide +kernel) ⟨Nat.le_of_ble_eq_true rfl, Nat.le_of_ble_eq_true rfl⟩) hW hS (vM (by decide)) ce_m0 rfl rfl rfl rfl hl.1 (Nat.le_of_ble_eq_true rfl) dX7_order_141 (fun H locs hW hS => ?_)
    obtain ⟨P_29, eP_29⟩ : ∃ y, y = fX7_digit B_28 := ⟨_, rfl⟩
    rw [← eP_29] at hW ⊢
    refine wr_put (Z' := wset Z 12 (bput P_29.1 0 9 P_29.2)) (v := .int P_29.2) hC hinRX7 tyX7 tyX7_ok nmX7 hW hS (vM (by decide)) ce_m0 rfl 15 (by decide) hk4 rfl (tyX7_ok 15 (by decide)) rfl rfl (Nat.le_of_ble_eq_true rfl) wset_off pu_m0_9 dX7_order_144 (fun H locs hW hS => ?_)
    refine lv_aload_n hx hb dX7_order_147 rfl (lv_at hl 0 rfl) ?_
    refine lv_bipush (v := 64) hx hb dX7_order_148 (by decide) ?_
    obtain ⟨B_30, eB_30⟩ : ∃ y, y = (bput P_29.1 0 9 P_29.2) := ⟨_, rfl⟩
    rw [← eB_30] at hW
    refine wc_v hC hml (kX7_sign l G Z B_30 64 (N + 7) (by omega) (by rw [eB_30]; exact (pz_oth (by rw [eP_29]; exact pzX7_digit (n := N + 6) (by omega) (by rw [eB_28]; exact pzX7_sign (n := N + 5) (by omega) (by rw [eB_27]; exact (pz_oth (by rw [eP_26]; exact pzX7_number (n := N + 1) (by omega) (by rw [eB_25]; exact (pz_inc (n := N + 0) (by omega) (pz_oth hz (by omega)) (by simp [bput, eB_25, eB_27, eB_30])))) (by omega))))) (by omega)))) (cwV 1 hts gX7_order_X7_sign rfl rfl rfl (by decide +kernel) ⟨Nat.le_of_ble_eq_true rfl, Nat.le_of_ble_eq_true rfl⟩) hW hS (vM (by decide)) ce_m0 rfl rfl rfl rfl hl.1 (Nat.le_of_ble_eq_true rfl) dX7_order_150 (fun H locs hW hS => ?_)
    obtain ⟨B_31, eB_31⟩ : ∃ y, y = fX7_sign B_30 64 := ⟨_, rfl⟩
    rw [← eB_31] at hW
    refine lv_aload_n hx hb dX7_order_153 rfl (lv_at hl 0 rfl) ?_
    refine lv_aload_n hx hb dX7_order_154 rfl (lv_at hl 0 rfl) ?_
    refine wc_i hC hml (kX7_place l G Z B_31 (N + 8) (by omega) (by rw [eB_31]; exact pzX7_sign (n := N + 7) (by omega) (by rw [eB_30]; exact (pz_oth (by rw [eP_29]; exact pzX7_digit (n := N + 6) (by omega) (by rw [eB_28]; exact pzX7_sign (n := N + 5) (by omega) (by rw [eB_27]; exact (pz_oth (by rw [eP_26]; exact pzX7_number (n := N + 1) (by omega) (by rw [eB_25]; exact (pz_inc (n := N + 0) (by omega) (pz_oth hz (by omega)) (by simp [bput, eB_25, eB_27, eB_30])))) (by omega))))) (by omega))))) (cwV 0 hts gX7_order_X7_place rfl rfl rfl (by decide +kernel) ⟨Nat.le_of_ble_eq_true rfl, Nat.le_of_ble_eq_true rfl⟩) hW hS (vM (by decide)) ce_m0 rfl rfl rfl rfl hl.1 (Nat.le_of_ble_eq_true rfl) dX7_order_155 (fun H locs hW hS => ?_)
    obtain ⟨P_32, eP_32⟩ : ∃ y, y = fX7_place B_31 := ⟨_, rfl⟩
    rw [← eP_32] at hW ⊢
    refine wr_put (Z' := wset Z 12 (bput P_32.1 0 10 P_32.2)) (v := .int P_32.2) hC hinRX7 tyX7 tyX7_ok nmX7 hW hS (vM (by decide)) ce_m0 rfl 16 (by decide) hk5 rfl (tyX7_ok 16 (by decide)) rfl rfl (Nat.le_of_ble_eq_true rfl) wset_off pu_m0_10 dX7_order_158 (fun H locs hW hS => ?_)
    refine lv_goto (tgt := 246) hx hb dX7_order_161 (by decide) ?_
    have hf : fX7_order B = (bput P_32.1 0 10 P_32.2) := by
      subst eP_32
      subst eB_31
      subst eB_30
      subst eP_29
      subst eB_28
      subst eB_27
      subst eP_26
      subst eB_25
      subst ex_1
      exact (if_neg c_2).trans ((if_neg c_5).trans ((if_neg c_6).trans ((if_neg c_7).trans ((if_neg c_8).trans ((if_neg c_14).trans ((if_neg c_20).trans ((if_neg c_23).trans ((if_pos c_24).trans rfl))))))))
    exact we_v hC hr hlocks (congrArg (wset Z 12) hf).symm hW hS dX7_order_246
  by_cases c_33 : x_1 = 113
  · refine lv_re c_33 ?_
    refine lv_tableIn (tgt := 241) (off := 229) hx hb dX7_order_12 (by decide) (by decide) (by decide) (by decide) ?_
    refine lv_aload_n hx hb dX7_order_241 rfl (lv_at hl 0 rfl) ?_
    refine lv_iconst (v := 1) hx hb dX7_order_242 (by decide) ?_
    refine wr_put (Z' := wset Z 12 (bput (bput B 0 7 x_1) 0 6 1)) (v := .int 1) hC hinRX7 tyX7 tyX7_ok nmX7 hW hS (vM (by decide)) ce_m0 rfl 12 (by decide) hk3 rfl (tyX7_ok 12 (by decide)) (by first | rfl | decide | assumption) (by first | rfl | decide) (Nat.le_of_ble_eq_true rfl) wset_off pu_m0_6 dX7_order_243 (fun H locs hW hS => ?_)
    have hf : fX7_order B = (bput (bput B 0 7 x_1) 0 6 1) := by
      subst ex_1
      exact (if_neg c_2).trans ((if_neg c_5).trans ((if_neg c_6).trans ((if_neg c_7).trans ((if_neg c_8).trans ((if_neg c_14).trans ((if_neg c_20).trans ((if_neg c_23).trans ((if_neg c_24).trans ((if_pos c_33).trans rfl)))))))))
    exact we_v hC hr hlocks (congrArg (wset Z 12) hf).symm hW hS dX7_order_246
  by_cases c_34 : x_1 = 114
  · refine lv_re c_34 ?_
    refine lv_tableIn (tgt := 241) (off := 229) hx hb dX7_order_12 (by decide) (by decide) (by decide) (by decide) ?_
    refine lv_aload_n hx hb dX7_order_241 rfl (lv_at hl 0 rfl) ?_
    refine lv_iconst (v := 1) hx hb dX7_order_242 (by decide) ?_
    refine wr_put (Z' := wset Z 12 (bput (bput B 0 7 x_1) 0 6 1)) (v := .int 1) hC hinRX7 tyX7 tyX7_ok nmX7 hW hS (vM (by decide)) ce_m0 rfl 12 (by decide) hk3 rfl (tyX7_ok 12 (by decide)) (by first | rfl | decide | assumption) (by first | rfl | decide) (Nat.le_of_ble_eq_true rfl) wset_off pu_m0_6 dX7_order_243 (fun H locs hW hS => ?_)
    have hf : fX7_order B = (bput (bput B 0 7 x_1) 0 6 1) := by
      subst ex_1
      exact (if_neg c_2).trans ((if_neg c_5).trans ((if_neg c_6).trans ((if_neg c_7).trans ((if_neg c_8).trans ((if_neg c_14).trans ((if_neg c_20).trans ((if_neg c_23).trans ((if_neg c_24).trans ((if_neg c_33).trans ((if_pos c_34).trans rfl))))))))))
    exact we_v hC hr hlocks (congrArg (wset Z 12) hf).symm hW hS dX7_order_246
  by_cases c_35 : x_1 = 115
  · refine lv_re c_35 ?_
    refine lv_tableIn (tgt := 220) (off := 208) hx hb dX7_order_12 (by decide) (by decide) (by decide) (by decide) ?_
    refine lv_aload_n hx hb dX7_order_220 rfl (lv_at hl 0 rfl) ?_
    refine lv_dup hx hb dX7_order_221 rfl ?_
    refine wr_get hC hinRX7 hW (vM (by decide)) ce_m0 rfl 11 (by decide) hk1 rfl dX7_order_222 ?_
    refine lv_re (y := B 0 5) (bput_q (by decide)) ?_
    refine lv_iconst (v := 1) hx hb dX7_order_225 (by decide) ?_
    refine lv_iadd hx hb dX7_order_226 ?_
    refine wr_put (Z' := wset Z 12 (bput (bput B 0 7 x_1) 0 5 ((B 0 5) + 1))) (v := .int ((B 0 5) + 1)) hC hinRX7 tyX7 tyX7_ok nmX7 hW hS (vM (by decide)) ce_m0 rfl 11 (by decide) hk1 rfl (tyX7_ok 11 (by decide)) rfl rfl (Nat.le_of_ble_eq_true rfl) wset_off pu_m0_5 dX7_order_227 (fun H locs hW hS => ?_)
    refine lv_aload_n hx hb dX7_order_230 rfl (lv_at hl 0 rfl) ?_
    refine lv_aload_n hx hb dX7_order_231 rfl (lv_at hl 0 rfl) ?_
    obtain ⟨B_36, eB_36⟩ : ∃ y, y = (bput (bput B 0 7 x_1) 0 5 ((B 0 5) + 1)) := ⟨_, rfl⟩
    rw [← eB_36] at hW
    refine wc_i hC hml (kX7_digit l G Z B_36 (N + 1) (by omega) (by rw [eB_36]; exact (pz_inc (n := N + 0) (by omega) (pz_oth hz (by omega)) (by simp [bput, eB_36])))) (cwV 0 hts gX7_order_X7_digit rfl rfl rfl (by decide +kernel) ⟨Nat.le_of_ble_eq_true rfl, Nat.le_of_ble_eq_true rfl⟩) hW hS (vM (by decide)) ce_m0 rfl rfl rfl rfl hl.1 (Nat.le_of_ble_eq_true rfl) dX7_order_232 (fun H locs hW hS => ?_)
    obtain ⟨P_37, eP_37⟩ : ∃ y, y = fX7_digit B_36 := ⟨_, rfl⟩
    rw [← eP_37] at hW ⊢
    refine wr_put (Z' := wset Z 12 (bput P_37.1 0 8 P_37.2)) (v := .int P_37.2) hC hinRX7 tyX7 tyX7_ok nmX7 hW hS (vM (by decide)) ce_m0 rfl 14 (by decide) hk2 rfl (tyX7_ok 14 (by decide)) rfl rfl (Nat.le_of_ble_eq_true rfl) wset_off pu_m0_8 dX7_order_235 (fun H locs hW hS => ?_)
    refine lv_goto (tgt := 246) hx hb dX7_order_238 (by decide) ?_
    have hf : fX7_order B = (bput P_37.1 0 8 P_37.2) := by
      subst eP_37
      subst eB_36
      subst ex_1
      exact (if_neg c_2).trans ((if_neg c_5).trans ((if_neg c_6).trans ((if_neg c_7).trans ((if_neg c_8).trans ((if_neg c_14).trans ((if_neg c_20).trans ((if_neg c_23).trans ((if_neg c_24).trans ((if_neg c_33).trans ((if_neg c_34).trans ((if_pos c_35).trans rfl)))))))))))
    exact we_v hC hr hlocks (congrArg (wset Z 12) hf).symm hW hS dX7_order_246
  by_cases c_38 : x_1 = 116
  · refine lv_re c_38 ?_
    refine lv_tableIn (tgt := 199) (off := 187) hx hb dX7_order_12 (by decide) (by decide) (by decide) (by decide) ?_
    refine lv_aload_n hx hb dX7_order_199 rfl (lv_at hl 0 rfl) ?_
    refine lv_dup hx hb dX7_order_200 rfl ?_
    refine wr_get hC hinRX7 hW (vM (by decide)) ce_m0 rfl 11 (by decide) hk1 rfl dX7_order_201 ?_
    refine lv_re (y := B 0 5) (bput_q (by decide)) ?_
    refine lv_iconst (v := 1) hx hb dX7_order_204 (by decide) ?_
    refine lv_iadd hx hb dX7_order_205 ?_
    refine wr_put (Z' := wset Z 12 (bput (bput B 0 7 x_1) 0 5 ((B 0 5) + 1))) (v := .int ((B 0 5) + 1)) hC hinRX7 tyX7 tyX7_ok nmX7 hW hS (vM (by decide)) ce_m0 rfl 11 (by decide) hk1 rfl (tyX7_ok 11 (by decide)) rfl rfl (Nat.le_of_ble_eq_true rfl) wset_off pu_m0_5 dX7_order_206 (fun H locs hW hS => ?_)
    refine lv_aload_n hx hb dX7_order_209 rfl (lv_at hl 0 rfl) ?_
    refine lv_aload_n hx hb dX7_order_210 rfl (lv_at hl 0 rfl) ?_
    obtain ⟨B_39, eB_39⟩ : ∃ y, y = (bput (bput B 0 7 x_1) 0 5 ((B 0 5) + 1)) := ⟨_, rfl⟩
    rw [← eB_39] at hW
    refine wc_i hC hml (kX7_number l G Z B_39 (N + 1) (by omega) (by rw [eB_39]; exact (pz_inc (n := N + 0) (by omega) (pz_oth hz (by omega)) (by simp [bput, eB_39])))) (cwV 0 hts gX7_order_X7_number rfl rfl rfl (by decide +kernel) ⟨Nat.le_of_ble_eq_true rfl, Nat.le_of_ble_eq_true rfl⟩) hW hS (vM (by decide)) ce_m0 rfl rfl rfl rfl hl.1 (Nat.le_of_ble_eq_true rfl) dX7_order_211 (fun H locs hW hS => ?_)
    obtain ⟨P_40, eP_40⟩ : ∃ y, y = fX7_number B_39 := ⟨_, rfl⟩
    rw [← eP_40] at hW ⊢
    refine wr_put (Z' := wset Z 12 (bput P_40.1 0 8 P_40.2)) (v := .int P_40.2) hC hinRX7 tyX7 tyX7_ok nmX7 hW hS (vM (by decide)) ce_m0 rfl 14 (by decide) hk2 rfl (tyX7_ok 14 (by decide)) rfl rfl (Nat.le_of_ble_eq_true rfl) wset_off pu_m0_8 dX7_order_214 (fun H locs hW hS => ?_)
    refine lv_goto (tgt := 246) hx hb dX7_order_217 (by decide) ?_
    have hf : fX7_order B = (bput P_40.1 0 8 P_40.2) := by
      subst eP_40
      subst eB_39
      subst ex_1
      exact (if_neg c_2).trans ((if_neg c_5).trans ((if_neg c_6).trans ((if_neg c_7).trans ((if_neg c_8).trans ((if_neg c_14).trans ((if_neg c_20).trans ((if_neg c_23).trans ((if_neg c_24).trans ((if_neg c_33).trans ((if_neg c_34).trans ((if_neg c_35).trans ((if_pos c_38).trans rfl))))))))))))
    exact we_v hC hr hlocks (congrArg (wset Z 12) hf).symm hW hS dX7_order_246
  refine lv_tableOut (tgt := 241) hx hb dX7_order_12 (by
    have hz : ∀ k : Int32, ¬ x_1 = k → ¬ x_1.toInt = k.toInt := fun k h q => h (Int32.toInt_inj.mp q)
    have c_2z : ¬ x_1.toInt = 104 := fun q => hz 104 c_2 (q.trans (by decide))
    have c_5z : ¬ x_1.toInt = 105 := fun q => hz 105 c_5 (q.trans (by decide))
    have c_6z : ¬ x_1.toInt = 106 := fun q => hz 106 c_6 (q.trans (by decide))
    have c_7z : ¬ x_1.toInt = 107 := fun q => hz 107 c_7 (q.trans (by decide))
    have c_8z : ¬ x_1.toInt = 108 := fun q => hz 108 c_8 (q.trans (by decide))
    have c_14z : ¬ x_1.toInt = 109 := fun q => hz 109 c_14 (q.trans (by decide))
    have c_20z : ¬ x_1.toInt = 110 := fun q => hz 110 c_20 (q.trans (by decide))
    have c_23z : ¬ x_1.toInt = 111 := fun q => hz 111 c_23 (q.trans (by decide))
    have c_24z : ¬ x_1.toInt = 112 := fun q => hz 112 c_24 (q.trans (by decide))
    have c_33z : ¬ x_1.toInt = 113 := fun q => hz 113 c_33 (q.trans (by decide))
    have c_34z : ¬ x_1.toInt = 114 := fun q => hz 114 c_34 (q.trans (by decide))
    have c_35z : ¬ x_1.toInt = 115 := fun q => hz 115 c_35 (q.trans (by decide))
    have c_38z : ¬ x_1.toInt = 116 := fun q => hz 116 c_38 (q.trans (by decide))
    omega) (by decide) ?_
  refine lv_aload_n hx hb dX7_order_241 rfl (lv_at hl 0 rfl) ?_
  refine lv_iconst (v := 1) hx hb dX7_order_242 (by decide) ?_
  refine wr_put (Z' := wset Z 12 (bput (bput B 0 7 x_1) 0 6 1)) (v := .int 1) hC hinRX7 tyX7 tyX7_ok nmX7 hW hS (vM (by decide)) ce_m0 rfl 12 (by decide) hk3 rfl (tyX7_ok 12 (by decide)) (by first | rfl | decide | assumption) (by first | rfl | decide) (Nat.le_of_ble_eq_true rfl) wset_off pu_m0_6 dX7_order_243 (fun H locs hW hS => ?_)
  have hf : fX7_order B = (bput (bput B 0 7 x_1) 0 6 1) := by
    subst ex_1
    exact (if_neg c_2).trans ((if_neg c_5).trans ((if_neg c_6).trans ((if_neg c_7).trans ((if_neg c_8).trans ((if_neg c_14).trans ((if_neg c_20).trans ((if_neg c_23).trans ((if_neg c_24).trans ((if_neg c_33).trans ((if_neg c_34).trans ((if_neg c_35).trans ((if_neg c_38).trans rfl))))))))))))
  exact we_v hC hr hlocks (congrArg (wset Z 12) hf).symm hW hS dX7_order_246
theorem gen_ite {α : Type} {P : α → Prop} {c : Prop} [Decidable c] {a b : α} (ha : P a) (hb : P b) : P (ite c a b) := by
  by_cases h : c
  · rw [if_pos h]; exact ha
  · rw [if_neg h]; exact hb
/-- an order with no fault has read something -/
theorem pzX7_order1 {B : wB} {lo n : Nat} (hn : n ≤ 900) (h : pzl B lo n) : pzl (fX7_order B) (if (fX7_order B) 0 6 = 0 then lo + 1 else lo) (n + 14) := by
  have h0 : pzl (bput (bput B 0 7 (fX7_next B)) 0 5 (B 0 5 + 1)) (lo + 1) (n + 1) := pz_inc1 (by omega) (pz_oth h (by omega)) (by simp [bput])
  have up : ∀ {C : wB} {m : Nat}, pzl C (lo + 1) m → m ≤ n + 14 → pzl C (if C 0 6 = 0 then lo + 1 else lo) (n + 14) := fun {C m} q hm => by
    split
    · exact pz_mono q hm
    · exact pz_mono q hm
  let Q : wB → Prop := fun C => pzl C (if C 0 6 = 0 then lo + 1 else lo) (n + 14)
  have bad : pzl (bput (bput B 0 7 (fX7_next B)) 0 6 1) (if (bput (bput B 0 7 (fX7_next B)) 0 6 1) 0 6 = 0 then lo + 1 else lo) (n + 14) := by
    rw [bput_h, if_neg (by decide)]
    exact pz_mono (pz_oth (pz_oth h (by omega)) (by omega)) (by omega)
  exact (gen_ite (P := Q) (up (pz_oth (pzX7_digit (by omega) h0) (by omega)) (by omega)) (gen_ite (P := Q) bad (gen_ite (P := Q) bad (gen_ite (P := Q) bad (gen_ite (P := Q) (up (pz_oth (pzX7_digit (by omega) (pzX7_sign (by omega) (pz_oth (pzX7_digit (by omega) h0) (by omega)))) (by omega)) (by omega)) (gen_ite (P := Q) (up (pz_oth (pzX7_place (by omega) (pzX7_sign (by omega) (pz_oth (pzX7_digit (by omega) h0) (by omega)))) (by omega)) (by omega)) (gen_ite (P := Q) (up (pz_oth (pzX7_digit (by omega) h0) (by omega)) (by omega)) (gen_ite (P := Q) bad (gen_ite (P := Q) (up (pz_oth (pzX7_place (by omega) (pzX7_sign (by omega) (pz_oth (pzX7_digit (by omega) (pzX7_sign (by omega) (pz_oth (pzX7_number (by omega) h0) (by omega)))) (by omega)))) (by omega)) (by omega)) (gen_ite (P := Q) bad (gen_ite (P := Q) bad (gen_ite (P := Q) (up (pz_oth (pzX7_digit (by omega) h0) (by omega)) (by omega)) (gen_ite (P := Q) (up (pz_oth (pzX7_number (by omega) h0) (by omega)) (by omega)) bad)))))))))))))
theorem pzX7_order {B : wB} {lo n : Nat} (hn : n ≤ 900) (h : pzl B lo n) : pzl (fX7_order B) lo (n + 14) := by
  have q := pzX7_order1 hn h
  by_cases e : (fX7_order B) 0 6 = 0
  · rw [if_pos e] at q; exact pz_mono q (Nat.le_refl _)
  · rw [if_neg e] at q; exact q

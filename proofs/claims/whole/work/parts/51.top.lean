def fX6_isError (a1 : Int32) : Int32 :=
  if 0 ≤ a1 then 0
  else 1
abbrev rX6_isError : Room := { frames := 0, cells := 0, slots := 0, locals := 0 }
set_option maxHeartbeats 4000000 in
set_option maxRecDepth 100000 in
theorem kX6_isError (l : Launch) (G : wG) (Z : wZ)  (a1 : Int32)  : mI l yX6_isError wsX6_isError rX6_isError G [.int a1] Z (fX6_isError a1) Z := by
  refine Met.ofW (cc := cX6_isError) (maxL := 1) (ret := (some .boolean)) (by decide) rfl ?_
  intro p e s m args below meth c s₁ B0 hml hv
  obtain ⟨rfl, hW, hK, hL⟩ := hv
  have hlocks := B0.notSynchronized
  have hr := B0.returns
  have hC : wX p s m c cX6_isError _ wsX6_isError RX6 G := ⟨B0.exec, B0.bytes, findClass_of_methodNamed B0.named, atoms_spec (ws := wsX6_isError) B0.pre, hK, hL⟩
  have hx := hC.1
  have hb := hC.2.1
  have hts := hC.2.2.2.1
  have hS : va_S (wA G) s.heap s.heap [] := va_S.rf
  have hl := lv_entry ([.int a1]) (n := 1) (Nat.le_of_ble_eq_true rfl)
  rw [lg_entry_eq]
  generalize (lg_sl ([.int a1]) ++ List.replicate (1 - (lg_sl ([.int a1])).length) Slot.unset).toArray = ls at hl ⊢
  have hl : lv_has ls 1 [(0, .int a1)] := hl
  refine lv_iload_n hx hb dX6_isError_0 rfl (lv_at hl 0 rfl) ?_
  refine lv_if_ge (tgt := 8) hx hb dX6_isError_1 (by decide) (fun c_1 => ?_) (fun c_1 => ?_)
  · skip
    refine lv_iconst (v := 0) hx hb dX6_isError_8 (by decide) ?_
    have hf : fX6_isError a1 = 0 := (if_pos c_1).trans rfl
    exact we_z hC hr hlocks (by first | rfl | decide | assumption | exact nar_char_i _) hf.symm rfl hW hS dX6_isError_9
  · skip
    refine lv_iconst (v := 1) hx hb dX6_isError_4 (by decide) ?_
    refine lv_goto (tgt := 9) hx hb dX6_isError_5 (by decide) ?_
    have hf : fX6_isError a1 = 1 := (if_neg c_1).trans rfl
    exact we_z hC hr hlocks (by first | rfl | decide | assumption | exact nar_char_i _) hf.symm rfl hW hS dX6_isError_9
def fX6_recorded (Z : wZ) (a1 : Int32) : wZ × Int32 :=
  let x_1 := fX6_isError a1
  if x_1 = 0 then (let B_3 := fX1_keepMarked (Z 11)
    ((wset Z 11 B_3), a1))
  else (Z, a1)
abbrev rX6_recorded : Room := { frames := 2, cells := 0, slots := 0, locals := 41 }
set_option maxHeartbeats 4000000 in
set_option maxRecDepth 100000 in
theorem kX6_recorded (l : Launch) (G : wG) (Z : wZ)  (a1 : Int32)  : mI l yX6_recorded wsX6_recorded rX6_recorded G [.ref (G.2.2.1 11 0), .int a1] Z (fX6_recorded Z a1).2 (fX6_recorded Z a1).1 := by
  refine Met.ofW (cc := cX6_recorded) (maxL := 2) (ret := (some .int)) (by decide) rfl ?_
  intro p e s m args below meth c s₁ B0 hml hv
  obtain ⟨rfl, hW, hK, hL⟩ := hv
  have hlocks := B0.notSynchronized
  have hr := B0.returns
  have hC : wX p s m c cX6_recorded _ wsX6_recorded RX6 G := ⟨B0.exec, B0.bytes, findClass_of_methodNamed B0.named, atoms_spec (ws := wsX6_recorded) B0.pre, hK, hL⟩
  have hx := hC.1
  have hb := hC.2.1
  have hts := hC.2.2.2.1
  have hinRX6 : ∀ w ∈ wsX60, w ∈ wsX6_recorded := by decide +kernel
  have hk0 := hts (.fieldLink RX6 22 "RampShafts" "history" "LRampShafts$History;") (by decide +kernel)
  have hS : va_S (wA G) s.heap s.heap [] := va_S.rf
  have hl := lv_entry ([.ref (G.2.2.1 11 0), .int a1]) (n := 2) (Nat.le_of_ble_eq_true rfl)
  rw [lg_entry_eq]
  generalize (lg_sl ([.ref (G.2.2.1 11 0), .int a1]) ++ List.replicate (2 - (lg_sl ([.ref (G.2.2.1 11 0), .int a1])).length) Slot.unset).toArray = ls at hl ⊢
  have hl : lv_has ls 2 [(0, .ref (G.2.2.1 11 0)), (1, .int a1)] := hl
  refine lv_iload_n hx hb dX6_recorded_0 rfl (lv_at hl 1 rfl) ?_
  refine wc_s hC hml (kX6_isError l G Z a1) (cwS 1 hts gX6_recorded_X6_isError rfl rfl rfl (by decide +kernel) ⟨Nat.le_of_ble_eq_true rfl, Nat.le_of_ble_eq_true rfl⟩) hW hS rfl rfl hl.1 (Nat.le_of_ble_eq_true rfl) dX6_recorded_1 (fun H locs hW hS => ?_)
  refine lv_topi (fun x_1 ex_1 => ?_)
  refine lv_if_ne (tgt := 14) hx hb dX6_recorded_4 (by decide) (fun c_2 => ?_) (fun c_2 => ?_)
  · skip
    refine lv_iload_n hx hb dX6_recorded_14 rfl (lv_at hl 1 rfl) ?_
    have hf : fX6_recorded Z a1 = (Z, a1) := by
      subst ex_1
      exact (if_neg c_2).trans rfl
    exact we_i hC hr hlocks (congrArg Prod.snd hf).symm (congrArg Prod.fst hf).symm hW hS dX6_recorded_15
  · skip
    refine lv_aload_n hx hb dX6_recorded_7 rfl (lv_at hl 0 rfl) ?_
    refine wr_get hC hinRX6 hW (vS (by decide)) ((wE_c (Z' := wset Z 11 (Z 11)) (by first | (simp [wset]; done) | (simp only [wset]; split <;> first | (exfalso; omega) | simp))).trans ce_s0) rfl 2 (by decide) hk0 rfl dX6_recorded_8 ?_
    have hW := wW_eq (Z' := (wset Z 11 (Z 11))) hW (by
      funext i9
      by_cases e0 : i9 = 11
      all_goals first | (simp [wset, e0]; done) | (exfalso; omega) | (subst_vars; simp [wset]; done) | (subst_vars; simp_all [wset]; done))
    refine wc_v hC hml (kX1_keepMarked l G Z (Z 11)) (cwV 0 hts gX6_recorded_X1_keepMarked rfl rfl rfl (by decide +kernel) ⟨Nat.le_of_ble_eq_true rfl, Nat.le_of_ble_eq_true rfl⟩) hW hS (vS (by decide)) ce_s1 rfl rfl rfl rfl hl.1 (Nat.le_of_ble_eq_true rfl) dX6_recorded_11 (fun H locs hW hS => ?_)
    obtain ⟨B_3, eB_3⟩ : ∃ y, y = fX1_keepMarked (Z 11) := ⟨_, rfl⟩
    rw [← eB_3] at hW
    refine lv_iload_n hx hb dX6_recorded_14 rfl (lv_at hl 1 rfl) ?_
    have hf : fX6_recorded Z a1 = ((wset Z 11 B_3), a1) := by
      subst eB_3
      subst ex_1
      exact (if_pos c_2).trans rfl
    exact we_i hC hr hlocks (congrArg Prod.snd hf).symm (congrArg Prod.fst hf).symm hW hS dX6_recorded_15
def fX6_set (Z : wZ) (a1 : Int32) (a2 : Int32) : wZ × Int32 :=
  let Z_1 := fX1_mark Z
  let P_2 := fX3_change (Z_1 0) a1 a2
  let Q_3 := fX6_recorded (wset Z_1 0 P_2.1) P_2.2
  (Q_3.1, Q_3.2)
abbrev rX6_set : Room := { frames := 3, cells := 0, slots := 0, locals := 65 }
set_option maxHeartbeats 4000000 in
set_option maxRecDepth 100000 in
theorem kX6_set (l : Launch) (G : wG) (Z : wZ)  (a1 : Int32) (a2 : Int32)  : mI l yX6_set wsX6_set rX6_set G [.ref (G.2.2.1 11 0), .int a1, .int a2] Z (fX6_set Z a1 a2).2 (fX6_set Z a1 a2).1 := by
  refine Met.ofW (cc := cX6_set) (maxL := 3) (ret := (some .int)) (by decide) rfl ?_
  intro p e s m args below meth c s₁ B0 hml hv
  obtain ⟨rfl, hW, hK, hL⟩ := hv
  have hlocks := B0.notSynchronized
  have hr := B0.returns
  have hC : wX p s m c cX6_set _ wsX6_set RX6 G := ⟨B0.exec, B0.bytes, findClass_of_methodNamed B0.named, atoms_spec (ws := wsX6_set) B0.pre, hK, hL⟩
  have hx := hC.1
  have hb := hC.2.1
  have hts := hC.2.2.2.1
  have hinRX0 : ∀ w ∈ wsX00, w ∈ wsX6_set := by decide +kernel
  have hinRX6 : ∀ w ∈ wsX60, w ∈ wsX6_set := by decide +kernel
  have hk0 := hts (.fieldLink RX6 22 "RampShafts" "history" "LRampShafts$History;") (by decide +kernel)
  have hk1 := hts (.fieldLink RX6 10 "RampShafts" "bench" "LRampShafts$Bench;") (by decide +kernel)
  have hk2 := hts (.fieldLink RX6 50 "RampShafts$Bench" "ramp" "LRampShafts$Ramp;") (by decide +kernel)
  have hS : va_S (wA G) s.heap s.heap [] := va_S.rf
  have hl := lv_entry ([.ref (G.2.2.1 11 0), .int a1, .int a2]) (n := 3) (Nat.le_of_ble_eq_true rfl)
  rw [lg_entry_eq]
  generalize (lg_sl ([.ref (G.2.2.1 11 0), .int a1, .int a2]) ++ List.replicate (3 - (lg_sl ([.ref (G.2.2.1 11 0), .int a1, .int a2])).length) Slot.unset).toArray = ls at hl ⊢
  have hl : lv_has ls 3 [(0, .ref (G.2.2.1 11 0)), (1, .int a1), (2, .int a2)] := hl
  refine lv_aload_n hx hb dX6_set_0 rfl (lv_at hl 0 rfl) ?_
  refine wr_get hC hinRX6 hW (vS (by decide)) ((wE_c (Z' := wset Z 11 (Z 11)) (by first | (simp [wset]; done) | (simp only [wset]; split <;> first | (exfalso; omega) | simp))).trans ce_s0) rfl 2 (by decide) hk0 rfl dX6_set_1 ?_
  refine lv_aload_n hx hb dX6_set_4 rfl (lv_at hl 0 rfl) ?_
  refine wr_get hC hinRX6 hW (vS (by decide)) ((wE_c (Z' := wset Z 11 (Z 11)) (by first | (simp [wset]; done) | (simp only [wset]; split <;> first | (exfalso; omega) | simp))).trans ce_s0) rfl 0 (by decide) hk1 rfl dX6_set_5 ?_
  refine wc_v hC hml (kX1_mark l G Z) (cwV 1 hts gX6_set_X1_mark rfl rfl rfl (by decide +kernel) ⟨Nat.le_of_ble_eq_true rfl, Nat.le_of_ble_eq_true rfl⟩) hW hS (vS (by decide)) ((wE_c (Z' := wset Z 11 (Z 11)) (by first | (simp [wset]; done) | (simp only [wset]; split <;> first | (exfalso; omega) | simp))).trans ce_s1) rfl rfl rfl rfl hl.1 (Nat.le_of_ble_eq_true rfl) dX6_set_8 (fun H locs hW hS => ?_)
  obtain ⟨Z_1, eZ_1⟩ : ∃ y, y = fX1_mark Z := ⟨_, rfl⟩
  rw [← eZ_1] at hW
  refine lv_aload_n hx hb dX6_set_11 rfl (lv_at hl 0 rfl) ?_
  refine lv_aload_n hx hb dX6_set_12 rfl (lv_at hl 0 rfl) ?_
  refine wr_get hC hinRX6 hW (vS (by decide)) ((wE_c (Z' := wset Z_1 11 (Z_1 11)) (by first | (simp [wset]; done) | (simp only [wset]; split <;> first | (exfalso; omega) | simp))).trans ce_s0) rfl 0 (by decide) hk1 rfl dX6_set_13 ?_
  refine wr_get hC hinRX0 hW (vB (by decide) (by decide)) ((wE_c (Z' := wset Z_1 0 (Z_1 0)) (by first | (simp [wset]; done) | (simp only [wset]; split <;> first | (exfalso; omega) | simp))).trans (ce_b0 (by decide))) rfl 0 (by decide) hk2 rfl dX6_set_16 ?_
  refine lv_iload_n hx hb dX6_set_19 rfl (lv_at hl 1 rfl) ?_
  refine lv_iload_n hx hb dX6_set_20 rfl (lv_at hl 2 rfl) ?_
  have hW := wW_eq (Z' := (wset Z_1 0 (Z_1 0))) hW (by
    funext i9
    by_cases e0 : i9 = 0
    all_goals first | (simp [wset, e0]; done) | (exfalso; omega) | (subst_vars; simp [wset]; done) | (subst_vars; simp_all [wset]; done))
  refine wc_i hC hml (kX3_change l G Z_1 0 (by decide) (Z_1 0) a1 a2) (cwV 2 hts gX6_set_X3_change rfl rfl rfl (by decide +kernel) ⟨Nat.le_of_ble_eq_true rfl, Nat.le_of_ble_eq_true rfl⟩) hW hS (vB (by decide) (by decide)) (ce_b1 (by decide)) rfl rfl rfl rfl hl.1 (Nat.le_of_ble_eq_true rfl) dX6_set_21 (fun H locs hW hS => ?_)
  obtain ⟨P_2, eP_2⟩ : ∃ y, y = fX3_change (Z_1 0) a1 a2 := ⟨_, rfl⟩
  rw [← eP_2] at hW ⊢
  refine wc_i hC hml (kX6_recorded l G (wset Z_1 0 P_2.1) P_2.2) (cwV 1 hts gX6_set_X6_recorded rfl rfl rfl (by decide +kernel) ⟨Nat.le_of_ble_eq_true rfl, Nat.le_of_ble_eq_true rfl⟩) hW hS (vS (by decide)) ((wE_c (Z' := wset Z_1 11 (Z_1 11)) (by first | (simp [wset]; done) | (simp only [wset]; split <;> first | (exfalso; omega) | simp))).trans ce_s0) rfl rfl rfl rfl hl.1 (Nat.le_of_ble_eq_true rfl) dX6_set_24 (fun H locs hW hS => ?_)
  obtain ⟨Q_3, eQ_3⟩ : ∃ y, y = fX6_recorded (wset Z_1 0 P_2.1) P_2.2 := ⟨_, rfl⟩
  rw [← eQ_3] at hW ⊢
  have hf : fX6_set Z a1 a2 = (Q_3.1, Q_3.2) := by
    subst eQ_3
    subst eP_2
    subst eZ_1
    exact rfl
  exact we_i hC hr hlocks (congrArg Prod.snd hf).symm (congrArg Prod.fst hf).symm hW hS dX6_set_27
def fX6_shaft (Z : wZ) (a1 : Int32) : wZ × Int32 :=
  let Z_1 := fX1_mark Z
  let P_2 := fX0_addShaft (Z_1 0) a1
  let Q_3 := fX6_recorded (wset Z_1 0 P_2.1) P_2.2
  (Q_3.1, Q_3.2)
abbrev rX6_shaft : Room := { frames := 3, cells := 0, slots := 0, locals := 65 }
set_option maxHeartbeats 4000000 in
set_option maxRecDepth 100000 in
theorem kX6_shaft (l : Launch) (G : wG) (Z : wZ)  (a1 : Int32)  : mI l yX6_shaft wsX6_shaft rX6_shaft G [.ref (G.2.2.1 11 0), .int a1] Z (fX6_shaft Z a1).2 (fX6_shaft Z a1).1 := by
  refine Met.ofW (cc := cX6_shaft) (maxL := 2) (ret := (some .int)) (by decide) rfl ?_
  intro p e s m args below meth c s₁ B0 hml hv
  obtain ⟨rfl, hW, hK, hL⟩ := hv
  have hlocks := B0.notSynchronized
  have hr := B0.returns
  have hC : wX p s m c cX6_shaft _ wsX6_shaft RX6 G := ⟨B0.exec, B0.bytes, findClass_of_methodNamed B0.named, atoms_spec (ws := wsX6_shaft) B0.pre, hK, hL⟩
  have hx := hC.1
  have hb := hC.2.1
  have hts := hC.2.2.2.1
  have hinRX6 : ∀ w ∈ wsX60, w ∈ wsX6_shaft := by decide +kernel
  have hk0 := hts (.fieldLink RX6 22 "RampShafts" "history" "LRampShafts$History;") (by decide +kernel)
  have hk1 := hts (.fieldLink RX6 10 "RampShafts" "bench" "LRampShafts$Bench;") (by decide +kernel)
  have hS : va_S (wA G) s.heap s.heap [] := va_S.rf
  have hl := lv_entry ([.ref (G.2.2.1 11 0), .int a1]) (n := 2) (Nat.le_of_ble_eq_true rfl)
  rw [lg_entry_eq]
  generalize (lg_sl ([.ref (G.2.2.1 11 0), .int a1]) ++ List.replicate (2 - (lg_sl ([.ref (G.2.2.1 11 0), .int a1])).length) Slot.unset).toArray = ls at hl ⊢
  have hl : lv_has ls 2 [(0, .ref (G.2.2.1 11 0)), (1, .int a1)] := hl
  refine lv_aload_n hx hb dX6_shaft_0 rfl (lv_at hl 0 rfl) ?_
  refine wr_get hC hinRX6 hW (vS (by decide)) ((wE_c (Z' := wset Z 11 (Z 11)) (by first | (simp [wset]; done) | (simp only [wset]; split <;> first | (exfalso; omega) | simp))).trans ce_s0) rfl 2 (by decide) hk0 rfl dX6_shaft_1 ?_
  refine lv_aload_n hx hb dX6_shaft_4 rfl (lv_at hl 0 rfl) ?_
  refine wr_get hC hinRX6 hW (vS (by decide)) ((wE_c (Z' := wset Z 11 (Z 11)) (by first | (simp [wset]; done) | (simp only [wset]; split <;> first | (exfalso; omega) | simp))).trans ce_s0) rfl 0 (by decide) hk1 rfl dX6_shaft_5 ?_
  refine wc_v hC hml (kX1_mark l G Z) (cwV 1 hts gX6_shaft_X1_mark rfl rfl rfl (by decide +kernel) ⟨Nat.le_of_ble_eq_true rfl, Nat.le_of_ble_eq_true rfl⟩) hW hS (vS (by decide)) ((wE_c (Z' := wset Z 11 (Z 11)) (by first | (simp [wset]; done) | (simp only [wset]; split <;> first | (exfalso; omega) | simp))).trans ce_s1) rfl rfl rfl rfl hl.1 (Nat.le_of_ble_eq_true rfl) dX6_shaft_8 (fun H locs hW hS => ?_)
  obtain ⟨Z_1, eZ_1⟩ : ∃ y, y = fX1_mark Z := ⟨_, rfl⟩
  rw [← eZ_1] at hW
  refine lv_aload_n hx hb dX6_shaft_11 rfl (lv_at hl 0 rfl) ?_
  refine lv_aload_n hx hb dX6_shaft_12 rfl (lv_at hl 0 rfl) ?_
  refine wr_get hC hinRX6 hW (vS (by decide)) ((wE_c (Z' := wset Z_1 11 (Z_1 11)) (by first | (simp [wset]; done) | (simp only [wset]; split <;> first | (exfalso; omega) | simp))).trans ce_s0) rfl 0 (by decide) hk1 rfl dX6_shaft_13 ?_
  refine lv_iload_n hx hb dX6_shaft_16 rfl (lv_at hl 1 rfl) ?_
  have hW := wW_eq (Z' := (wset Z_1 0 (Z_1 0))) hW (by
    funext i9
    by_cases e0 : i9 = 0
    all_goals first | (simp [wset, e0]; done) | (exfalso; omega) | (subst_vars; simp [wset]; done) | (subst_vars; simp_all [wset]; done))
  refine wc_i hC hml (kX0_addShaft l G Z_1 0 (by decide) (Z_1 0) a1) (cwV 1 hts gX6_shaft_X0_addShaft rfl rfl rfl (by decide +kernel) ⟨Nat.le_of_ble_eq_true rfl, Nat.le_of_ble_eq_true rfl⟩) hW hS (vB (by decide) (by decide)) (ce_b0 (by decide)) rfl rfl rfl rfl hl.1 (Nat.le_of_ble_eq_true rfl) dX6_shaft_17 (fun H locs hW hS => ?_)
  obtain ⟨P_2, eP_2⟩ : ∃ y, y = fX0_addShaft (Z_1 0) a1 := ⟨_, rfl⟩
  rw [← eP_2] at hW ⊢
  refine wc_i hC hml (kX6_recorded l G (wset Z_1 0 P_2.1) P_2.2) (cwV 1 hts gX6_shaft_X6_recorded rfl rfl rfl (by decide +kernel) ⟨Nat.le_of_ble_eq_true rfl, Nat.le_of_ble_eq_true rfl⟩) hW hS (vS (by decide)) ((wE_c (Z' := wset Z_1 11 (Z_1 11)) (by first | (simp [wset]; done) | (simp only [wset]; split <;> first | (exfalso; omega) | simp))).trans ce_s0) rfl rfl rfl rfl hl.1 (Nat.le_of_ble_eq_true rfl) dX6_shaft_20 (fun H locs hW hS => ?_)
  obtain ⟨Q_3, eQ_3⟩ : ∃ y, y = fX6_recorded (wset Z_1 0 P_2.1) P_2.2 := ⟨_, rfl⟩
  rw [← eQ_3] at hW ⊢
  have hf : fX6_shaft Z a1 = (Q_3.1, Q_3.2) := by
    subst eQ_3
    subst eP_2
    subst eZ_1
    exact rfl
  exact we_i hC hr hlocks (congrArg Prod.snd hf).symm (congrArg Prod.fst hf).symm hW hS dX6_shaft_23
def fX6_load (Z : wZ) (a1 : Int32) (a2 : Int32) : wZ × Int32 :=
  let Z_1 := fX1_mark Z
  let P_2 := fX0_changeLoad (Z_1 0) a1 a2
  let Q_3 := fX6_recorded (wset Z_1 0 P_2.1) P_2.2
  (Q_3.1, Q_3.2)
abbrev rX6_load : Room := { frames := 3, cells := 0, slots := 0, locals := 65 }
set_option maxHeartbeats 4000000 in
set_option maxRecDepth 100000 in
theorem kX6_load (l : Launch) (G : wG) (Z : wZ)  (a1 : Int32) (a2 : Int32)  : mI l yX6_load wsX6_load rX6_load G [.ref (G.2.2.1 11 0), .int a1, .int a2] Z (fX6_load Z a1 a2).2 (fX6_load Z a1 a2).1 := by
  refine Met.ofW (cc := cX6_load) (maxL := 3) (ret := (some .int)) (by decide) rfl ?_
  intro p e s m args below meth c s₁ B0 hml hv
  obtain ⟨rfl, hW, hK, hL⟩ := hv
  have hlocks := B0.notSynchronized
  have hr := B0.returns
  have hC : wX p s m c cX6_load _ wsX6_load RX6 G := ⟨B0.exec, B0.bytes, findClass_of_methodNamed B0.named, atoms_spec (ws := wsX6_load) B0.pre, hK, hL⟩
  have hx := hC.1
  have hb := hC.2.1
  have hts := hC.2.2.2.1
  have hinRX6 : ∀ w ∈ wsX60, w ∈ wsX6_load := by decide +kernel
  have hk0 := hts (.fieldLink RX6 22 "RampShafts" "history" "LRampShafts$History;") (by decide +kernel)
  have hk1 := hts (.fieldLink RX6 10 "RampShafts" "bench" "LRampShafts$Bench;") (by decide +kernel)
  have hS : va_S (wA G) s.heap s.heap [] := va_S.rf
  have hl := lv_entry ([.ref (G.2.2.1 11 0), .int a1, .int a2]) (n := 3) (Nat.le_of_ble_eq_true rfl)
  rw [lg_entry_eq]
  generalize (lg_sl ([.ref (G.2.2.1 11 0), .int a1, .int a2]) ++ List.replicate (3 - (lg_sl ([.ref (G.2.2.1 11 0), .int a1, .int a2])).length) Slot.unset).toArray = ls at hl ⊢
  have hl : lv_has ls 3 [(0, .ref (G.2.2.1 11 0)), (1, .int a1), (2, .int a2)] := hl
  refine lv_aload_n hx hb dX6_load_0 rfl (lv_at hl 0 rfl) ?_
  refine wr_get hC hinRX6 hW (vS (by decide)) ((wE_c (Z' := wset Z 11 (Z 11)) (by first | (simp [wset]; done) | (simp only [wset]; split <;> first | (exfalso; omega) | simp))).trans ce_s0) rfl 2 (by decide) hk0 rfl dX6_load_1 ?_
  refine lv_aload_n hx hb dX6_load_4 rfl (lv_at hl 0 rfl) ?_
  refine wr_get hC hinRX6 hW (vS (by decide)) ((wE_c (Z' := wset Z 11 (Z 11)) (by first | (simp [wset]; done) | (simp only [wset]; split <;> first | (exfalso; omega) | simp))).trans ce_s0) rfl 0 (by decide) hk1 rfl dX6_load_5 ?_
  refine wc_v hC hml (kX1_mark l G Z) (cwV 1 hts gX6_load_X1_mark rfl rfl rfl (by decide +kernel) ⟨Nat.le_of_ble_eq_true rfl, Nat.le_of_ble_eq_true rfl⟩) hW hS (vS (by decide)) ((wE_c (Z' := wset Z 11 (Z 11)) (by first | (simp [wset]; done) | (simp only [wset]; split <;> first | (exfalso; omega) | simp))).trans ce_s1) rfl rfl rfl rfl hl.1 (Nat.le_of_ble_eq_true rfl) dX6_load_8 (fun H locs hW hS => ?_)
  obtain ⟨Z_1, eZ_1⟩ : ∃ y, y = fX1_mark Z := ⟨_, rfl⟩
  rw [← eZ_1] at hW
  refine lv_aload_n hx hb dX6_load_11 rfl (lv_at hl 0 rfl) ?_
  refine lv_aload_n hx hb dX6_load_12 rfl (lv_at hl 0 rfl) ?_
  refine wr_get hC hinRX6 hW (vS (by decide)) ((wE_c (Z' := wset Z_1 11 (Z_1 11)) (by first | (simp [wset]; done) | (simp only [wset]; split <;> first | (exfalso; omega) | simp))).trans ce_s0) rfl 0 (by decide) hk1 rfl dX6_load_13 ?_
  refine lv_iload_n hx hb dX6_load_16 rfl (lv_at hl 1 rfl) ?_
  refine lv_iload_n hx hb dX6_load_17 rfl (lv_at hl 2 rfl) ?_
  have hW := wW_eq (Z' := (wset Z_1 0 (Z_1 0))) hW (by
    funext i9
    by_cases e0 : i9 = 0
    all_goals first | (simp [wset, e0]; done) | (exfalso; omega) | (subst_vars; simp [wset]; done) | (subst_vars; simp_all [wset]; done))
  refine wc_i hC hml (kX0_changeLoad l G Z_1 0 (by decide) (Z_1 0) a1 a2) (cwV 2 hts gX6_load_X0_changeLoad rfl rfl rfl (by decide +kernel) ⟨Nat.le_of_ble_eq_true rfl, Nat.le_of_ble_eq_true rfl⟩) hW hS (vB (by decide) (by decide)) (ce_b0 (by decide)) rfl rfl rfl rfl hl.1 (Nat.le_of_ble_eq_true rfl) dX6_load_18 (fun H locs hW hS => ?_)
  obtain ⟨P_2, eP_2⟩ : ∃ y, y = fX0_changeLoad (Z_1 0) a1 a2 := ⟨_, rfl⟩
  rw [← eP_2] at hW ⊢
  refine wc_i hC hml (kX6_recorded l G (wset Z_1 0 P_2.1) P_2.2) (cwV 1 hts gX6_load_X6_recorded rfl rfl rfl (by decide +kernel) ⟨Nat.le_of_ble_eq_true rfl, Nat.le_of_ble_eq_true rfl⟩) hW hS (vS (by decide)) ((wE_c (Z' := wset Z_1 11 (Z_1 11)) (by first | (simp [wset]; done) | (simp only [wset]; split <;> first | (exfalso; omega) | simp))).trans ce_s0) rfl rfl rfl rfl hl.1 (Nat.le_of_ble_eq_true rfl) dX6_load_21 (fun H locs hW hS => ?_)
  obtain ⟨Q_3, eQ_3⟩ : ∃ y, y = fX6_recorded (wset Z_1 0 P_2.1) P_2.2 := ⟨_, rfl⟩
  rw [← eQ_3] at hW ⊢
  have hf : fX6_load Z a1 a2 = (Q_3.1, Q_3.2) := by
    subst eQ_3
    subst eP_2
    subst eZ_1
    exact rfl
  exact we_i hC hr hlocks (congrArg Prod.snd hf).symm (congrArg Prod.fst hf).symm hW hS dX6_load_24
def fX6_move (Z : wZ) (a1 : Int32) (a2 : Int32) : wZ × Int32 :=
  let Z_1 := fX1_mark Z
  let P_2 := fX0_moveTo (Z_1 0) a1 a2
  let Q_3 := fX6_recorded (wset Z_1 0 P_2.1) P_2.2
  (Q_3.1, Q_3.2)
abbrev rX6_move : Room := { frames := 4, cells := 0, slots := 0, locals := 92 }
set_option maxHeartbeats 4000000 in
set_option maxRecDepth 100000 in
theorem kX6_move (l : Launch) (G : wG) (Z : wZ)  (a1 : Int32) (a2 : Int32)  : mI l yX6_move wsX6_move rX6_move G [.ref (G.2.2.1 11 0), .int a1, .int a2] Z (fX6_move Z a1 a2).2 (fX6_move Z a1 a2).1 := by
  refine Met.ofW (cc := cX6_move) (maxL := 3) (ret := (some .int)) (by decide) rfl ?_
  intro p e s m args below meth c s₁ B0 hml hv
  obtain ⟨rfl, hW, hK, hL⟩ := hv
  have hlocks := B0.notSynchronized
  have hr := B0.returns
  have hC : wX p s m c cX6_move _ wsX6_move RX6 G := ⟨B0.exec, B0.bytes, findClass_of_methodNamed B0.named, atoms_spec (ws := wsX6_move) B0.pre, hK, hL⟩
  have hx := hC.1
  have hb := hC.2.1
  have hts := hC.2.2.2.1
  have hinRX6 : ∀ w ∈ wsX60, w ∈ wsX6_move := by decide +kernel
  have hk0 := hts (.fieldLink RX6 22 "RampShafts" "history" "LRampShafts$History;") (by decide +kernel)
  have hk1 := hts (.fieldLink RX6 10 "RampShafts" "bench" "LRampShafts$Bench;") (by decide +kernel)
  have hS : va_S (wA G) s.heap s.heap [] := va_S.rf
  have hl := lv_entry ([.ref (G.2.2.1 11 0), .int a1, .int a2]) (n := 3) (Nat.le_of_ble_eq_true rfl)
  rw [lg_entry_eq]
  generalize (lg_sl ([.ref (G.2.2.1 11 0), .int a1, .int a2]) ++ List.replicate (3 - (lg_sl ([.ref (G.2.2.1 11 0), .int a1, .int a2])).length) Slot.unset).toArray = ls at hl ⊢
  have hl : lv_has ls 3 [(0, .ref (G.2.2.1 11 0)), (1, .int a1), (2, .int a2)] := hl
  refine lv_aload_n hx hb dX6_move_0 rfl (lv_at hl 0 rfl) ?_
  refine wr_get hC hinRX6 hW (vS (by decide)) ((wE_c (Z' := wset Z 11 (Z 11)) (by first | (simp [wset]; done) | (simp only [wset]; split <;> first | (exfalso; omega) | simp))).trans ce_s0) rfl 2 (by decide) hk0 rfl dX6_move_1 ?_
  refine lv_aload_n hx hb dX6_move_4 rfl (lv_at hl 0 rfl) ?_
  refine wr_get hC hinRX6 hW (vS (by decide)) ((wE_c (Z' := wset Z 11 (Z 11)) (by first | (simp [wset]; done) | (simp only [wset]; split <;> first | (exfalso; omega) | simp))).trans ce_s0) rfl 0 (by decide) hk1 rfl dX6_move_5 ?_
  refine wc_v hC hml (kX1_mark l G Z) (cwV 1 hts gX6_move_X1_mark rfl rfl rfl (by decide +kernel) ⟨Nat.le_of_ble_eq_true rfl, Nat.le_of_ble_eq_true rfl⟩) hW hS (vS (by decide)) ((wE_c (Z' := wset Z 11 (Z 11)) (by first | (simp [wset]; done) | (simp only [wset]; split <;> first | (exfalso; omega) | simp))).trans ce_s1) rfl rfl rfl rfl hl.1 (Nat.le_of_ble_eq_true rfl) dX6_move_8 (fun H locs hW hS => ?_)
  obtain ⟨Z_1, eZ_1⟩ : ∃ y, y = fX1_mark Z := ⟨_, rfl⟩
  rw [← eZ_1] at hW
  refine lv_aload_n hx hb dX6_move_11 rfl (lv_at hl 0 rfl) ?_
  refine lv_aload_n hx hb dX6_move_12 rfl (lv_at hl 0 rfl) ?_
  refine wr_get hC hinRX6 hW (vS (by decide)) ((wE_c (Z' := wset Z_1 11 (Z_1 11)) (by first | (simp [wset]; done) | (simp only [wset]; split <;> first | (exfalso; omega) | simp))).trans ce_s0) rfl 0 (by decide) hk1 rfl dX6_move_13 ?_
  refine lv_iload_n hx hb dX6_move_16 rfl (lv_at hl 1 rfl) ?_
  refine lv_iload_n hx hb dX6_move_17 rfl (lv_at hl 2 rfl) ?_
  have hW := wW_eq (Z' := (wset Z_1 0 (Z_1 0))) hW (by
    funext i9
    by_cases e0 : i9 = 0
    all_goals first | (simp [wset, e0]; done) | (exfalso; omega) | (subst_vars; simp [wset]; done) | (subst_vars; simp_all [wset]; done))
  refine wc_i hC hml (kX0_moveTo l G Z_1 0 (by decide) (Z_1 0) a1 a2) (cwV 2 hts gX6_move_X0_moveTo rfl rfl rfl (by decide +kernel) ⟨Nat.le_of_ble_eq_true rfl, Nat.le_of_ble_eq_true rfl⟩) hW hS (vB (by decide) (by decide)) (ce_b0 (by decide)) rfl rfl rfl rfl hl.1 (Nat.le_of_ble_eq_true rfl) dX6_move_18 (fun H locs hW hS => ?_)
  obtain ⟨P_2, eP_2⟩ : ∃ y, y = fX0_moveTo (Z_1 0) a1 a2 := ⟨_, rfl⟩
  rw [← eP_2] at hW ⊢
  refine wc_i hC hml (kX6_recorded l G (wset Z_1 0 P_2.1) P_2.2) (cwV 1 hts gX6_move_X6_recorded rfl rfl rfl (by decide +kernel) ⟨Nat.le_of_ble_eq_true rfl, Nat.le_of_ble_eq_true rfl⟩) hW hS (vS (by decide)) ((wE_c (Z' := wset Z_1 11 (Z_1 11)) (by first | (simp [wset]; done) | (simp only [wset]; split <;> first | (exfalso; omega) | simp))).trans ce_s0) rfl rfl rfl rfl hl.1 (Nat.le_of_ble_eq_true rfl) dX6_move_21 (fun H locs hW hS => ?_)
  obtain ⟨Q_3, eQ_3⟩ : ∃ y, y = fX6_recorded (wset Z_1 0 P_2.1) P_2.2 := ⟨_, rfl⟩
  rw [← eQ_3] at hW ⊢
  have hf : fX6_move Z a1 a2 = (Q_3.1, Q_3.2) := by
    subst eQ_3
    subst eP_2
    subst eZ_1
    exact rfl
  exact we_i hC hr hlocks (congrArg Prod.snd hf).symm (congrArg Prod.fst hf).symm hW hS dX6_move_24
def fX6_plan (Z : wZ) (a1 : Int32) (a2 : Int32) (a3 : Int32) : wZ × Int32 :=
  let Z_1 := fX1_mark Z
  let P_2 := fX0_addPlan (Z_1 0) a1 a2 a3
  let Q_3 := fX6_recorded (wset Z_1 0 P_2.1) P_2.2
  (Q_3.1, Q_3.2)
abbrev rX6_plan : Room := { frames := 3, cells := 0, slots := 0, locals := 65 }
set_option maxHeartbeats 4000000 in
set_option maxRecDepth 100000 in
theorem kX6_plan (l : Launch) (G : wG) (Z : wZ)  (a1 : Int32) (a2 : Int32) (a3 : Int32)  : mI l yX6_plan wsX6_plan rX6_plan G [.ref (G.2.2.1 11 0), .int a1, .int a2, .int a3] Z (fX6_plan Z a1 a2 a3).2 (fX6_plan Z a1 a2 a3).1 := by
  refine Met.ofW (cc := cX6_plan) (maxL := 4) (ret := (some .int)) (by decide) rfl ?_
  intro p e s m args below meth c s₁ B0 hml hv
  obtain ⟨rfl, hW, hK, hL⟩ := hv
  have hlocks := B0.notSynchronized
  have hr := B0.returns
  have hC : wX p s m c cX6_plan _ wsX6_plan RX6 G := ⟨B0.exec, B0.bytes, findClass_of_methodNamed B0.named, atoms_spec (ws := wsX6_plan) B0.pre, hK, hL⟩
  have hx := hC.1
  have hb := hC.2.1
  have hts := hC.2.2.2.1
  have hinRX6 : ∀ w ∈ wsX60, w ∈ wsX6_plan := by decide +kernel
  have hk0 := hts (.fieldLink RX6 22 "RampShafts" "history" "LRampShafts$History;") (by decide +kernel)
  have hk1 := hts (.fieldLink RX6 10 "RampShafts" "bench" "LRampShafts$Bench;") (by decide +kernel)
  have hS : va_S (wA G) s.heap s.heap [] := va_S.rf
  have hl := lv_entry ([.ref (G.2.2.1 11 0), .int a1, .int a2, .int a3]) (n := 4) (Nat.le_of_ble_eq_true rfl)
  rw [lg_entry_eq]
  generalize (lg_sl ([.ref (G.2.2.1 11 0), .int a1, .int a2, .int a3]) ++ List.replicate (4 - (lg_sl ([.ref (G.2.2.1 11 0), .int a1, .int a2, .int a3])).length) Slot.unset).toArray = ls at hl ⊢
  have hl : lv_has ls 4 [(0, .ref (G.2.2.1 11 0)), (1, .int a1), (2, .int a2), (3, .int a3)] := hl
  refine lv_aload_n hx hb dX6_plan_0 rfl (lv_at hl 0 rfl) ?_
  refine wr_get hC hinRX6 hW (vS (by decide)) ((wE_c (Z' := wset Z 11 (Z 11)) (by first | (simp [wset]; done) | (simp only [wset]; split <;> first | (exfalso; omega) | simp))).trans ce_s0) rfl 2 (by decide) hk0 rfl dX6_plan_1 ?_
  refine lv_aload_n hx hb dX6_plan_4 rfl (lv_at hl 0 rfl) ?_
  refine wr_get hC hinRX6 hW (vS (by decide)) ((wE_c (Z' := wset Z 11 (Z 11)) (by first | (simp [wset]; done) | (simp only [wset]; split <;> first | (exfalso; omega) | simp))).trans ce_s0) rfl 0 (by decide) hk1 rfl dX6_plan_5 ?_
  refine wc_v hC hml (kX1_mark l G Z) (cwV 1 hts gX6_plan_X1_mark rfl rfl rfl (by decide +kernel) ⟨Nat.le_of_ble_eq_true rfl, Nat.le_of_ble_eq_true rfl⟩) hW hS (vS (by decide)) ((wE_c (Z' := wset Z 11 (Z 11)) (by first | (simp [wset]; done) | (simp only [wset]; split <;> first | (exfalso; omega) | simp))).trans ce_s1) rfl rfl rfl rfl hl.1 (Nat.le_of_ble_eq_true rfl) dX6_plan_8 (fun H locs hW hS => ?_)
  obtain ⟨Z_1, eZ_1⟩ : ∃ y, y = fX1_mark Z := ⟨_, rfl⟩
  rw [← eZ_1] at hW
  refine lv_aload_n hx hb dX6_plan_11 rfl (lv_at hl 0 rfl) ?_
  refine lv_aload_n hx hb dX6_plan_12 rfl (lv_at hl 0 rfl) ?_
  refine wr_get hC hinRX6 hW (vS (by decide)) ((wE_c (Z' := wset Z_1 11 (Z_1 11)) (by first | (simp [wset]; done) | (simp only [wset]; split <;> first | (exfalso; omega) | simp))).trans ce_s0) rfl 0 (by decide) hk1 rfl dX6_plan_13 ?_
  refine lv_iload_n hx hb dX6_plan_16 rfl (lv_at hl 1 rfl) ?_
  refine lv_iload_n hx hb dX6_plan_17 rfl (lv_at hl 2 rfl) ?_
  refine lv_iload_n hx hb dX6_plan_18 rfl (lv_at hl 3 rfl) ?_
  have hW := wW_eq (Z' := (wset Z_1 0 (Z_1 0))) hW (by
    funext i9
    by_cases e0 : i9 = 0
    all_goals first | (simp [wset, e0]; done) | (exfalso; omega) | (subst_vars; simp [wset]; done) | (subst_vars; simp_all [wset]; done))
  refine wc_i hC hml (kX0_addPlan l G Z_1 0 (by decide) (Z_1 0) a1 a2 a3) (cwV 3 hts gX6_plan_X0_addPlan rfl rfl rfl (by decide +kernel) ⟨Nat.le_of_ble_eq_true rfl, Nat.le_of_ble_eq_true rfl⟩) hW hS (vB (by decide) (by decide)) (ce_b0 (by decide)) rfl rfl rfl rfl hl.1 (Nat.le_of_ble_eq_true rfl) dX6_plan_19 (fun H locs hW hS => ?_)
  obtain ⟨P_2, eP_2⟩ : ∃ y, y = fX0_addPlan (Z_1 0) a1 a2 a3 := ⟨_, rfl⟩
  rw [← eP_2] at hW ⊢
  refine wc_i hC hml (kX6_recorded l G (wset Z_1 0 P_2.1) P_2.2) (cwV 1 hts gX6_plan_X6_recorded rfl rfl rfl (by decide +kernel) ⟨Nat.le_of_ble_eq_true rfl, Nat.le_of_ble_eq_true rfl⟩) hW hS (vS (by decide)) ((wE_c (Z' := wset Z_1 11 (Z_1 11)) (by first | (simp [wset]; done) | (simp only [wset]; split <;> first | (exfalso; omega) | simp))).trans ce_s0) rfl rfl rfl rfl hl.1 (Nat.le_of_ble_eq_true rfl) dX6_plan_22 (fun H locs hW hS => ?_)
  obtain ⟨Q_3, eQ_3⟩ : ∃ y, y = fX6_recorded (wset Z_1 0 P_2.1) P_2.2 := ⟨_, rfl⟩
  rw [← eQ_3] at hW ⊢
  have hf : fX6_plan Z a1 a2 a3 = (Q_3.1, Q_3.2) := by
    subst eQ_3
    subst eP_2
    subst eZ_1
    exact rfl
  exact we_i hC hr hlocks (congrArg Prod.snd hf).symm (congrArg Prod.fst hf).symm hW hS dX6_plan_25
def fX6_stop (Z : wZ) (a1 : Int32) : wZ × Int32 :=
  let Z_1 := fX1_mark Z
  let P_2 := fX0_halt (Z_1 0) a1
  let Q_3 := fX6_recorded (wset Z_1 0 P_2.1) P_2.2
  (Q_3.1, Q_3.2)
abbrev rX6_stop : Room := { frames := 4, cells := 0, slots := 0, locals := 83 }
set_option maxHeartbeats 4000000 in
set_option maxRecDepth 100000 in
theorem kX6_stop (l : Launch) (G : wG) (Z : wZ)  (a1 : Int32)  : mI l yX6_stop wsX6_stop rX6_stop G [.ref (G.2.2.1 11 0), .int a1] Z (fX6_stop Z a1).2 (fX6_stop Z a1).1 := by
  refine Met.ofW (cc := cX6_stop) (maxL := 2) (ret := (some .int)) (by decide) rfl ?_
  intro p e s m args below meth c s₁ B0 hml hv
  obtain ⟨rfl, hW, hK, hL⟩ := hv
  have hlocks := B0.notSynchronized
  have hr := B0.returns
  have hC : wX p s m c cX6_stop _ wsX6_stop RX6 G := ⟨B0.exec, B0.bytes, findClass_of_methodNamed B0.named, atoms_spec (ws := wsX6_stop) B0.pre, hK, hL⟩
  have hx := hC.1
  have hb := hC.2.1
  have hts := hC.2.2.2.1
  have hinRX6 : ∀ w ∈ wsX60, w ∈ wsX6_stop := by decide +kernel
  have hk0 := hts (.fieldLink RX6 22 "RampShafts" "history" "LRampShafts$History;") (by decide +kernel)
  have hk1 := hts (.fieldLink RX6 10 "RampShafts" "bench" "LRampShafts$Bench;") (by decide +kernel)
  have hS : va_S (wA G) s.heap s.heap [] := va_S.rf
  have hl := lv_entry ([.ref (G.2.2.1 11 0), .int a1]) (n := 2) (Nat.le_of_ble_eq_true rfl)
  rw [lg_entry_eq]
  generalize (lg_sl ([.ref (G.2.2.1 11 0), .int a1]) ++ List.replicate (2 - (lg_sl ([.ref (G.2.2.1 11 0), .int a1])).length) Slot.unset).toArray = ls at hl ⊢
  have hl : lv_has ls 2 [(0, .ref (G.2.2.1 11 0)), (1, .int a1)] := hl
  refine lv_aload_n hx hb dX6_stop_0 rfl (lv_at hl 0 rfl) ?_
  refine wr_get hC hinRX6 hW (vS (by decide)) ((wE_c (Z' := wset Z 11 (Z 11)) (by first | (simp [wset]; done) | (simp only [wset]; split <;> first | (exfalso; omega) | simp))).trans ce_s0) rfl 2 (by decide) hk0 rfl dX6_stop_1 ?_
  refine lv_aload_n hx hb dX6_stop_4 rfl (lv_at hl 0 rfl) ?_
  refine wr_get hC hinRX6 hW (vS (by decide)) ((wE_c (Z' := wset Z 11 (Z 11)) (by first | (simp [wset]; done) | (simp only [wset]; split <;> first | (exfalso; omega) | simp))).trans ce_s0) rfl 0 (by decide) hk1 rfl dX6_stop_5 ?_
  refine wc_v hC hml (kX1_mark l G Z) (cwV 1 hts gX6_stop_X1_mark rfl rfl rfl (by decide +kernel) ⟨Nat.le_of_ble_eq_true rfl, Nat.le_of_ble_eq_true rfl⟩) hW hS (vS (by decide)) ((wE_c (Z' := wset Z 11 (Z 11)) (by first | (simp [wset]; done) | (simp only [wset]; split <;> first | (exfalso; omega) | simp))).trans ce_s1) rfl rfl rfl rfl hl.1 (Nat.le_of_ble_eq_true rfl) dX6_stop_8 (fun H locs hW hS => ?_)
  obtain ⟨Z_1, eZ_1⟩ : ∃ y, y = fX1_mark Z := ⟨_, rfl⟩
  rw [← eZ_1] at hW
  refine lv_aload_n hx hb dX6_stop_11 rfl (lv_at hl 0 rfl) ?_
  refine lv_aload_n hx hb dX6_stop_12 rfl (lv_at hl 0 rfl) ?_
  refine wr_get hC hinRX6 hW (vS (by decide)) ((wE_c (Z' := wset Z_1 11 (Z_1 11)) (by first | (simp [wset]; done) | (simp only [wset]; split <;> first | (exfalso; omega) | simp))).trans ce_s0) rfl 0 (by decide) hk1 rfl dX6_stop_13 ?_
  refine lv_iload_n hx hb dX6_stop_16 rfl (lv_at hl 1 rfl) ?_
  have hW := wW_eq (Z' := (wset Z_1 0 (Z_1 0))) hW (by
    funext i9
    by_cases e0 : i9 = 0
    all_goals first | (simp [wset, e0]; done) | (exfalso; omega) | (subst_vars; simp [wset]; done) | (subst_vars; simp_all [wset]; done))
  refine wc_i hC hml (kX0_halt l G Z_1 0 (by decide) (Z_1 0) a1) (cwV 1 hts gX6_stop_X0_halt rfl rfl rfl (by decide +kernel) ⟨Nat.le_of_ble_eq_true rfl, Nat.le_of_ble_eq_true rfl⟩) hW hS (vB (by decide) (by decide)) (ce_b0 (by decide)) rfl rfl rfl rfl hl.1 (Nat.le_of_ble_eq_true rfl) dX6_stop_17 (fun H locs hW hS => ?_)
  obtain ⟨P_2, eP_2⟩ : ∃ y, y = fX0_halt (Z_1 0) a1 := ⟨_, rfl⟩
  rw [← eP_2] at hW ⊢
  refine wc_i hC hml (kX6_recorded l G (wset Z_1 0 P_2.1) P_2.2) (cwV 1 hts gX6_stop_X6_recorded rfl rfl rfl (by decide +kernel) ⟨Nat.le_of_ble_eq_true rfl, Nat.le_of_ble_eq_true rfl⟩) hW hS (vS (by decide)) ((wE_c (Z' := wset Z_1 11 (Z_1 11)) (by first | (simp [wset]; done) | (simp only [wset]; split <;> first | (exfalso; omega) | simp))).trans ce_s0) rfl rfl rfl rfl hl.1 (Nat.le_of_ble_eq_true rfl) dX6_stop_20 (fun H locs hW hS => ?_)
  obtain ⟨Q_3, eQ_3⟩ : ∃ y, y = fX6_recorded (wset Z_1 0 P_2.1) P_2.2 := ⟨_, rfl⟩
  rw [← eQ_3] at hW ⊢
  have hf : fX6_stop Z a1 = (Q_3.1, Q_3.2) := by
    subst eQ_3
    subst eP_2
    subst eZ_1
    exact rfl
  exact we_i hC hr hlocks (congrArg Prod.snd hf).symm (congrArg Prod.fst hf).symm hW hS dX6_stop_23
def fX6_home (Z : wZ) (a1 : Int32) : wZ × Int32 :=
  let Z_1 := fX1_mark Z
  let P_2 := fX0_bringHome (Z_1 0) a1
  let Q_3 := fX6_recorded (wset Z_1 0 P_2.1) P_2.2
  (Q_3.1, Q_3.2)
abbrev rX6_home : Room := { frames := 3, cells := 0, slots := 0, locals := 65 }
set_option maxHeartbeats 4000000 in
set_option maxRecDepth 100000 in
theorem kX6_home (l : Launch) (G : wG) (Z : wZ)  (a1 : Int32)  : mI l yX6_home wsX6_home rX6_home G [.ref (G.2.2.1 11 0), .int a1] Z (fX6_home Z a1).2 (fX6_home Z a1).1 := by
  refine Met.ofW (cc := cX6_home) (maxL := 2) (ret := (some .int)) (by decide) rfl ?_
  intro p e s m args below meth c s₁ B0 hml hv
  obtain ⟨rfl, hW, hK, hL⟩ := hv
  have hlocks := B0.notSynchronized
  have hr := B0.returns
  have hC : wX p s m c cX6_home _ wsX6_home RX6 G := ⟨B0.exec, B0.bytes, findClass_of_methodNamed B0.named, atoms_spec (ws := wsX6_home) B0.pre, hK, hL⟩
  have hx := hC.1
  have hb := hC.2.1
  have hts := hC.2.2.2.1
  have hinRX6 : ∀ w ∈ wsX60, w ∈ wsX6_home := by decide +kernel
  have hk0 := hts (.fieldLink RX6 22 "RampShafts" "history" "LRampShafts$History;") (by decide +kernel)
  have hk1 := hts (.fieldLink RX6 10 "RampShafts" "bench" "LRampShafts$Bench;") (by decide +kernel)
  have hS : va_S (wA G) s.heap s.heap [] := va_S.rf
  have hl := lv_entry ([.ref (G.2.2.1 11 0), .int a1]) (n := 2) (Nat.le_of_ble_eq_true rfl)
  rw [lg_entry_eq]
  generalize (lg_sl ([.ref (G.2.2.1 11 0), .int a1]) ++ List.replicate (2 - (lg_sl ([.ref (G.2.2.1 11 0), .int a1])).length) Slot.unset).toArray = ls at hl ⊢
  have hl : lv_has ls 2 [(0, .ref (G.2.2.1 11 0)), (1, .int a1)] := hl
  refine lv_aload_n hx hb dX6_home_0 rfl (lv_at hl 0 rfl) ?_
  refine wr_get hC hinRX6 hW (vS (by decide)) ((wE_c (Z' := wset Z 11 (Z 11)) (by first | (simp [wset]; done) | (simp only [wset]; split <;> first | (exfalso; omega) | simp))).trans ce_s0) rfl 2 (by decide) hk0 rfl dX6_home_1 ?_
  refine lv_aload_n hx hb dX6_home_4 rfl (lv_at hl 0 rfl) ?_
  refine wr_get hC hinRX6 hW (vS (by decide)) ((wE_c (Z' := wset Z 11 (Z 11)) (by first | (simp [wset]; done) | (simp only [wset]; split <;> first | (exfalso; omega) | simp))).trans ce_s0) rfl 0 (by decide) hk1 rfl dX6_home_5 ?_
  refine wc_v hC hml (kX1_mark l G Z) (cwV 1 hts gX6_home_X1_mark rfl rfl rfl (by decide +kernel) ⟨Nat.le_of_ble_eq_true rfl, Nat.le_of_ble_eq_true rfl⟩) hW hS (vS (by decide)) ((wE_c (Z' := wset Z 11 (Z 11)) (by first | (simp [wset]; done) | (simp only [wset]; split <;> first | (exfalso; omega) | simp))).trans ce_s1) rfl rfl rfl rfl hl.1 (Nat.le_of_ble_eq_true rfl) dX6_home_8 (fun H locs hW hS => ?_)
  obtain ⟨Z_1, eZ_1⟩ : ∃ y, y = fX1_mark Z := ⟨_, rfl⟩
  rw [← eZ_1] at hW
  refine lv_aload_n hx hb dX6_home_11 rfl (lv_at hl 0 rfl) ?_
  refine lv_aload_n hx hb dX6_home_12 rfl (lv_at hl 0 rfl) ?_
  refine wr_get hC hinRX6 hW (vS (by decide)) ((wE_c (Z' := wset Z_1 11 (Z_1 11)) (by first | (simp [wset]; done) | (simp only [wset]; split <;> first | (exfalso; omega) | simp))).trans ce_s0) rfl 0 (by decide) hk1 rfl dX6_home_13 ?_
  refine lv_iload_n hx hb dX6_home_16 rfl (lv_at hl 1 rfl) ?_
  have hW := wW_eq (Z' := (wset Z_1 0 (Z_1 0))) hW (by
    funext i9
    by_cases e0 : i9 = 0
    all_goals first | (simp [wset, e0]; done) | (exfalso; omega) | (subst_vars; simp [wset]; done) | (subst_vars; simp_all [wset]; done))
  refine wc_i hC hml (kX0_bringHome l G Z_1 0 (by decide) (Z_1 0) a1) (cwV 1 hts gX6_home_X0_bringHome rfl rfl rfl (by decide +kernel) ⟨Nat.le_of_ble_eq_true rfl, Nat.le_of_ble_eq_true rfl⟩) hW hS (vB (by decide) (by decide)) (ce_b0 (by decide)) rfl rfl rfl rfl hl.1 (Nat.le_of_ble_eq_true rfl) dX6_home_17 (fun H locs hW hS => ?_)
  obtain ⟨P_2, eP_2⟩ : ∃ y, y = fX0_bringHome (Z_1 0) a1 := ⟨_, rfl⟩
  rw [← eP_2] at hW ⊢
  refine wc_i hC hml (kX6_recorded l G (wset Z_1 0 P_2.1) P_2.2) (cwV 1 hts gX6_home_X6_recorded rfl rfl rfl (by decide +kernel) ⟨Nat.le_of_ble_eq_true rfl, Nat.le_of_ble_eq_true rfl⟩) hW hS (vS (by decide)) ((wE_c (Z' := wset Z_1 11 (Z_1 11)) (by first | (simp [wset]; done) | (simp only [wset]; split <;> first | (exfalso; omega) | simp))).trans ce_s0) rfl rfl rfl rfl hl.1 (Nat.le_of_ble_eq_true rfl) dX6_home_20 (fun H locs hW hS => ?_)
  obtain ⟨Q_3, eQ_3⟩ : ∃ y, y = fX6_recorded (wset Z_1 0 P_2.1) P_2.2 := ⟨_, rfl⟩
  rw [← eQ_3] at hW ⊢
  have hf : fX6_home Z a1 = (Q_3.1, Q_3.2) := by
    subst eQ_3
    subst eP_2
    subst eZ_1
    exact rfl
  exact we_i hC hr hlocks (congrArg Prod.snd hf).symm (congrArg Prod.fst hf).symm hW hS dX6_home_23
def fX6_pass (Z : wZ) (a1 : Int32) : wZ × Int32 :=
  let Z_1 := fX1_mark Z
  let P_2 := fX0_passTicks (Z_1 0) a1
  let Q_3 := fX6_recorded (wset Z_1 0 P_2.1) P_2.2
  (Q_3.1, Q_3.2)
abbrev rX6_pass : Room := { frames := 5, cells := 0, slots := 0, locals := 117 }
set_option maxHeartbeats 4000000 in
set_option maxRecDepth 100000 in
theorem kX6_pass (l : Launch) (G : wG) (Z : wZ)  (a1 : Int32)  : mI l yX6_pass wsX6_pass rX6_pass G [.ref (G.2.2.1 11 0), .int a1] Z (fX6_pass Z a1).2 (fX6_pass Z a1).1 := by
  refine Met.ofW (cc := cX6_pass) (maxL := 2) (ret := (some .int)) (by decide) rfl ?_
  intro p e s m args below meth c s₁ B0 hml hv
  obtain ⟨rfl, hW, hK, hL⟩ := hv
  have hlocks := B0.notSynchronized
  have hr := B0.returns
  have hC : wX p s m c cX6_pass _ wsX6_pass RX6 G := ⟨B0.exec, B0.bytes, findClass_of_methodNamed B0.named, atoms_spec (ws := wsX6_pass) B0.pre, hK, hL⟩
  have hx := hC.1
  have hb := hC.2.1
  have hts := hC.2.2.2.1
  have hinRX6 : ∀ w ∈ wsX60, w ∈ wsX6_pass := by decide +kernel
  have hk0 := hts (.fieldLink RX6 22 "RampShafts" "history" "LRampShafts$History;") (by decide +kernel)
  have hk1 := hts (.fieldLink RX6 10 "RampShafts" "bench" "LRampShafts$Bench;") (by decide +kernel)
  have hS : va_S (wA G) s.heap s.heap [] := va_S.rf
  have hl := lv_entry ([.ref (G.2.2.1 11 0), .int a1]) (n := 2) (Nat.le_of_ble_eq_true rfl)
  rw [lg_entry_eq]
  generalize (lg_sl ([.ref (G.2.2.1 11 0), .int a1]) ++ List.replicate (2 - (lg_sl ([.ref (G.2.2.1 11 0), .int a1])).length) Slot.unset).toArray = ls at hl ⊢
  have hl : lv_has ls 2 [(0, .ref (G.2.2.1 11 0)), (1, .int a1)] := hl
  refine lv_aload_n hx hb dX6_pass_0 rfl (lv_at hl 0 rfl) ?_
  refine wr_get hC hinRX6 hW (vS (by decide)) ((wE_c (Z' := wset Z 11 (Z 11)) (by first | (simp [wset]; done) | (simp only [wset]; split <;> first | (exfalso; omega) | simp))).trans ce_s0) rfl 2 (by decide) hk0 rfl dX6_pass_1 ?_
  refine lv_aload_n hx hb dX6_pass_4 rfl (lv_at hl 0 rfl) ?_
  refine wr_get hC hinRX6 hW (vS (by decide)) ((wE_c (Z' := wset Z 11 (Z 11)) (by first | (simp [wset]; done) | (simp only [wset]; split <;> first | (exfalso; omega) | simp))).trans ce_s0) rfl 0 (by decide) hk1 rfl dX6_pass_5 ?_
  refine wc_v hC hml (kX1_mark l G Z) (cwV 1 hts gX6_pass_X1_mark rfl rfl rfl (by decide +kernel) ⟨Nat.le_of_ble_eq_true rfl, Nat.le_of_ble_eq_true rfl⟩) hW hS (vS (by decide)) ((wE_c (Z' := wset Z 11 (Z 11)) (by first | (simp [wset]; done) | (simp only [wset]; split <;> first | (exfalso; omega) | simp))).trans ce_s1) rfl rfl rfl rfl hl.1 (Nat.le_of_ble_eq_true rfl) dX6_pass_8 (fun H locs hW hS => ?_)
  obtain ⟨Z_1, eZ_1⟩ : ∃ y, y = fX1_mark Z := ⟨_, rfl⟩
  rw [← eZ_1] at hW
  refine lv_aload_n hx hb dX6_pass_11 rfl (lv_at hl 0 rfl) ?_
  refine lv_aload_n hx hb dX6_pass_12 rfl (lv_at hl 0 rfl) ?_
  refine wr_get hC hinRX6 hW (vS (by decide)) ((wE_c (Z' := wset Z_1 11 (Z_1 11)) (by first | (simp [wset]; done) | (simp only [wset]; split <;> first | (exfalso; omega) | simp))).trans ce_s0) rfl 0 (by decide) hk1 rfl dX6_pass_13 ?_
  refine lv_iload_n hx hb dX6_pass_16 rfl (lv_at hl 1 rfl) ?_
  have hW := wW_eq (Z' := (wset Z_1 0 (Z_1 0))) hW (by
    funext i9
    by_cases e0 : i9 = 0
    all_goals first | (simp [wset, e0]; done) | (exfalso; omega) | (subst_vars; simp [wset]; done) | (subst_vars; simp_all [wset]; done))
  refine wc_i hC hml (kX0_passTicks l G Z_1 0 (by decide) (Z_1 0) a1) (cwV 1 hts gX6_pass_X0_passTicks rfl rfl rfl (by decide +kernel) ⟨Nat.le_of_ble_eq_true rfl, Nat.le_of_ble_eq_true rfl⟩) hW hS (vB (by decide) (by decide)) (ce_b0 (by decide)) rfl rfl rfl rfl hl.1 (Nat.le_of_ble_eq_true rfl) dX6_pass_17 (fun H locs hW hS => ?_)
  obtain ⟨P_2, eP_2⟩ : ∃ y, y = fX0_passTicks (Z_1 0) a1 := ⟨_, rfl⟩
  rw [← eP_2] at hW ⊢
  refine wc_i hC hml (kX6_recorded l G (wset Z_1 0 P_2.1) P_2.2) (cwV 1 hts gX6_pass_X6_recorded rfl rfl rfl (by decide +kernel) ⟨Nat.le_of_ble_eq_true rfl, Nat.le_of_ble_eq_true rfl⟩) hW hS (vS (by decide)) ((wE_c (Z' := wset Z_1 11 (Z_1 11)) (by first | (simp [wset]; done) | (simp only [wset]; split <;> first | (exfalso; omega) | simp))).trans ce_s0) rfl rfl rfl rfl hl.1 (Nat.le_of_ble_eq_true rfl) dX6_pass_20 (fun H locs hW hS => ?_)
  obtain ⟨Q_3, eQ_3⟩ : ∃ y, y = fX6_recorded (wset Z_1 0 P_2.1) P_2.2 := ⟨_, rfl⟩
  rw [← eQ_3] at hW ⊢
  have hf : fX6_pass Z a1 = (Q_3.1, Q_3.2) := by
    subst eQ_3
    subst eP_2
    subst eZ_1
    exact rfl
  exact we_i hC hr hlocks (congrArg Prod.snd hf).symm (congrArg Prod.fst hf).symm hW hS dX6_pass_23

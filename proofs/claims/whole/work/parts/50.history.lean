theorem wW_eq {G : wG} {Z Z' : wZ} {H : Heap} (hW : wW G Z H) (e : Z = Z') : wW G Z' H := e ▸ hW
def fX1_keepMarked (B : wB) : wB :=
  if 7 ≤ ((B 1 0) + 1) then (bput (bput B 1 0 0) 1 1 (if 6 < ((B 1 1) + 1) then 6 else ((B 1 1) + 1)))
  else (bput (bput B 1 0 ((B 1 0) + 1)) 1 1 (if 6 < ((B 1 1) + 1) then 6 else ((B 1 1) + 1)))
abbrev rX1_keepMarked : Room := { frames := 1, cells := 0, slots := 0, locals := 21 }
set_option maxHeartbeats 4000000 in
set_option maxRecDepth 100000 in
theorem kX1_keepMarked (l : Launch) (G : wG) (Z : wZ) (B : wB)   : mV l yX1_keepMarked wsX1_keepMarked rX1_keepMarked G [.ref (G.2.2.1 11 1)] (wset Z 11 B) (wset Z 11 (fX1_keepMarked B)) := by
  refine Met.ofW (cc := cX1_keepMarked) (maxL := 1) (ret := none) (by decide) rfl ?_
  intro p e s m args below meth c s₁ B0 hml hv
  obtain ⟨rfl, hW, hK, hL⟩ := hv
  have hlocks := B0.notSynchronized
  have hr := B0.returns
  have hC : wX p s m c cX1_keepMarked _ wsX1_keepMarked RX1 G := ⟨B0.exec, B0.bytes, findClass_of_methodNamed B0.named, atoms_spec (ws := wsX1_keepMarked) B0.pre, hK, hL⟩
  have hx := hC.1
  have hb := hC.2.1
  have hts := hC.2.2.2.1
  have hinRX1 : ∀ w ∈ wsX10, w ∈ wsX1_keepMarked := by decide +kernel
  have hk0 := hts (.fieldLink RX1 18 "RampShafts$History" "marked" "I") (by decide +kernel)
  have hk1 := hts (.fieldLink RX1 11 "RampShafts$History" "ring" "[LRampShafts$Bench;") (by decide +kernel)
  have hk2 := hts (.fieldLink RX1 26 "RampShafts$History" "kept" "I") (by decide +kernel)
  have hk3 := hts (.methodLink RX1 29 Lib.Math.min.name) (by decide +kernel)
  have hk4 := hts (.static Lib.Math.min.name) (by decide +kernel)
  have hk5 := hts (.initialized "java/lang/Math") (by decide +kernel)
  have hk6 := hts (.code Lib.Math.min.name Lib.Math.min.code 2 (some .int)) (by decide +kernel)
  have hS : va_S (wA G) s.heap s.heap [] := va_S.rf
  have hl := lv_entry ([.ref (G.2.2.1 11 1)]) (n := 1) (Nat.le_of_ble_eq_true rfl)
  rw [lg_entry_eq]
  generalize (lg_sl ([.ref (G.2.2.1 11 1)]) ++ List.replicate (1 - (lg_sl ([.ref (G.2.2.1 11 1)])).length) Slot.unset).toArray = ls at hl ⊢
  have hl : lv_has ls 1 [(0, .ref (G.2.2.1 11 1))] := hl
  refine lv_aload_n hx hb dX1_keepMarked_0 rfl (lv_at hl 0 rfl) ?_
  refine lv_aload_n hx hb dX1_keepMarked_1 rfl (lv_at hl 0 rfl) ?_
  refine wr_get hC hinRX1 hW (vS (by decide)) ce_s1 rfl 1 (by decide) hk0 rfl dX1_keepMarked_2 ?_
  refine lv_iconst (v := 1) hx hb dX1_keepMarked_5 (by decide) ?_
  refine lv_iadd hx hb dX1_keepMarked_6 ?_
  refine lv_aload_n hx hb dX1_keepMarked_7 rfl (lv_at hl 0 rfl) ?_
  refine wr_get hC hinRX1 hW (vS (by decide)) ce_s1 rfl 0 (by decide) hk1 rfl dX1_keepMarked_8 ?_
  refine wr_alen (v := 7) hC hW (vS (by decide)) ce_s2 (ty := .object _) rfl rfl dX1_keepMarked_11 ?_
  refine lv_icmp_ge (tgt := 24) hx hb dX1_keepMarked_12 (by decide) (fun c_1 => ?_) (fun c_1 => ?_)
  · skip
    refine lv_iconst (v := 0) hx hb dX1_keepMarked_24 (by decide) ?_
    refine wr_put (Z' := wset Z 11 (bput B 1 0 0)) (v := .int 0) hC hinRX1 tyX1 tyX1_ok nmX1 hW hS (vS (by decide)) ce_s1 rfl 1 (by decide) hk0 rfl (tyX1_ok 1 (by decide)) rfl rfl (Nat.le_of_ble_eq_true rfl) wset_off pu_s1_0 dX1_keepMarked_25 (fun H locs hW hS => ?_)
    refine lv_aload_n hx hb dX1_keepMarked_28 rfl (lv_at hl 0 rfl) ?_
    refine lv_aload_n hx hb dX1_keepMarked_29 rfl (lv_at hl 0 rfl) ?_
    refine wr_get hC hinRX1 hW (vS (by decide)) ce_s1 rfl 2 (by decide) hk2 rfl dX1_keepMarked_30 ?_
    refine lv_re (y := B 1 1) (bput_q (by decide)) ?_
    refine lv_iconst (v := 1) hx hb dX1_keepMarked_33 (by decide) ?_
    refine lv_iadd hx hb dX1_keepMarked_34 ?_
    refine lv_bipush (v := 6) hx hb dX1_keepMarked_35 (by decide) ?_
    refine va_mmin hx hb (hml.trans hl.1.symm) hC.2.2.1 hk3 hk4 hk5 hk6 (Nat.le_of_ble_eq_true rfl) (Nat.le_of_ble_eq_true rfl) (Nat.zero_le _) (Nat.zero_le _) dX1_keepMarked_37 ?_
    refine wr_put (Z' := wset Z 11 (bput (bput B 1 0 0) 1 1 (if 6 < ((B 1 1) + 1) then 6 else ((B 1 1) + 1)))) (v := .int (if 6 < ((B 1 1) + 1) then 6 else ((B 1 1) + 1))) hC hinRX1 tyX1 tyX1_ok nmX1 hW hS (vS (by decide)) ce_s1 rfl 2 (by decide) hk2 rfl (tyX1_ok 2 (by decide)) rfl rfl (Nat.le_of_ble_eq_true rfl) wset_off pu_s1_1 dX1_keepMarked_40 (fun H locs hW hS => ?_)
    have hf : fX1_keepMarked B = (bput (bput B 1 0 0) 1 1 (if 6 < ((B 1 1) + 1) then 6 else ((B 1 1) + 1))) := (if_pos c_1).trans rfl
    exact we_v hC hr hlocks (congrArg (wset Z 11) hf).symm hW hS dX1_keepMarked_43
  · skip
    refine lv_aload_n hx hb dX1_keepMarked_15 rfl (lv_at hl 0 rfl) ?_
    refine wr_get hC hinRX1 hW (vS (by decide)) ce_s1 rfl 1 (by decide) hk0 rfl dX1_keepMarked_16 ?_
    refine lv_iconst (v := 1) hx hb dX1_keepMarked_19 (by decide) ?_
    refine lv_iadd hx hb dX1_keepMarked_20 ?_
    refine lv_goto (tgt := 25) hx hb dX1_keepMarked_21 (by decide) ?_
    refine wr_put (Z' := wset Z 11 (bput B 1 0 ((B 1 0) + 1))) (v := .int ((B 1 0) + 1)) hC hinRX1 tyX1 tyX1_ok nmX1 hW hS (vS (by decide)) ce_s1 rfl 1 (by decide) hk0 rfl (tyX1_ok 1 (by decide)) rfl rfl (Nat.le_of_ble_eq_true rfl) wset_off pu_s1_0 dX1_keepMarked_25 (fun H locs hW hS => ?_)
    refine lv_aload_n hx hb dX1_keepMarked_28 rfl (lv_at hl 0 rfl) ?_
    refine lv_aload_n hx hb dX1_keepMarked_29 rfl (lv_at hl 0 rfl) ?_
    refine wr_get hC hinRX1 hW (vS (by decide)) ce_s1 rfl 2 (by decide) hk2 rfl dX1_keepMarked_30 ?_
    refine lv_re (y := B 1 1) (bput_q (by decide)) ?_
    refine lv_iconst (v := 1) hx hb dX1_keepMarked_33 (by decide) ?_
    refine lv_iadd hx hb dX1_keepMarked_34 ?_
    refine lv_bipush (v := 6) hx hb dX1_keepMarked_35 (by decide) ?_
    refine va_mmin hx hb (hml.trans hl.1.symm) hC.2.2.1 hk3 hk4 hk5 hk6 (Nat.le_of_ble_eq_true rfl) (Nat.le_of_ble_eq_true rfl) (Nat.zero_le _) (Nat.zero_le _) dX1_keepMarked_37 ?_
    refine wr_put (Z' := wset Z 11 (bput (bput B 1 0 ((B 1 0) + 1)) 1 1 (if 6 < ((B 1 1) + 1) then 6 else ((B 1 1) + 1)))) (v := .int (if 6 < ((B 1 1) + 1) then 6 else ((B 1 1) + 1))) hC hinRX1 tyX1 tyX1_ok nmX1 hW hS (vS (by decide)) ce_s1 rfl 2 (by decide) hk2 rfl (tyX1_ok 2 (by decide)) rfl rfl (Nat.le_of_ble_eq_true rfl) wset_off pu_s1_1 dX1_keepMarked_40 (fun H locs hW hS => ?_)
    have hf : fX1_keepMarked B = (bput (bput B 1 0 ((B 1 0) + 1)) 1 1 (if 6 < ((B 1 1) + 1) then 6 else ((B 1 1) + 1))) := (if_neg c_1).trans rfl
    exact we_v hC hr hlocks (congrArg (wset Z 11) hf).symm hW hS dX1_keepMarked_43
def fX1_placeOfLatest (B : wB) : Int32 :=
  if (B 1 0) ≤ 0 then 6
  else (B 1 0) - 1
abbrev rX1_placeOfLatest : Room := { frames := 0, cells := 0, slots := 0, locals := 0 }
set_option maxHeartbeats 4000000 in
set_option maxRecDepth 100000 in
theorem kX1_placeOfLatest (l : Launch) (G : wG) (Z : wZ) (B : wB)   : mI l yX1_placeOfLatest wsX1_placeOfLatest rX1_placeOfLatest G [.ref (G.2.2.1 11 1)] (wset Z 11 B) (fX1_placeOfLatest B) (wset Z 11 B) := by
  refine Met.ofW (cc := cX1_placeOfLatest) (maxL := 1) (ret := (some .int)) (by decide) rfl ?_
  intro p e s m args below meth c s₁ B0 hml hv
  obtain ⟨rfl, hW, hK, hL⟩ := hv
  have hlocks := B0.notSynchronized
  have hr := B0.returns
  have hC : wX p s m c cX1_placeOfLatest _ wsX1_placeOfLatest RX1 G := ⟨B0.exec, B0.bytes, findClass_of_methodNamed B0.named, atoms_spec (ws := wsX1_placeOfLatest) B0.pre, hK, hL⟩
  have hx := hC.1
  have hb := hC.2.1
  have hts := hC.2.2.2.1
  have hinRX1 : ∀ w ∈ wsX10, w ∈ wsX1_placeOfLatest := by decide +kernel
  have hk0 := hts (.fieldLink RX1 18 "RampShafts$History" "marked" "I") (by decide +kernel)
  have hS : va_S (wA G) s.heap s.heap [] := va_S.rf
  have hl := lv_entry ([.ref (G.2.2.1 11 1)]) (n := 1) (Nat.le_of_ble_eq_true rfl)
  rw [lg_entry_eq]
  generalize (lg_sl ([.ref (G.2.2.1 11 1)]) ++ List.replicate (1 - (lg_sl ([.ref (G.2.2.1 11 1)])).length) Slot.unset).toArray = ls at hl ⊢
  have hl : lv_has ls 1 [(0, .ref (G.2.2.1 11 1))] := hl
  refine lv_aload_n hx hb dX1_placeOfLatest_0 rfl (lv_at hl 0 rfl) ?_
  refine wr_get hC hinRX1 hW (vS (by decide)) ce_s1 rfl 1 (by decide) hk0 rfl dX1_placeOfLatest_1 ?_
  refine lv_if_le (tgt := 16) hx hb dX1_placeOfLatest_4 (by decide) (fun c_1 => ?_) (fun c_1 => ?_)
  · skip
    refine lv_bipush (v := 6) hx hb dX1_placeOfLatest_16 (by decide) ?_
    have hf : fX1_placeOfLatest B = 6 := (if_pos c_1).trans rfl
    exact we_i hC hr hlocks hf.symm rfl hW hS dX1_placeOfLatest_18
  · skip
    refine lv_aload_n hx hb dX1_placeOfLatest_7 rfl (lv_at hl 0 rfl) ?_
    refine wr_get hC hinRX1 hW (vS (by decide)) ce_s1 rfl 1 (by decide) hk0 rfl dX1_placeOfLatest_8 ?_
    refine lv_iconst (v := 1) hx hb dX1_placeOfLatest_11 (by decide) ?_
    refine lv_isub hx hb dX1_placeOfLatest_12 ?_
    refine lv_goto (tgt := 18) hx hb dX1_placeOfLatest_13 (by decide) ?_
    have hf : fX1_placeOfLatest B = (B 1 0) - 1 := (if_neg c_1).trans rfl
    exact we_i hC hr hlocks hf.symm rfl hW hS dX1_placeOfLatest_18
def fX1_dropLatest (B : wB) : wB :=
  let x_1 := fX1_placeOfLatest B
  (bput (bput B 1 0 x_1) 1 1 ((B 1 1) - 1))
abbrev rX1_dropLatest : Room := { frames := 1, cells := 0, slots := 0, locals := 20 }
set_option maxHeartbeats 4000000 in
set_option maxRecDepth 100000 in
theorem kX1_dropLatest (l : Launch) (G : wG) (Z : wZ) (B : wB)   : mV l yX1_dropLatest wsX1_dropLatest rX1_dropLatest G [.ref (G.2.2.1 11 1)] (wset Z 11 B) (wset Z 11 (fX1_dropLatest B)) := by
  refine Met.ofW (cc := cX1_dropLatest) (maxL := 1) (ret := none) (by decide) rfl ?_
  intro p e s m args below meth c s₁ B0 hml hv
  obtain ⟨rfl, hW, hK, hL⟩ := hv
  have hlocks := B0.notSynchronized
  have hr := B0.returns
  have hC : wX p s m c cX1_dropLatest _ wsX1_dropLatest RX1 G := ⟨B0.exec, B0.bytes, findClass_of_methodNamed B0.named, atoms_spec (ws := wsX1_dropLatest) B0.pre, hK, hL⟩
  have hx := hC.1
  have hb := hC.2.1
  have hts := hC.2.2.2.1
  have hinRX1 : ∀ w ∈ wsX10, w ∈ wsX1_dropLatest := by decide +kernel
  have hk0 := hts (.fieldLink RX1 18 "RampShafts$History" "marked" "I") (by decide +kernel)
  have hk1 := hts (.fieldLink RX1 26 "RampShafts$History" "kept" "I") (by decide +kernel)
  have hS : va_S (wA G) s.heap s.heap [] := va_S.rf
  have hl := lv_entry ([.ref (G.2.2.1 11 1)]) (n := 1) (Nat.le_of_ble_eq_true rfl)
  rw [lg_entry_eq]
  generalize (lg_sl ([.ref (G.2.2.1 11 1)]) ++ List.replicate (1 - (lg_sl ([.ref (G.2.2.1 11 1)])).length) Slot.unset).toArray = ls at hl ⊢
  have hl : lv_has ls 1 [(0, .ref (G.2.2.1 11 1))] := hl
  refine lv_aload_n hx hb dX1_dropLatest_0 rfl (lv_at hl 0 rfl) ?_
  refine lv_aload_n hx hb dX1_dropLatest_1 rfl (lv_at hl 0 rfl) ?_
  refine wc_i hC hml (kX1_placeOfLatest l G Z B) (cwV 0 hts gX1_dropLatest_X1_placeOfLatest rfl rfl rfl (by decide +kernel) ⟨Nat.le_of_ble_eq_true rfl, Nat.le_of_ble_eq_true rfl⟩) hW hS (vS (by decide)) ce_s1 rfl rfl rfl rfl hl.1 (Nat.le_of_ble_eq_true rfl) dX1_dropLatest_2 (fun H locs hW hS => ?_)
  refine lv_topi (fun x_1 ex_1 => ?_)
  refine wr_put (Z' := wset Z 11 (bput B 1 0 x_1)) (v := .int x_1) hC hinRX1 tyX1 tyX1_ok nmX1 hW hS (vS (by decide)) ce_s1 rfl 1 (by decide) hk0 rfl (tyX1_ok 1 (by decide)) rfl rfl (Nat.le_of_ble_eq_true rfl) wset_off pu_s1_0 dX1_dropLatest_5 (fun H locs hW hS => ?_)
  refine lv_aload_n hx hb dX1_dropLatest_8 rfl (lv_at hl 0 rfl) ?_
  refine lv_dup hx hb dX1_dropLatest_9 rfl ?_
  refine wr_get hC hinRX1 hW (vS (by decide)) ce_s1 rfl 2 (by decide) hk1 rfl dX1_dropLatest_10 ?_
  refine lv_re (y := B 1 1) (bput_q (by decide)) ?_
  refine lv_iconst (v := 1) hx hb dX1_dropLatest_13 (by decide) ?_
  refine lv_isub hx hb dX1_dropLatest_14 ?_
  refine wr_put (Z' := wset Z 11 (bput (bput B 1 0 x_1) 1 1 ((B 1 1) - 1))) (v := .int ((B 1 1) - 1)) hC hinRX1 tyX1 tyX1_ok nmX1 hW hS (vS (by decide)) ce_s1 rfl 2 (by decide) hk1 rfl (tyX1_ok 2 (by decide)) rfl rfl (Nat.le_of_ble_eq_true rfl) wset_off pu_s1_1 dX1_dropLatest_15 (fun H locs hW hS => ?_)
  have hf : fX1_dropLatest B = (bput (bput B 1 0 x_1) 1 1 ((B 1 1) - 1)) := by
    subst ex_1
    exact rfl
  exact we_v hC hr hlocks (congrArg (wset Z 11) hf).symm hW hS dX1_dropLatest_18
abbrev hX1_latest (B : wB) : Prop := ¬ B 1 1 < 1 ∧ ¬ fX1_placeOfLatest B < 0 ∧ fX1_placeOfLatest B < 7
abbrev rX1_latest : Room := { frames := 1, cells := 0, slots := 0, locals := 20 }
set_option maxHeartbeats 4000000 in
set_option maxRecDepth 100000 in
theorem kX1_latest (l : Launch) (G : wG) (Z : wZ) (B : wB)   : mQ l yX1_latest wsX1_latest rX1_latest G [.ref (G.2.2.1 11 1)] (wset Z 11 B) (if hX1_latest B then some (G.2.2.1 (4 + (fX1_placeOfLatest B).toNatClampNeg) 0) else none) (wset Z 11 B) := by
  refine Met.ofW (cc := cX1_latest) (maxL := 2) (ret := (some (.object "RampShafts$Bench"))) (by decide) rfl ?_
  intro p e s m args below meth c s₁ B0 hml hv
  obtain ⟨rfl, hW, hK, hL⟩ := hv
  have hlocks := B0.notSynchronized
  have hr := B0.returns
  have hC : wX p s m c cX1_latest _ wsX1_latest RX1 G := ⟨B0.exec, B0.bytes, findClass_of_methodNamed B0.named, atoms_spec (ws := wsX1_latest) B0.pre, hK, hL⟩
  have hx := hC.1
  have hb := hC.2.1
  have hts := hC.2.2.2.1
  have hinRX1 : ∀ w ∈ wsX10, w ∈ wsX1_latest := by decide +kernel
  have hk0 := hts (.fieldLink RX1 26 "RampShafts$History" "kept" "I") (by decide +kernel)
  have hk1 := hts (.fieldLink RX1 11 "RampShafts$History" "ring" "[LRampShafts$Bench;") (by decide +kernel)
  have hS : va_S (wA G) s.heap s.heap [] := va_S.rf
  have hl := lv_entry ([.ref (G.2.2.1 11 1)]) (n := 2) (Nat.le_of_ble_eq_true rfl)
  rw [lg_entry_eq]
  generalize (lg_sl ([.ref (G.2.2.1 11 1)]) ++ List.replicate (2 - (lg_sl ([.ref (G.2.2.1 11 1)])).length) Slot.unset).toArray = ls at hl ⊢
  have hl : lv_has ls 2 [(0, .ref (G.2.2.1 11 1))] := hl
  refine lv_aload_n hx hb dX1_latest_0 rfl (lv_at hl 0 rfl) ?_
  refine wc_i hC hml (kX1_placeOfLatest l G Z B) (cwV 0 hts gX1_latest_X1_placeOfLatest rfl rfl rfl (by decide +kernel) ⟨Nat.le_of_ble_eq_true rfl, Nat.le_of_ble_eq_true rfl⟩) hW hS (vS (by decide)) ce_s1 rfl rfl rfl rfl hl.1 (Nat.le_of_ble_eq_true rfl) dX1_latest_1 (fun H locs hW hS => ?_)
  refine lv_topi (fun x_1 ex_1 => ?_)
  refine lv_istore_n (lv' := [(1, .int x_1), (0, .ref (G.2.2.1 11 1))]) hx hb dX1_latest_4 rfl hl (by decide) rfl (fun ls hl => ?_)
  refine lv_aload_n hx hb dX1_latest_5 rfl (lv_at hl 1 rfl) ?_
  refine wr_get hC hinRX1 hW (vS (by decide)) ce_s1 rfl 2 (by decide) hk0 rfl dX1_latest_6 ?_
  refine lv_iconst (v := 1) hx hb dX1_latest_9 (by decide) ?_
  refine lv_icmp_lt (tgt := 26) hx hb dX1_latest_10 (by decide) (fun c_2 => ?_) (fun c_2 => ?_)
  · skip
    refine lv_null hx hb dX1_latest_26 ?_
    subst ex_1
    exact we_q hC hr ⟨_, rfl⟩ hlocks (by rw [if_neg (by simp only [hX1_latest, not_and]; intros; simp_all)]; rfl) rfl hW hS dX1_latest_27
  · skip
    refine lv_iload_n hx hb dX1_latest_13 rfl (lv_at hl 0 rfl) ?_
    refine lv_if_lt (tgt := 26) hx hb dX1_latest_14 (by decide) (fun c_3 => ?_) (fun c_3 => ?_)
    · skip
      refine lv_null hx hb dX1_latest_26 ?_
      subst ex_1
      exact we_q hC hr ⟨_, rfl⟩ hlocks (by rw [if_neg (by simp only [hX1_latest, not_and]; intros; simp_all)]; rfl) rfl hW hS dX1_latest_27
    · skip
      refine lv_iload_n hx hb dX1_latest_17 rfl (lv_at hl 0 rfl) ?_
      refine lv_aload_n hx hb dX1_latest_18 rfl (lv_at hl 1 rfl) ?_
      refine wr_get hC hinRX1 hW (vS (by decide)) ce_s1 rfl 0 (by decide) hk1 rfl dX1_latest_19 ?_
      refine wr_alen (v := 7) hC hW (vS (by decide)) ce_s2 (ty := .object _) rfl rfl dX1_latest_22 ?_
      refine lv_icmp_lt (tgt := 28) hx hb dX1_latest_23 (by decide) (fun c_4 => ?_) (fun c_4 => ?_)
      · skip
        refine lv_aload_n hx hb dX1_latest_28 rfl (lv_at hl 1 rfl) ?_
        refine wr_get hC hinRX1 hW (vS (by decide)) ce_s1 rfl 0 (by decide) hk1 rfl dX1_latest_29 ?_
        refine lv_iload_n hx hb dX1_latest_32 rfl (lv_at hl 0 rfl) ?_
        have hv_5 : vp_in x_1 7 := in_lt (N := 7) (by decide) (by decide) c_3 c_4
        refine wr_aald (v := .ref (G.2.2.1 (4 + x_1.toNatClampNeg) 0)) (kA := 4) hC hW (vS (by decide)) ce_s2 rfl hv_5 rfl dX1_latest_33 ?_
        have hv_5l := vp_lt hv_5
        subst ex_1
        exact we_q hC hr ⟨_, rfl⟩ hlocks (by rw [if_pos ⟨c_2, c_3, c_4⟩]; rfl) rfl hW hS dX1_latest_34
      · skip
        refine lv_null hx hb dX1_latest_26 ?_
        subst ex_1
        exact we_q hC hr ⟨_, rfl⟩ hlocks (by rw [if_neg (by simp only [hX1_latest, not_and]; intros; simp_all)]; rfl) rfl hW hS dX1_latest_27
theorem latest_lt {B : wB} (h : hX1_latest B) : (fX1_placeOfLatest B).toNatClampNeg < 7 := vp_lt (in_lt (N := 7) (M := 7) (by decide) (by decide) h.2.1 h.2.2)
def fX1_mark (Z : wZ) : wZ :=
  if ((Z 11) 1 0) < 0 then Z
  else if 7 ≤ ((Z 11) 1 0) then Z
  else (wset Z (4 + ((Z 11) 1 0).toNatClampNeg) (Z 0))
abbrev rX1_mark : Room := { frames := 2, cells := 0, slots := 0, locals := 44 }
set_option maxHeartbeats 4000000 in
set_option maxRecDepth 100000 in
theorem kX1_mark (l : Launch) (G : wG) (Z : wZ)    : mV l yX1_mark wsX1_mark rX1_mark G [.ref (G.2.2.1 11 1), .ref (G.2.2.1 0 0)] Z (fX1_mark Z) := by
  refine Met.ofW (cc := cX1_mark) (maxL := 2) (ret := none) (by decide) rfl ?_
  intro p e s m args below meth c s₁ B0 hml hv
  obtain ⟨rfl, hW, hK, hL⟩ := hv
  have hlocks := B0.notSynchronized
  have hr := B0.returns
  have hC : wX p s m c cX1_mark _ wsX1_mark RX1 G := ⟨B0.exec, B0.bytes, findClass_of_methodNamed B0.named, atoms_spec (ws := wsX1_mark) B0.pre, hK, hL⟩
  have hx := hC.1
  have hb := hC.2.1
  have hts := hC.2.2.2.1
  have hinRX1 : ∀ w ∈ wsX10, w ∈ wsX1_mark := by decide +kernel
  have hk0 := hts (.fieldLink RX1 18 "RampShafts$History" "marked" "I") (by decide +kernel)
  have hk1 := hts (.fieldLink RX1 11 "RampShafts$History" "ring" "[LRampShafts$Bench;") (by decide +kernel)
  have hS : va_S (wA G) s.heap s.heap [] := va_S.rf
  have hl := lv_entry ([.ref (G.2.2.1 11 1), .ref (G.2.2.1 0 0)]) (n := 2) (Nat.le_of_ble_eq_true rfl)
  rw [lg_entry_eq]
  generalize (lg_sl ([.ref (G.2.2.1 11 1), .ref (G.2.2.1 0 0)]) ++ List.replicate (2 - (lg_sl ([.ref (G.2.2.1 11 1), .ref (G.2.2.1 0 0)])).length) Slot.unset).toArray = ls at hl ⊢
  have hl : lv_has ls 2 [(0, .ref (G.2.2.1 11 1)), (1, .ref (G.2.2.1 0 0))] := hl
  refine lv_aload_n hx hb dX1_mark_0 rfl (lv_at hl 0 rfl) ?_
  refine wr_get hC hinRX1 hW (vS (by decide)) ((wE_c (Z' := wset Z 11 (Z 11)) (by first | (simp [wset]; done) | (simp only [wset]; split <;> first | (exfalso; omega) | simp))).trans ce_s1) rfl 1 (by decide) hk0 rfl dX1_mark_1 ?_
  refine lv_if_lt (tgt := 32) hx hb dX1_mark_4 (by decide) (fun c_1 => ?_) (fun c_1 => ?_)
  · skip
    have hf : fX1_mark Z = Z := (if_pos c_1).trans rfl
    exact we_v hC hr hlocks hf.symm hW hS dX1_mark_32
  · skip
    refine lv_aload_n hx hb dX1_mark_7 rfl (lv_at hl 0 rfl) ?_
    refine wr_get hC hinRX1 hW (vS (by decide)) ((wE_c (Z' := wset Z 11 (Z 11)) (by first | (simp [wset]; done) | (simp only [wset]; split <;> first | (exfalso; omega) | simp))).trans ce_s1) rfl 1 (by decide) hk0 rfl dX1_mark_8 ?_
    refine lv_aload_n hx hb dX1_mark_11 rfl (lv_at hl 0 rfl) ?_
    refine wr_get hC hinRX1 hW (vS (by decide)) ((wE_c (Z' := wset Z 11 (Z 11)) (by first | (simp [wset]; done) | (simp only [wset]; split <;> first | (exfalso; omega) | simp))).trans ce_s1) rfl 0 (by decide) hk1 rfl dX1_mark_12 ?_
    refine wr_alen (v := 7) hC hW (vS (by decide)) ((wE_c (Z' := wset Z 11 (Z 11)) (by first | (simp [wset]; done) | (simp only [wset]; split <;> first | (exfalso; omega) | simp))).trans ce_s2) (ty := .object _) rfl rfl dX1_mark_15 ?_
    refine lv_icmp_ge (tgt := 32) hx hb dX1_mark_16 (by decide) (fun c_2 => ?_) (fun c_2 => ?_)
    · skip
      have hf : fX1_mark Z = Z := (if_neg c_1).trans ((if_pos c_2).trans rfl)
      exact we_v hC hr hlocks hf.symm hW hS dX1_mark_32
    · skip
      refine lv_aload_n hx hb dX1_mark_19 rfl (lv_at hl 0 rfl) ?_
      refine wr_get hC hinRX1 hW (vS (by decide)) ((wE_c (Z' := wset Z 11 (Z 11)) (by first | (simp [wset]; done) | (simp only [wset]; split <;> first | (exfalso; omega) | simp))).trans ce_s1) rfl 0 (by decide) hk1 rfl dX1_mark_20 ?_
      refine lv_aload_n hx hb dX1_mark_23 rfl (lv_at hl 0 rfl) ?_
      refine wr_get hC hinRX1 hW (vS (by decide)) ((wE_c (Z' := wset Z 11 (Z 11)) (by first | (simp [wset]; done) | (simp only [wset]; split <;> first | (exfalso; omega) | simp))).trans ce_s1) rfl 1 (by decide) hk0 rfl dX1_mark_24 ?_
      have hv_3 : vp_in ((Z 11) 1 0) 7 := in_ge (N := 7) (by decide) (by decide) c_1 c_2
      refine wr_aald (v := .ref (G.2.2.1 (4 + ((Z 11) 1 0).toNatClampNeg) 0)) (kA := 4) hC hW (vS (by decide)) ((wE_c (Z' := wset Z 11 (Z 11)) (by first | (simp [wset]; done) | (simp only [wset]; split <;> first | (exfalso; omega) | simp))).trans ce_s2) rfl hv_3 rfl dX1_mark_27 ?_
      have hv_3l := vp_lt hv_3
      refine lv_aload_n hx hb dX1_mark_28 rfl (lv_at hl 1 rfl) ?_
      have hW := wW_eq (Z' := (wset Z (4 + ((Z 11) 1 0).toNatClampNeg) (Z (4 + ((Z 11) 1 0).toNatClampNeg)))) hW (by
        funext i9
        by_cases e0 : i9 = (4 + ((Z 11) 1 0).toNatClampNeg)
        all_goals first | (simp [wset, e0]; done) | (exfalso; omega) | (subst_vars; simp [wset]; done) | (subst_vars; simp_all [wset]; done))
      refine wc_v hC hml (kX0_take l G Z (4 + ((Z 11) 1 0).toNatClampNeg) (by have h9 := vp_lt hv_3; omega) 0 (by decide) (by omega) (Z (4 + ((Z 11) 1 0).toNatClampNeg))) (cwV 1 hts gX1_mark_X0_take rfl rfl rfl (by decide +kernel) ⟨Nat.le_of_ble_eq_true rfl, Nat.le_of_ble_eq_true rfl⟩) hW hS (vB (by have h9 := vp_lt hv_3; omega) (by decide)) (ce_b0 (by have h9 := vp_lt hv_3; omega)) rfl rfl rfl rfl hl.1 (Nat.le_of_ble_eq_true rfl) dX1_mark_29 (fun H locs hW hS => ?_)
      have hf : fX1_mark Z = (wset Z (4 + ((Z 11) 1 0).toNatClampNeg) (Z 0)) := (if_neg c_1).trans ((if_neg c_2).trans rfl)
      exact we_v hC hr hlocks hf.symm hW hS dX1_mark_32

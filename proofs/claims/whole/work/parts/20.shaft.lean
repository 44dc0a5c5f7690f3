theorem lv_rev {p : Program} {l : Launch} {e : Env} {R : Room} {s : State} {m : MethodId} {args : Array Value} {below : List Frame} {meth : Method} {c : Code} {H : Heap} {locs : List Loc} {cells slots : Nat} {Q : State → Prop} {pc : Nat} {ls : Array Slot} {rest : List Value} {v v' : Value} (h : v = v') (k : W p l e R s m args below meth c H locs cells slots Q (F0 m pc ls (v' :: rest))) : W p l e R s m args below meth c H locs cells slots Q (F0 m pc ls (v :: rest)) := h ▸ k
def fX5_moves (n : Nat) (B : wB) : Int32 :=
  if (B (3 + n) 5) ≤ 0 then 0
  else 1
abbrev rX5_moves : Room := { frames := 0, cells := 0, slots := 0, locals := 0 }
set_option maxHeartbeats 4000000 in
set_option maxRecDepth 100000 in
theorem kX5_moves (l : Launch) (G : wG) (Z : wZ) (i : Nat) (hi : i < 11) (n : Nat) (hn : n < 4) (B : wB)   : mI l yX5_moves wsX5_moves rX5_moves G [.ref (G.2.2.1 i (3 + n))] (wset Z i B) (fX5_moves n B) (wset Z i B) := by
  refine Met.ofW (cc := cX5_moves) (maxL := 1) (ret := (some .boolean)) (by decide) rfl ?_
  intro p e s m args below meth c s₁ B0 hml hv
  obtain ⟨rfl, hW, hK, hL⟩ := hv
  have hlocks := B0.notSynchronized
  have hr := B0.returns
  have hC : wX p s m c cX5_moves _ wsX5_moves RX5 G := ⟨B0.exec, B0.bytes, findClass_of_methodNamed B0.named, atoms_spec (ws := wsX5_moves) B0.pre, hK, hL⟩
  have hx := hC.1
  have hb := hC.2.1
  have hts := hC.2.2.2.1
  have hinRX5 : ∀ w ∈ wsX50, w ∈ wsX5_moves := by decide +kernel
  have hk0 := hts (.fieldLink RX5 31 "RampShafts$Shaft" "left" "I") (by decide +kernel)
  have hS : va_S (wA G) s.heap s.heap [] := va_S.rf
  have hl := lv_entry ([.ref (G.2.2.1 i (3 + n))]) (n := 1) (Nat.le_of_ble_eq_true rfl)
  rw [lg_entry_eq]
  generalize (lg_sl ([.ref (G.2.2.1 i (3 + n))]) ++ List.replicate (1 - (lg_sl ([.ref (G.2.2.1 i (3 + n))])).length) Slot.unset).toArray = ls at hl ⊢
  have hl : lv_has ls 1 [(0, .ref (G.2.2.1 i (3 + n)))] := hl
  refine lv_aload_n hx hb dX5_moves_0 rfl (lv_at hl 0 rfl) ?_
  refine wr_get hC hinRX5 hW (vBs hi hn) (ce_bs hi hn) rfl 5 (by decide) hk0 rfl dX5_moves_1 ?_
  refine lv_if_le (tgt := 11) hx hb dX5_moves_4 (by decide) (fun c_1 => ?_) (fun c_1 => ?_)
  · skip
    refine lv_iconst (v := 0) hx hb dX5_moves_11 (by decide) ?_
    have hf : fX5_moves n B = 0 := (if_pos c_1).trans rfl
    exact we_z hC hr hlocks (by first | rfl | decide | assumption | exact nar_char_i _) hf.symm rfl hW hS dX5_moves_12
  · skip
    refine lv_iconst (v := 1) hx hb dX5_moves_7 (by decide) ?_
    refine lv_goto (tgt := 12) hx hb dX5_moves_8 (by decide) ?_
    have hf : fX5_moves n B = 1 := (if_neg c_1).trans rfl
    exact we_z hC hr hlocks (by first | rfl | decide | assumption | exact nar_char_i _) hf.symm rfl hW hS dX5_moves_12
def fX5_saysAfter (n : Nat) (B : wB) (a1 : Int32) : Int32 :=
  (B (3 + n) 2) + (((B (3 + n) 4) * (B (3 + n) 0)) * a1)
abbrev rX5_saysAfter : Room := { frames := 0, cells := 0, slots := 0, locals := 0 }
set_option maxHeartbeats 4000000 in
set_option maxRecDepth 100000 in
theorem kX5_saysAfter (l : Launch) (G : wG) (Z : wZ) (i : Nat) (hi : i < 11) (n : Nat) (hn : n < 4) (B : wB) (a1 : Int32)  : mI l yX5_saysAfter wsX5_saysAfter rX5_saysAfter G [.ref (G.2.2.1 i (3 + n)), .int a1] (wset Z i B) (fX5_saysAfter n B a1) (wset Z i B) := by
  refine Met.ofW (cc := cX5_saysAfter) (maxL := 2) (ret := (some .int)) (by decide) rfl ?_
  intro p e s m args below meth c s₁ B0 hml hv
  obtain ⟨rfl, hW, hK, hL⟩ := hv
  have hlocks := B0.notSynchronized
  have hr := B0.returns
  have hC : wX p s m c cX5_saysAfter _ wsX5_saysAfter RX5 G := ⟨B0.exec, B0.bytes, findClass_of_methodNamed B0.named, atoms_spec (ws := wsX5_saysAfter) B0.pre, hK, hL⟩
  have hx := hC.1
  have hb := hC.2.1
  have hts := hC.2.2.2.1
  have hinRX5 : ∀ w ∈ wsX50, w ∈ wsX5_saysAfter := by decide +kernel
  have hk0 := hts (.fieldLink RX5 22 "RampShafts$Shaft" "says" "I") (by decide +kernel)
  have hk1 := hts (.fieldLink RX5 28 "RampShafts$Shaft" "way" "I") (by decide +kernel)
  have hk2 := hts (.fieldLink RX5 15 "RampShafts$Shaft" "micro" "I") (by decide +kernel)
  have hS : va_S (wA G) s.heap s.heap [] := va_S.rf
  have hl := lv_entry ([.ref (G.2.2.1 i (3 + n)), .int a1]) (n := 2) (Nat.le_of_ble_eq_true rfl)
  rw [lg_entry_eq]
  generalize (lg_sl ([.ref (G.2.2.1 i (3 + n)), .int a1]) ++ List.replicate (2 - (lg_sl ([.ref (G.2.2.1 i (3 + n)), .int a1])).length) Slot.unset).toArray = ls at hl ⊢
  have hl : lv_has ls 2 [(0, .ref (G.2.2.1 i (3 + n))), (1, .int a1)] := hl
  refine lv_aload_n hx hb dX5_saysAfter_0 rfl (lv_at hl 0 rfl) ?_
  refine wr_get hC hinRX5 hW (vBs hi hn) (ce_bs hi hn) rfl 2 (by decide) hk0 rfl dX5_saysAfter_1 ?_
  refine lv_aload_n hx hb dX5_saysAfter_4 rfl (lv_at hl 0 rfl) ?_
  refine wr_get hC hinRX5 hW (vBs hi hn) (ce_bs hi hn) rfl 4 (by decide) hk1 rfl dX5_saysAfter_5 ?_
  refine lv_aload_n hx hb dX5_saysAfter_8 rfl (lv_at hl 0 rfl) ?_
  refine wr_get hC hinRX5 hW (vBs hi hn) (ce_bs hi hn) rfl 0 (by decide) hk2 rfl dX5_saysAfter_9 ?_
  refine lv_imul hx hb dX5_saysAfter_12 ?_
  refine lv_iload_n hx hb dX5_saysAfter_13 rfl (lv_at hl 1 rfl) ?_
  refine lv_imul hx hb dX5_saysAfter_14 ?_
  refine lv_iadd hx hb dX5_saysAfter_15 ?_
  have hf : fX5_saysAfter n B a1 = (B (3 + n) 2) + (((B (3 + n) 4) * (B (3 + n) 0)) * a1) := rfl
  exact we_i hC hr hlocks hf.symm rfl hW hS dX5_saysAfter_16
def fX5_leftIfHalted (n : Nat) (B : wB) : Int32 :=
  (if (B (3 + n) 6) < (B (3 + n) 5) then (B (3 + n) 6) else (B (3 + n) 5))
abbrev rX5_leftIfHalted : Room := { frames := 1, cells := 0, slots := 0, locals := 21 }
set_option maxHeartbeats 4000000 in
set_option maxRecDepth 100000 in
theorem kX5_leftIfHalted (l : Launch) (G : wG) (Z : wZ) (i : Nat) (hi : i < 11) (n : Nat) (hn : n < 4) (B : wB)   : mI l yX5_leftIfHalted wsX5_leftIfHalted rX5_leftIfHalted G [.ref (G.2.2.1 i (3 + n))] (wset Z i B) (fX5_leftIfHalted n B) (wset Z i B) := by
  refine Met.ofW (cc := cX5_leftIfHalted) (maxL := 1) (ret := (some .int)) (by decide) rfl ?_
  intro p e s m args below meth c s₁ B0 hml hv
  obtain ⟨rfl, hW, hK, hL⟩ := hv
  have hlocks := B0.notSynchronized
  have hr := B0.returns
  have hC : wX p s m c cX5_leftIfHalted _ wsX5_leftIfHalted RX5 G := ⟨B0.exec, B0.bytes, findClass_of_methodNamed B0.named, atoms_spec (ws := wsX5_leftIfHalted) B0.pre, hK, hL⟩
  have hx := hC.1
  have hb := hC.2.1
  have hts := hC.2.2.2.1
  have hinRX5 : ∀ w ∈ wsX50, w ∈ wsX5_leftIfHalted := by decide +kernel
  have hk0 := hts (.fieldLink RX5 31 "RampShafts$Shaft" "left" "I") (by decide +kernel)
  have hk1 := hts (.fieldLink RX5 34 "RampShafts$Shaft" "level" "I") (by decide +kernel)
  have hk2 := hts (.methodLink RX5 49 Lib.Math.min.name) (by decide +kernel)
  have hk3 := hts (.static Lib.Math.min.name) (by decide +kernel)
  have hk4 := hts (.initialized "java/lang/Math") (by decide +kernel)
  have hk5 := hts (.code Lib.Math.min.name Lib.Math.min.code 2 (some .int)) (by decide +kernel)
  have hS : va_S (wA G) s.heap s.heap [] := va_S.rf
  have hl := lv_entry ([.ref (G.2.2.1 i (3 + n))]) (n := 1) (Nat.le_of_ble_eq_true rfl)
  rw [lg_entry_eq]
  generalize (lg_sl ([.ref (G.2.2.1 i (3 + n))]) ++ List.replicate (1 - (lg_sl ([.ref (G.2.2.1 i (3 + n))])).length) Slot.unset).toArray = ls at hl ⊢
  have hl : lv_has ls 1 [(0, .ref (G.2.2.1 i (3 + n)))] := hl
  refine lv_aload_n hx hb dX5_leftIfHalted_0 rfl (lv_at hl 0 rfl) ?_
  refine wr_get hC hinRX5 hW (vBs hi hn) (ce_bs hi hn) rfl 5 (by decide) hk0 rfl dX5_leftIfHalted_1 ?_
  refine lv_aload_n hx hb dX5_leftIfHalted_4 rfl (lv_at hl 0 rfl) ?_
  refine wr_get hC hinRX5 hW (vBs hi hn) (ce_bs hi hn) rfl 6 (by decide) hk1 rfl dX5_leftIfHalted_5 ?_
  refine va_mmin hx hb (hml.trans hl.1.symm) hC.2.2.1 hk2 hk3 hk4 hk5 (Nat.le_of_ble_eq_true rfl) (Nat.le_of_ble_eq_true rfl) (Nat.zero_le _) (Nat.zero_le _) dX5_leftIfHalted_8 ?_
  have hf : fX5_leftIfHalted n B = (if (B (3 + n) 6) < (B (3 + n) 5) then (B (3 + n) 6) else (B (3 + n) 5)) := rfl
  exact we_i hC hr hlocks hf.symm rfl hW hS dX5_leftIfHalted_11
def fX5_canWait (n : Nat) (B : wB) : Int32 :=
  if (B (3 + n) 10) < 0 then 0
  else if 3 ≤ (B (3 + n) 10) then 0
  else 1
abbrev rX5_canWait : Room := { frames := 0, cells := 0, slots := 0, locals := 0 }
set_option maxHeartbeats 4000000 in
set_option maxRecDepth 100000 in
theorem kX5_canWait (l : Launch) (G : wG) (Z : wZ) (i : Nat) (hi : i < 11) (n : Nat) (hn : n < 4) (B : wB)   : mI l yX5_canWait wsX5_canWait rX5_canWait G [.ref (G.2.2.1 i (3 + n))] (wset Z i B) (fX5_canWait n B) (wset Z i B) := by
  refine Met.ofW (cc := cX5_canWait) (maxL := 1) (ret := (some .boolean)) (by decide) rfl ?_
  intro p e s m args below meth c s₁ B0 hml hv
  obtain ⟨rfl, hW, hK, hL⟩ := hv
  have hlocks := B0.notSynchronized
  have hr := B0.returns
  have hC : wX p s m c cX5_canWait _ wsX5_canWait RX5 G := ⟨B0.exec, B0.bytes, findClass_of_methodNamed B0.named, atoms_spec (ws := wsX5_canWait) B0.pre, hK, hL⟩
  have hx := hC.1
  have hb := hC.2.1
  have hts := hC.2.2.2.1
  have hinRX5 : ∀ w ∈ wsX50, w ∈ wsX5_canWait := by decide +kernel
  have hk0 := hts (.fieldLink RX5 46 "RampShafts$Shaft" "waitCount" "I") (by decide +kernel)
  have hS : va_S (wA G) s.heap s.heap [] := va_S.rf
  have hl := lv_entry ([.ref (G.2.2.1 i (3 + n))]) (n := 1) (Nat.le_of_ble_eq_true rfl)
  rw [lg_entry_eq]
  generalize (lg_sl ([.ref (G.2.2.1 i (3 + n))]) ++ List.replicate (1 - (lg_sl ([.ref (G.2.2.1 i (3 + n))])).length) Slot.unset).toArray = ls at hl ⊢
  have hl : lv_has ls 1 [(0, .ref (G.2.2.1 i (3 + n)))] := hl
  refine lv_aload_n hx hb dX5_canWait_0 rfl (lv_at hl 0 rfl) ?_
  refine wr_get hC hinRX5 hW (vBs hi hn) (ce_bs hi hn) rfl 10 (by decide) hk0 rfl dX5_canWait_1 ?_
  refine lv_if_lt (tgt := 19) hx hb dX5_canWait_4 (by decide) (fun c_1 => ?_) (fun c_1 => ?_)
  · skip
    refine lv_iconst (v := 0) hx hb dX5_canWait_19 (by decide) ?_
    have hf : fX5_canWait n B = 0 := (if_pos c_1).trans rfl
    exact we_z hC hr hlocks (by first | rfl | decide | assumption | exact nar_char_i _) hf.symm rfl hW hS dX5_canWait_20
  · skip
    refine lv_aload_n hx hb dX5_canWait_7 rfl (lv_at hl 0 rfl) ?_
    refine wr_get hC hinRX5 hW (vBs hi hn) (ce_bs hi hn) rfl 10 (by decide) hk0 rfl dX5_canWait_8 ?_
    refine lv_iconst (v := 3) hx hb dX5_canWait_11 (by decide) ?_
    refine lv_icmp_ge (tgt := 19) hx hb dX5_canWait_12 (by decide) (fun c_2 => ?_) (fun c_2 => ?_)
    · skip
      refine lv_iconst (v := 0) hx hb dX5_canWait_19 (by decide) ?_
      have hf : fX5_canWait n B = 0 := (if_neg c_1).trans ((if_pos c_2).trans rfl)
      exact we_z hC hr hlocks (by first | rfl | decide | assumption | exact nar_char_i _) hf.symm rfl hW hS dX5_canWait_20
    · skip
      refine lv_iconst (v := 1) hx hb dX5_canWait_15 (by decide) ?_
      refine lv_goto (tgt := 20) hx hb dX5_canWait_16 (by decide) ?_
      have hf : fX5_canWait n B = 1 := (if_neg c_1).trans ((if_neg c_2).trans rfl)
      exact we_z hC hr hlocks (by first | rfl | decide | assumption | exact nar_char_i _) hf.symm rfl hW hS dX5_canWait_20
def fX5_slowDown (n : Nat) (B : wB) : wB :=
  let x_1 := fX5_leftIfHalted n B
  (bput (bput B (3 + n) 5 x_1) (3 + n) 10 0)
abbrev rX5_slowDown : Room := { frames := 2, cells := 0, slots := 0, locals := 41 }
set_option maxHeartbeats 4000000 in
set_option maxRecDepth 100000 in
theorem kX5_slowDown (l : Launch) (G : wG) (Z : wZ) (i : Nat) (hi : i < 11) (n : Nat) (hn : n < 4) (B : wB)   : mV l yX5_slowDown wsX5_slowDown rX5_slowDown G [.ref (G.2.2.1 i (3 + n))] (wset Z i B) (wset Z i (fX5_slowDown n B)) := by
  refine Met.ofW (cc := cX5_slowDown) (maxL := 1) (ret := none) (by decide) rfl ?_
  intro p e s m args below meth c s₁ B0 hml hv
  obtain ⟨rfl, hW, hK, hL⟩ := hv
  have hlocks := B0.notSynchronized
  have hr := B0.returns
  have hC : wX p s m c cX5_slowDown _ wsX5_slowDown RX5 G := ⟨B0.exec, B0.bytes, findClass_of_methodNamed B0.named, atoms_spec (ws := wsX5_slowDown) B0.pre, hK, hL⟩
  have hx := hC.1
  have hb := hC.2.1
  have hts := hC.2.2.2.1
  have hinRX5 : ∀ w ∈ wsX50, w ∈ wsX5_slowDown := by decide +kernel
  have hk0 := hts (.fieldLink RX5 31 "RampShafts$Shaft" "left" "I") (by decide +kernel)
  have hk1 := hts (.fieldLink RX5 46 "RampShafts$Shaft" "waitCount" "I") (by decide +kernel)
  have hS : va_S (wA G) s.heap s.heap [] := va_S.rf
  have hl := lv_entry ([.ref (G.2.2.1 i (3 + n))]) (n := 1) (Nat.le_of_ble_eq_true rfl)
  rw [lg_entry_eq]
  generalize (lg_sl ([.ref (G.2.2.1 i (3 + n))]) ++ List.replicate (1 - (lg_sl ([.ref (G.2.2.1 i (3 + n))])).length) Slot.unset).toArray = ls at hl ⊢
  have hl : lv_has ls 1 [(0, .ref (G.2.2.1 i (3 + n)))] := hl
  refine lv_aload_n hx hb dX5_slowDown_0 rfl (lv_at hl 0 rfl) ?_
  refine lv_aload_n hx hb dX5_slowDown_1 rfl (lv_at hl 0 rfl) ?_
  refine wc_i hC hml (kX5_leftIfHalted l G Z i hi n hn B) (cwV 0 hts gX5_slowDown_X5_leftIfHalted rfl rfl rfl (by decide +kernel) ⟨Nat.le_of_ble_eq_true rfl, Nat.le_of_ble_eq_true rfl⟩) hW hS (vBs hi hn) (ce_bs hi hn) rfl rfl rfl rfl hl.1 (Nat.le_of_ble_eq_true rfl) dX5_slowDown_2 (fun H locs hW hS => ?_)
  refine lv_topi (fun x_1 ex_1 => ?_)
  refine wr_put (Z' := wset Z i (bput B (3 + n) 5 x_1)) (v := .int x_1) hC hinRX5 tyX5 tyX5_ok nmX5 hW hS (vBs hi hn) (ce_bs hi hn) rfl 5 (by decide) hk0 rfl (tyX5_ok 5 (by decide)) rfl rfl (Nat.le_of_ble_eq_true rfl) wset_off (pu_bs_5 hi hn) dX5_slowDown_5 (fun H locs hW hS => ?_)
  refine lv_aload_n hx hb dX5_slowDown_8 rfl (lv_at hl 0 rfl) ?_
  refine lv_iconst (v := 0) hx hb dX5_slowDown_9 (by decide) ?_
  refine wr_put (Z' := wset Z i (bput (bput B (3 + n) 5 x_1) (3 + n) 10 0)) (v := .int 0) hC hinRX5 tyX5 tyX5_ok nmX5 hW hS (vBs hi hn) (ce_bs hi hn) rfl 10 (by decide) hk1 rfl (tyX5_ok 10 (by decide)) rfl rfl (Nat.le_of_ble_eq_true rfl) wset_off (pu_bs_10 hi hn) dX5_slowDown_10 (fun H locs hW hS => ?_)
  have hf : fX5_slowDown n B = (bput (bput B (3 + n) 5 x_1) (3 + n) 10 0) := by
    subst ex_1
    exact rfl
  exact we_v hC hr hlocks (congrArg (wset Z i) hf).symm hW hS dX5_slowDown_13
def fX5_begin (n : Nat) (B : wB) (a1 : Int32) (a2 : Int32) : wB :=
  let x_1 := (if 0 ≤ (a1 - (B (3 + n) 2)) then (a1 - (B (3 + n) 2)) else 0 - (a1 - (B (3 + n) 2)))
  if (B (3 + n) 2) ≤ a1 then (if 1 ≤ (B (3 + n) 0) then (let B_4 := (bput (bput (bput B (3 + n) 4 1) (3 + n) 5 (x_1 / (B (3 + n) 0))) (3 + n) 6 0)
      let x_5 := fX3_intervalOf B_4 0
      (bput B_4 (3 + n) 7 (a2 + x_5)))
    else let B_6 := (bput (bput (bput B (3 + n) 4 1) (3 + n) 5 0) (3 + n) 6 0)
    let x_7 := fX3_intervalOf B_6 0
    (bput B_6 (3 + n) 7 (a2 + x_7)))
  else if 1 ≤ (B (3 + n) 0) then (let B_9 := (bput (bput (bput B (3 + n) 4 (-1)) (3 + n) 5 (x_1 / (B (3 + n) 0))) (3 + n) 6 0)
    let x_10 := fX3_intervalOf B_9 0
    (bput B_9 (3 + n) 7 (a2 + x_10)))
  else let B_11 := (bput (bput (bput B (3 + n) 4 (-1)) (3 + n) 5 0) (3 + n) 6 0)
  let x_12 := fX3_intervalOf B_11 0
  (bput B_11 (3 + n) 7 (a2 + x_12))
abbrev rX5_begin : Room := { frames := 1, cells := 0, slots := 0, locals := 22 }
set_option maxHeartbeats 4000000 in
set_option maxRecDepth 100000 in
theorem kX5_begin (l : Launch) (G : wG) (Z : wZ) (i : Nat) (hi : i < 11) (n : Nat) (hn : n < 4) (B : wB) (a1 : Int32) (a2 : Int32)  : mV l yX5_begin wsX5_begin rX5_begin G [.ref (G.2.2.1 i (3 + n)), .int a1, .int a2, .ref (G.2.2.1 i 1)] (wset Z i B) (wset Z i (fX5_begin n B a1 a2)) := by
  refine Met.ofW (cc := cX5_begin) (maxL := 5) (ret := none) (by decide) rfl ?_
  intro p e s m args below meth c s₁ B0 hml hv
  obtain ⟨rfl, hW, hK, hL⟩ := hv
  have hlocks := B0.notSynchronized
  have hr := B0.returns
  have hC : wX p s m c cX5_begin _ wsX5_begin RX5 G := ⟨B0.exec, B0.bytes, findClass_of_methodNamed B0.named, atoms_spec (ws := wsX5_begin) B0.pre, hK, hL⟩
  have hx := hC.1
  have hb := hC.2.1
  have hts := hC.2.2.2.1
  have hinRX5 : ∀ w ∈ wsX50, w ∈ wsX5_begin := by decide +kernel
  have hk0 := hts (.fieldLink RX5 22 "RampShafts$Shaft" "says" "I") (by decide +kernel)
  have hk1 := hts (.methodLink RX5 55 Lib.Math.abs.name) (by decide +kernel)
  have hk2 := hts (.static Lib.Math.abs.name) (by decide +kernel)
  have hk3 := hts (.initialized "java/lang/Math") (by decide +kernel)
  have hk4 := hts (.code Lib.Math.abs.name Lib.Math.abs.code 1 (some .int)) (by decide +kernel)
  have hk5 := hts (.fieldLink RX5 28 "RampShafts$Shaft" "way" "I") (by decide +kernel)
  have hk6 := hts (.fieldLink RX5 15 "RampShafts$Shaft" "micro" "I") (by decide +kernel)
  have hk7 := hts (.fieldLink RX5 31 "RampShafts$Shaft" "left" "I") (by decide +kernel)
  have hk8 := hts (.fieldLink RX5 34 "RampShafts$Shaft" "level" "I") (by decide +kernel)
  have hk9 := hts (.fieldLink RX5 37 "RampShafts$Shaft" "next" "I") (by decide +kernel)
  have hS : va_S (wA G) s.heap s.heap [] := va_S.rf
  have hl := lv_entry ([.ref (G.2.2.1 i (3 + n)), .int a1, .int a2, .ref (G.2.2.1 i 1)]) (n := 5) (Nat.le_of_ble_eq_true rfl)
  rw [lg_entry_eq]
  generalize (lg_sl ([.ref (G.2.2.1 i (3 + n)), .int a1, .int a2, .ref (G.2.2.1 i 1)]) ++ List.replicate (5 - (lg_sl ([.ref (G.2.2.1 i (3 + n)), .int a1, .int a2, .ref (G.2.2.1 i 1)])).length) Slot.unset).toArray = ls at hl ⊢
  have hl : lv_has ls 5 [(0, .ref (G.2.2.1 i (3 + n))), (1, .int a1), (2, .int a2), (3, .ref (G.2.2.1 i 1))] := hl
  refine lv_iload_n hx hb dX5_begin_0 rfl (lv_at hl 1 rfl) ?_
  refine lv_aload_n hx hb dX5_begin_1 rfl (lv_at hl 0 rfl) ?_
  refine wr_get hC hinRX5 hW (vBs hi hn) (ce_bs hi hn) rfl 2 (by decide) hk0 rfl dX5_begin_2 ?_
  refine lv_isub hx hb dX5_begin_5 ?_
  refine va_mabs hx hb (hml.trans hl.1.symm) hC.2.2.1 hk1 hk2 hk3 hk4 (Nat.le_of_ble_eq_true rfl) (Nat.le_of_ble_eq_true rfl) (Nat.zero_le _) (Nat.zero_le _) dX5_begin_6 ?_
  refine lv_topi (fun x_1 ex_1 => ?_)
  refine lv_istore (lv' := [(4, .int x_1), (0, .ref (G.2.2.1 i (3 + n))), (1, .int a1), (2, .int a2), (3, .ref (G.2.2.1 i 1))]) hx hb dX5_begin_9 hl (by decide) rfl (fun ls hl => ?_)
  refine lv_aload_n hx hb dX5_begin_11 rfl (lv_at hl 1 rfl) ?_
  refine lv_iload_n hx hb dX5_begin_12 rfl (lv_at hl 2 rfl) ?_
  refine lv_aload_n hx hb dX5_begin_13 rfl (lv_at hl 1 rfl) ?_
  refine wr_get hC hinRX5 hW (vBs hi hn) (ce_bs hi hn) rfl 2 (by decide) hk0 rfl dX5_begin_14 ?_
  refine lv_icmp_ge (tgt := 24) hx hb dX5_begin_17 (by decide) (fun c_2 => ?_) (fun c_2 => ?_)
  · skip
    refine lv_iconst (v := 1) hx hb dX5_begin_24 (by decide) ?_
    refine wr_put (Z' := wset Z i (bput B (3 + n) 4 1)) (v := .int 1) hC hinRX5 tyX5 tyX5_ok nmX5 hW hS (vBs hi hn) (ce_bs hi hn) rfl 4 (by decide) hk5 rfl (tyX5_ok 4 (by decide)) rfl rfl (Nat.le_of_ble_eq_true rfl) wset_off (pu_bs_4 hi hn) dX5_begin_25 (fun H locs hW hS => ?_)
    refine lv_aload_n hx hb dX5_begin_28 rfl (lv_at hl 1 rfl) ?_
    refine lv_aload_n hx hb dX5_begin_29 rfl (lv_at hl 1 rfl) ?_
    refine wr_get hC hinRX5 hW (vBs hi hn) (ce_bs hi hn) rfl 0 (by decide) hk6 rfl dX5_begin_30 ?_
    refine lv_re (y := B (3 + n) 0) (bput_q (by decide)) ?_
    refine lv_iconst (v := 1) hx hb dX5_begin_33 (by decide) ?_
    refine lv_icmp_ge (tgt := 41) hx hb dX5_begin_34 (by decide) (fun c_3 => ?_) (fun c_3 => ?_)
    · skip
      refine lv_iload hx hb dX5_begin_41 (lv_at hl 0 rfl) ?_
      refine lv_aload_n hx hb dX5_begin_43 rfl (lv_at hl 1 rfl) ?_
      refine wr_get hC hinRX5 hW (vBs hi hn) (ce_bs hi hn) rfl 0 (by decide) hk6 rfl dX5_begin_44 ?_
      refine lv_re (y := B (3 + n) 0) (bput_q (by decide)) ?_
      refine lv_idiv hx hb dX5_begin_47 (fun e9 => absurd c_3 (by rw [e9]; decide)) ?_
      refine wr_put (Z' := wset Z i (bput (bput B (3 + n) 4 1) (3 + n) 5 (x_1 / (B (3 + n) 0)))) (v := .int (x_1 / (B (3 + n) 0))) hC hinRX5 tyX5 tyX5_ok nmX5 hW hS (vBs hi hn) (ce_bs hi hn) rfl 5 (by decide) hk7 rfl (tyX5_ok 5 (by decide)) rfl rfl (Nat.le_of_ble_eq_true rfl) wset_off (pu_bs_5 hi hn) dX5_begin_48 (fun H locs hW hS => ?_)
      refine lv_aload_n hx hb dX5_begin_51 rfl (lv_at hl 1 rfl) ?_
      refine lv_iconst (v := 0) hx hb dX5_begin_52 (by decide) ?_
      refine wr_put (Z' := wset Z i (bput (bput (bput B (3 + n) 4 1) (3 + n) 5 (x_1 / (B (3 + n) 0))) (3 + n) 6 0)) (v := .int 0) hC hinRX5 tyX5 tyX5_ok nmX5 hW hS (vBs hi hn) (ce_bs hi hn) rfl 6 (by decide) hk8 rfl (tyX5_ok 6 (by decide)) rfl rfl (Nat.le_of_ble_eq_true rfl) wset_off (pu_bs_6 hi hn) dX5_begin_53 (fun H locs hW hS => ?_)
      refine lv_aload_n hx hb dX5_begin_56 rfl (lv_at hl 1 rfl) ?_
      refine lv_iload_n hx hb dX5_begin_57 rfl (lv_at hl 3 rfl) ?_
      refine lv_aload_n hx hb dX5_begin_58 rfl (lv_at hl 4 rfl) ?_
      refine lv_iconst (v := 0) hx hb dX5_begin_59 (by decide) ?_
      obtain ⟨B_4, eB_4⟩ : ∃ y, y = (bput (bput (bput B (3 + n) 4 1) (3 + n) 5 (x_1 / (B (3 + n) 0))) (3 + n) 6 0) := ⟨_, rfl⟩
      rw [← eB_4] at hW
      refine wc_i hC hml (kX3_intervalOf l G Z i hi B_4 0) (cwV 1 hts gX5_begin_X3_intervalOf rfl rfl rfl (by decide +kernel) ⟨Nat.le_of_ble_eq_true rfl, Nat.le_of_ble_eq_true rfl⟩) hW hS (vB hi (by decide)) (ce_b1 hi) rfl rfl rfl rfl hl.1 (Nat.le_of_ble_eq_true rfl) dX5_begin_60 (fun H locs hW hS => ?_)
      refine lv_topi (fun x_5 ex_5 => ?_)
      refine lv_iadd hx hb dX5_begin_63 ?_
      refine wr_put (Z' := wset Z i (bput B_4 (3 + n) 7 (a2 + x_5))) (v := .int (a2 + x_5)) hC hinRX5 tyX5 tyX5_ok nmX5 hW hS (vBs hi hn) (ce_bs hi hn) rfl 7 (by decide) hk9 rfl (tyX5_ok 7 (by decide)) rfl rfl (Nat.le_of_ble_eq_true rfl) wset_off (pu_bs_7 hi hn) dX5_begin_64 (fun H locs hW hS => ?_)
      have hf : fX5_begin n B a1 a2 = (bput B_4 (3 + n) 7 (a2 + x_5)) := by
        subst ex_5
        subst eB_4
        subst ex_1
        exact (if_pos c_2).trans ((if_pos c_3).trans rfl)
      exact we_v hC hr hlocks (congrArg (wset Z i) hf).symm hW hS dX5_begin_67
    · skip
      refine lv_iconst (v := 0) hx hb dX5_begin_37 (by decide) ?_
      refine lv_goto (tgt := 48) hx hb dX5_begin_38 (by decide) ?_
      refine wr_put (Z' := wset Z i (bput (bput B (3 + n) 4 1) (3 + n) 5 0)) (v := .int 0) hC hinRX5 tyX5 tyX5_ok nmX5 hW hS (vBs hi hn) (ce_bs hi hn) rfl 5 (by decide) hk7 rfl (tyX5_ok 5 (by decide)) rfl rfl (Nat.le_of_ble_eq_true rfl) wset_off (pu_bs_5 hi hn) dX5_begin_48 (fun H locs hW hS => ?_)
      refine lv_aload_n hx hb dX5_begin_51 rfl (lv_at hl 1 rfl) ?_
      refine lv_iconst (v := 0) hx hb dX5_begin_52 (by decide) ?_
      refine wr_put (Z' := wset Z i (bput (bput (bput B (3 + n) 4 1) (3 + n) 5 0) (3 + n) 6 0)) (v := .int 0) hC hinRX5 tyX5 tyX5_ok nmX5 hW hS (vBs hi hn) (ce_bs hi hn) rfl 6 (by decide) hk8 rfl (tyX5_ok 6 (by decide)) rfl rfl (Nat.le_of_ble_eq_true rfl) wset_off (pu_bs_6 hi hn) dX5_begin_53 (fun H locs hW hS => ?_)
      refine lv_aload_n hx hb dX5_begin_56 rfl (lv_at hl 1 rfl) ?_
      refine lv_iload_n hx hb dX5_begin_57 rfl (lv_at hl 3 rfl) ?_
      refine lv_aload_n hx hb dX5_begin_58 rfl (lv_at hl 4 rfl) ?_
      refine lv_iconst (v := 0) hx hb dX5_begin_59 (by decide) ?_
      obtain ⟨B_6, eB_6⟩ : ∃ y, y = (bput (bput (bput B (3 + n) 4 1) (3 + n) 5 0) (3 + n) 6 0) := ⟨_, rfl⟩
      rw [← eB_6] at hW
      refine wc_i hC hml (kX3_intervalOf l G Z i hi B_6 0) (cwV 1 hts gX5_begin_X3_intervalOf rfl rfl rfl (by decide +kernel) ⟨Nat.le_of_ble_eq_true rfl, Nat.le_of_ble_eq_true rfl⟩) hW hS (vB hi (by decide)) (ce_b1 hi) rfl rfl rfl rfl hl.1 (Nat.le_of_ble_eq_true rfl) dX5_begin_60 (fun H locs hW hS => ?_)
      refine lv_topi (fun x_7 ex_7 => ?_)
      refine lv_iadd hx hb dX5_begin_63 ?_
      refine wr_put (Z' := wset Z i (bput B_6 (3 + n) 7 (a2 + x_7))) (v := .int (a2 + x_7)) hC hinRX5 tyX5 tyX5_ok nmX5 hW hS (vBs hi hn) (ce_bs hi hn) rfl 7 (by decide) hk9 rfl (tyX5_ok 7 (by decide)) rfl rfl (Nat.le_of_ble_eq_true rfl) wset_off (pu_bs_7 hi hn) dX5_begin_64 (fun H locs hW hS => ?_)
      have hf : fX5_begin n B a1 a2 = (bput B_6 (3 + n) 7 (a2 + x_7)) := by
        subst ex_7
        subst eB_6
        subst ex_1
        exact (if_pos c_2).trans ((if_neg c_3).trans rfl)
      exact we_v hC hr hlocks (congrArg (wset Z i) hf).symm hW hS dX5_begin_67
  · skip
    refine lv_iconst (v := (-1)) hx hb dX5_begin_20 (by decide) ?_
    refine lv_goto (tgt := 25) hx hb dX5_begin_21 (by decide) ?_
    refine wr_put (Z' := wset Z i (bput B (3 + n) 4 (-1))) (v := .int (-1)) hC hinRX5 tyX5 tyX5_ok nmX5 hW hS (vBs hi hn) (ce_bs hi hn) rfl 4 (by decide) hk5 rfl (tyX5_ok 4 (by decide)) rfl rfl (Nat.le_of_ble_eq_true rfl) wset_off (pu_bs_4 hi hn) dX5_begin_25 (fun H locs hW hS => ?_)
    refine lv_aload_n hx hb dX5_begin_28 rfl (lv_at hl 1 rfl) ?_
    refine lv_aload_n hx hb dX5_begin_29 rfl (lv_at hl 1 rfl) ?_
    refine wr_get hC hinRX5 hW (vBs hi hn) (ce_bs hi hn) rfl 0 (by decide) hk6 rfl dX5_begin_30 ?_
    refine lv_re (y := B (3 + n) 0) (bput_q (by decide)) ?_
    refine lv_iconst (v := 1) hx hb dX5_begin_33 (by decide) ?_
    refine lv_icmp_ge (tgt := 41) hx hb dX5_begin_34 (by decide) (fun c_8 => ?_) (fun c_8 => ?_)
    · skip
      refine lv_iload hx hb dX5_begin_41 (lv_at hl 0 rfl) ?_
      refine lv_aload_n hx hb dX5_begin_43 rfl (lv_at hl 1 rfl) ?_
      refine wr_get hC hinRX5 hW (vBs hi hn) (ce_bs hi hn) rfl 0 (by decide) hk6 rfl dX5_begin_44 ?_
      refine lv_re (y := B (3 + n) 0) (bput_q (by decide)) ?_
      refine lv_idiv hx hb dX5_begin_47 (fun e9 => absurd c_8 (by rw [e9]; decide)) ?_
      refine wr_put (Z' := wset Z i (bput (bput B (3 + n) 4 (-1)) (3 + n) 5 (x_1 / (B (3 + n) 0)))) (v := .int (x_1 / (B (3 + n) 0))) hC hinRX5 tyX5 tyX5_ok nmX5 hW hS (vBs hi hn) (ce_bs hi hn) rfl 5 (by decide) hk7 rfl (tyX5_ok 5 (by decide)) rfl rfl (Nat.le_of_ble_eq_true rfl) wset_off (pu_bs_5 hi hn) dX5_begin_48 (fun H locs hW hS => ?_)
      refine lv_aload_n hx hb dX5_begin_51 rfl (lv_at hl 1 rfl) ?_
      refine lv_iconst (v := 0) hx hb dX5_begin_52 (by decide) ?_
      refine wr_put (Z' := wset Z i (bput (bput (bput B (3 + n) 4 (-1)) (3 + n) 5 (x_1 / (B (3 + n) 0))) (3 + n) 6 0)) (v := .int 0) hC hinRX5 tyX5 tyX5_ok nmX5 hW hS (vBs hi hn) (ce_bs hi hn) rfl 6 (by decide) hk8 rfl (tyX5_ok 6 (by decide)) rfl rfl (Nat.le_of_ble_eq_true rfl) wset_off (pu_bs_6 hi hn) dX5_begin_53 (fun H locs hW hS => ?_)
      refine lv_aload_n hx hb dX5_begin_56 rfl (lv_at hl 1 rfl) ?_
      refine lv_iload_n hx hb dX5_begin_57 rfl (lv_at hl 3 rfl) ?_
      refine lv_aload_n hx hb dX5_begin_58 rfl (lv_at hl 4 rfl) ?_
      refine lv_iconst (v := 0) hx hb dX5_begin_59 (by decide) ?_
      obtain ⟨B_9, eB_9⟩ : ∃ y, y = (bput (bput (bput B (3 + n) 4 (-1)) (3 + n) 5 (x_1 / (B (3 + n) 0))) (3 + n) 6 0) := ⟨_, rfl⟩
      rw [← eB_9] at hW
      refine wc_i hC hml (kX3_intervalOf l G Z i hi B_9 0) (cwV 1 hts gX5_begin_X3_intervalOf rfl rfl rfl (by decide +kernel) ⟨Nat.le_of_ble_eq_true rfl, Nat.le_of_ble_eq_true rfl⟩) hW hS (vB hi (by decide)) (ce_b1 hi) rfl rfl rfl rfl hl.1 (Nat.le_of_ble_eq_true rfl) dX5_begin_60 (fun H locs hW hS => ?_)
      refine lv_topi (fun x_10 ex_10 => ?_)
      refine lv_iadd hx hb dX5_begin_63 ?_
      refine wr_put (Z' := wset Z i (bput B_9 (3 + n) 7 (a2 + x_10))) (v := .int (a2 + x_10)) hC hinRX5 tyX5 tyX5_ok nmX5 hW hS (vBs hi hn) (ce_bs hi hn) rfl 7 (by decide) hk9 rfl (tyX5_ok 7 (by decide)) rfl rfl (Nat.le_of_ble_eq_true rfl) wset_off (pu_bs_7 hi hn) dX5_begin_64 (fun H locs hW hS => ?_)
      have hf : fX5_begin n B a1 a2 = (bput B_9 (3 + n) 7 (a2 + x_10)) := by
        subst ex_10
        subst eB_9
        subst ex_1
        exact (if_neg c_2).trans ((if_pos c_8).trans rfl)
      exact we_v hC hr hlocks (congrArg (wset Z i) hf).symm hW hS dX5_begin_67
    · skip
      refine lv_iconst (v := 0) hx hb dX5_begin_37 (by decide) ?_
      refine lv_goto (tgt := 48) hx hb dX5_begin_38 (by decide) ?_
      refine wr_put (Z' := wset Z i (bput (bput B (3 + n) 4 (-1)) (3 + n) 5 0)) (v := .int 0) hC hinRX5 tyX5 tyX5_ok nmX5 hW hS (vBs hi hn) (ce_bs hi hn) rfl 5 (by decide) hk7 rfl (tyX5_ok 5 (by decide)) rfl rfl (Nat.le_of_ble_eq_true rfl) wset_off (pu_bs_5 hi hn) dX5_begin_48 (fun H locs hW hS => ?_)
      refine lv_aload_n hx hb dX5_begin_51 rfl (lv_at hl 1 rfl) ?_
      refine lv_iconst (v := 0) hx hb dX5_begin_52 (by decide) ?_
      refine wr_put (Z' := wset Z i (bput (bput (bput B (3 + n) 4 (-1)) (3 + n) 5 0) (3 + n) 6 0)) (v := .int 0) hC hinRX5 tyX5 tyX5_ok nmX5 hW hS (vBs hi hn) (ce_bs hi hn) rfl 6 (by decide) hk8 rfl (tyX5_ok 6 (by decide)) rfl rfl (Nat.le_of_ble_eq_true rfl) wset_off (pu_bs_6 hi hn) dX5_begin_53 (fun H locs hW hS => ?_)
      refine lv_aload_n hx hb dX5_begin_56 rfl (lv_at hl 1 rfl) ?_
      refine lv_iload_n hx hb dX5_begin_57 rfl (lv_at hl 3 rfl) ?_
      refine lv_aload_n hx hb dX5_begin_58 rfl (lv_at hl 4 rfl) ?_
      refine lv_iconst (v := 0) hx hb dX5_begin_59 (by decide) ?_
      obtain ⟨B_11, eB_11⟩ : ∃ y, y = (bput (bput (bput B (3 + n) 4 (-1)) (3 + n) 5 0) (3 + n) 6 0) := ⟨_, rfl⟩
      rw [← eB_11] at hW
      refine wc_i hC hml (kX3_intervalOf l G Z i hi B_11 0) (cwV 1 hts gX5_begin_X3_intervalOf rfl rfl rfl (by decide +kernel) ⟨Nat.le_of_ble_eq_true rfl, Nat.le_of_ble_eq_true rfl⟩) hW hS (vB hi (by decide)) (ce_b1 hi) rfl rfl rfl rfl hl.1 (Nat.le_of_ble_eq_true rfl) dX5_begin_60 (fun H locs hW hS => ?_)
      refine lv_topi (fun x_12 ex_12 => ?_)
      refine lv_iadd hx hb dX5_begin_63 ?_
      refine wr_put (Z' := wset Z i (bput B_11 (3 + n) 7 (a2 + x_12))) (v := .int (a2 + x_12)) hC hinRX5 tyX5 tyX5_ok nmX5 hW hS (vBs hi hn) (ce_bs hi hn) rfl 7 (by decide) hk9 rfl (tyX5_ok 7 (by decide)) rfl rfl (Nat.le_of_ble_eq_true rfl) wset_off (pu_bs_7 hi hn) dX5_begin_64 (fun H locs hW hS => ?_)
      have hf : fX5_begin n B a1 a2 = (bput B_11 (3 + n) 7 (a2 + x_12)) := by
        subst ex_12
        subst eB_11
        subst ex_1
        exact (if_neg c_2).trans ((if_neg c_8).trans rfl)
      exact we_v hC hr hlocks (congrArg (wset Z i) hf).symm hW hS dX5_begin_67
theorem canWait_in {n : Nat} {B : wB} (h : ¬ fX5_canWait n B = 0) : vp_in (B (3 + n) 10) 3 := by
  unfold fX5_canWait at h
  by_cases h1 : B (3 + n) 10 < 0
  · rw [if_pos h1] at h; exact absurd rfl h
  · rw [if_neg h1] at h
    by_cases h2 : 3 ≤ B (3 + n) 10
    · rw [if_pos h2] at h; exact absurd rfl h
    · rw [vp_in_iff]
      rw [Int32.lt_iff_toInt_lt] at h1
      rw [Int32.le_iff_toInt_le] at h2
      have e3 : (3 : Int32).toInt = 3 := by decide
      have e0 : (0 : Int32).toInt = 0 := by decide
      omega
def fX5_beginOrWait (n : Nat) (B : wB) (a1 : Int32) (a2 : Int32) : wB :=
  let x_1 := fX5_moves n B
  if x_1 = 0 then (let B_5 := fX5_begin n B a1 a2
    B_5)
  else let x_3 := fX5_canWait n B
  if x_3 = 0 then B
  else (bput (bput B (7 + n) (B (3 + n) 10).toNatClampNeg a1) (3 + n) 10 ((B (3 + n) 10) + 1))
abbrev rX5_beginOrWait : Room := { frames := 2, cells := 0, slots := 0, locals := 46 }
set_option maxHeartbeats 4000000 in
set_option maxRecDepth 100000 in
theorem kX5_beginOrWait (l : Launch) (G : wG) (Z : wZ) (i : Nat) (hi : i < 11) (n : Nat) (hn : n < 4) (B : wB) (a1 : Int32) (a2 : Int32)  : mV l yX5_beginOrWait wsX5_beginOrWait rX5_beginOrWait G [.ref (G.2.2.1 i (3 + n)), .int a1, .int a2, .ref (G.2.2.1 i 1)] (wset Z i B) (wset Z i (fX5_beginOrWait n B a1 a2)) := by
  refine Met.ofW (cc := cX5_beginOrWait) (maxL := 4) (ret := none) (by decide) rfl ?_
  intro p e s m args below meth c s₁ B0 hml hv
  obtain ⟨rfl, hW, hK, hL⟩ := hv
  have hlocks := B0.notSynchronized
  have hr := B0.returns
  have hC : wX p s m c cX5_beginOrWait _ wsX5_beginOrWait RX5 G := ⟨B0.exec, B0.bytes, findClass_of_methodNamed B0.named, atoms_spec (ws := wsX5_beginOrWait) B0.pre, hK, hL⟩
  have hx := hC.1
  have hb := hC.2.1
  have hts := hC.2.2.2.1
  have hinRX5 : ∀ w ∈ wsX50, w ∈ wsX5_beginOrWait := by decide +kernel
  have hk0 := hts (.fieldLink RX5 9 "RampShafts$Shaft" "waits" "[I") (by decide +kernel)
  have hk1 := hts (.fieldLink RX5 46 "RampShafts$Shaft" "waitCount" "I") (by decide +kernel)
  have hS : va_S (wA G) s.heap s.heap [] := va_S.rf
  have hl := lv_entry ([.ref (G.2.2.1 i (3 + n)), .int a1, .int a2, .ref (G.2.2.1 i 1)]) (n := 4) (Nat.le_of_ble_eq_true rfl)
  rw [lg_entry_eq]
  generalize (lg_sl ([.ref (G.2.2.1 i (3 + n)), .int a1, .int a2, .ref (G.2.2.1 i 1)]) ++ List.replicate (4 - (lg_sl ([.ref (G.2.2.1 i (3 + n)), .int a1, .int a2, .ref (G.2.2.1 i 1)])).length) Slot.unset).toArray = ls at hl ⊢
  have hl : lv_has ls 4 [(0, .ref (G.2.2.1 i (3 + n))), (1, .int a1), (2, .int a2), (3, .ref (G.2.2.1 i 1))] := hl
  refine lv_aload_n hx hb dX5_beginOrWait_0 rfl (lv_at hl 0 rfl) ?_
  refine wc_i hC hml (kX5_moves l G Z i hi n hn B) (cwV 0 hts gX5_beginOrWait_X5_moves rfl rfl rfl (by decide +kernel) ⟨Nat.le_of_ble_eq_true rfl, Nat.le_of_ble_eq_true rfl⟩) hW hS (vBs hi hn) (ce_bs hi hn) rfl rfl rfl rfl hl.1 (Nat.le_of_ble_eq_true rfl) dX5_beginOrWait_1 (fun H locs hW hS => ?_)
  refine lv_topi (fun x_1 ex_1 => ?_)
  refine lv_if_ne (tgt := 17) hx hb dX5_beginOrWait_4 (by decide) (fun c_2 => ?_) (fun c_2 => ?_)
  · skip
    refine lv_aload_n hx hb dX5_beginOrWait_17 rfl (lv_at hl 0 rfl) ?_
    refine wc_i hC hml (kX5_canWait l G Z i hi n hn B) (cwV 0 hts gX5_beginOrWait_X5_canWait rfl rfl rfl (by decide +kernel) ⟨Nat.le_of_ble_eq_true rfl, Nat.le_of_ble_eq_true rfl⟩) hW hS (vBs hi hn) (ce_bs hi hn) rfl rfl rfl rfl hl.1 (Nat.le_of_ble_eq_true rfl) dX5_beginOrWait_18 (fun H locs hW hS => ?_)
    refine lv_topi (fun x_3 ex_3 => ?_)
    refine lv_if_eq (tgt := 44) hx hb dX5_beginOrWait_21 (by decide) (fun c_4 => ?_) (fun c_4 => ?_)
    · skip
      have hf : fX5_beginOrWait n B a1 a2 = B := by
        subst ex_3
        subst ex_1
        exact (if_neg c_2).trans ((if_pos c_4).trans rfl)
      exact we_v hC hr hlocks (congrArg (wset Z i) hf).symm hW hS dX5_beginOrWait_44
    · skip
      refine lv_aload_n hx hb dX5_beginOrWait_24 rfl (lv_at hl 0 rfl) ?_
      refine wr_get hC hinRX5 hW (vBs hi hn) (ce_bs hi hn) rfl 11 (by decide) hk0 rfl dX5_beginOrWait_25 ?_
      refine lv_aload_n hx hb dX5_beginOrWait_28 rfl (lv_at hl 0 rfl) ?_
      refine wr_get hC hinRX5 hW (vBs hi hn) (ce_bs hi hn) rfl 10 (by decide) hk1 rfl dX5_beginOrWait_29 ?_
      refine lv_iload_n hx hb dX5_beginOrWait_32 rfl (lv_at hl 1 rfl) ?_
      refine wr_ast (kA := 0) (Z' := wset Z i (bput B (7 + n) (B (3 + n) 10).toNatClampNeg a1)) hC hW hS (vBw hi hn) (ce_bw hi hn) rfl (canWait_in (by rw [← ex_3]; exact c_4)) wset_off (pu_bw hi hn) dX5_beginOrWait_33 (fun H locs hW hS => ?_)
      refine lv_aload_n hx hb dX5_beginOrWait_34 rfl (lv_at hl 0 rfl) ?_
      refine lv_dup hx hb dX5_beginOrWait_35 rfl ?_
      refine wr_get hC hinRX5 hW (vBs hi hn) (ce_bs hi hn) rfl 10 (by decide) hk1 rfl dX5_beginOrWait_36 ?_
      refine lv_re (y := B (3 + n) 10) (bput_j (by omega)) ?_
      refine lv_iconst (v := 1) hx hb dX5_beginOrWait_39 (by decide) ?_
      refine lv_iadd hx hb dX5_beginOrWait_40 ?_
      refine wr_put (Z' := wset Z i (bput (bput B (7 + n) (B (3 + n) 10).toNatClampNeg a1) (3 + n) 10 ((B (3 + n) 10) + 1))) (v := .int ((B (3 + n) 10) + 1)) hC hinRX5 tyX5 tyX5_ok nmX5 hW hS (vBs hi hn) (ce_bs hi hn) rfl 10 (by decide) hk1 rfl (tyX5_ok 10 (by decide)) rfl rfl (Nat.le_of_ble_eq_true rfl) wset_off (pu_bs_10 hi hn) dX5_beginOrWait_41 (fun H locs hW hS => ?_)
      have hf : fX5_beginOrWait n B a1 a2 = (bput (bput B (7 + n) (B (3 + n) 10).toNatClampNeg a1) (3 + n) 10 ((B (3 + n) 10) + 1)) := by
        subst ex_3
        subst ex_1
        exact (if_neg c_2).trans ((if_neg c_4).trans rfl)
      exact we_v hC hr hlocks (congrArg (wset Z i) hf).symm hW hS dX5_beginOrWait_44
  · skip
    refine lv_aload_n hx hb dX5_beginOrWait_7 rfl (lv_at hl 0 rfl) ?_
    refine lv_iload_n hx hb dX5_beginOrWait_8 rfl (lv_at hl 1 rfl) ?_
    refine lv_iload_n hx hb dX5_beginOrWait_9 rfl (lv_at hl 2 rfl) ?_
    refine lv_aload_n hx hb dX5_beginOrWait_10 rfl (lv_at hl 3 rfl) ?_
    refine wc_v hC hml (kX5_begin l G Z i hi n hn B a1 a2) (cwV 3 hts gX5_beginOrWait_X5_begin rfl rfl rfl (by decide +kernel) ⟨Nat.le_of_ble_eq_true rfl, Nat.le_of_ble_eq_true rfl⟩) hW hS (vBs hi hn) (ce_bs hi hn) rfl rfl rfl rfl hl.1 (Nat.le_of_ble_eq_true rfl) dX5_beginOrWait_11 (fun H locs hW hS => ?_)
    obtain ⟨B_5, eB_5⟩ : ∃ y, y = fX5_begin n B a1 a2 := ⟨_, rfl⟩
    rw [← eB_5] at hW
    refine lv_goto (tgt := 44) hx hb dX5_beginOrWait_14 (by decide) ?_
    have hf : fX5_beginOrWait n B a1 a2 = B_5 := by
      subst eB_5
      subst ex_1
      exact (if_pos c_2).trans rfl
    exact we_v hC hr hlocks (congrArg (wset Z i) hf).symm hW hS dX5_beginOrWait_44
def fX5_beginWaiting (n : Nat) (B : wB) (a1 : Int32) : wB :=
  if (B (3 + n) 10) ≤ 0 then B
  else let x_3 := fX5_moves n B
  if x_3 = 0 then (let x_5 := B (7 + n) 0
    let B_9 := (bput (bput (bput B (7 + n) 0 (B (7 + n) 1)) (7 + n) 1 (B (7 + n) 2)) (3 + n) 10 ((B (3 + n) 10) - 1))
    let B_10 := fX5_begin n B_9 x_5 a1
    if (B_10 (3 + n) 10) ≤ 0 then B_10
    else let x_13 := fX5_moves n B_10
    if x_13 = 0 then (let x_15 := B_10 (7 + n) 0
      let B_19 := (bput (bput (bput B_10 (7 + n) 0 (B_10 (7 + n) 1)) (7 + n) 1 (B_10 (7 + n) 2)) (3 + n) 10 ((B_10 (3 + n) 10) - 1))
      let B_20 := fX5_begin n B_19 x_15 a1
      if (B_20 (3 + n) 10) ≤ 0 then B_20
      else let x_23 := fX5_moves n B_20
      if x_23 = 0 then (let x_25 := B_20 (7 + n) 0
        let B_29 := (bput (bput (bput B_20 (7 + n) 0 (B_20 (7 + n) 1)) (7 + n) 1 (B_20 (7 + n) 2)) (3 + n) 10 ((B_20 (3 + n) 10) - 1))
        let B_30 := fX5_begin n B_29 x_25 a1
        B_30)
      else B_20)
    else B_10)
  else B
abbrev rX5_beginWaiting : Room := { frames := 2, cells := 0, slots := 0, locals := 46 }
set_option maxHeartbeats 4000000 in
set_option maxRecDepth 100000 in
theorem kX5_beginWaiting (l : Launch) (G : wG) (Z : wZ) (i : Nat) (hi : i < 11) (n : Nat) (hn : n < 4) (B : wB) (a1 : Int32)  : mV l yX5_beginWaiting wsX5_beginWaiting rX5_beginWaiting G [.ref (G.2.2.1 i (3 + n)), .int a1, .ref (G.2.2.1 i 1)] (wset Z i B) (wset Z i (fX5_beginWaiting n B a1)) := by
  refine Met.ofW (cc := cX5_beginWaiting) (maxL := 6) (ret := none) (by decide) rfl ?_
  intro p e s m args below meth c s₁ B0 hml hv
  obtain ⟨rfl, hW, hK, hL⟩ := hv
  have hlocks := B0.notSynchronized
  have hr := B0.returns
  have hC : wX p s m c cX5_beginWaiting _ wsX5_beginWaiting RX5 G := ⟨B0.exec, B0.bytes, findClass_of_methodNamed B0.named, atoms_spec (ws := wsX5_beginWaiting) B0.pre, hK, hL⟩
  have hx := hC.1
  have hb := hC.2.1
  have hts := hC.2.2.2.1
  have hinRX5 : ∀ w ∈ wsX50, w ∈ wsX5_beginWaiting := by decide +kernel
  have hk0 := hts (.fieldLink RX5 46 "RampShafts$Shaft" "waitCount" "I") (by decide +kernel)
  have hk1 := hts (.fieldLink RX5 9 "RampShafts$Shaft" "waits" "[I") (by decide +kernel)
  have hS : va_S (wA G) s.heap s.heap [] := va_S.rf
  have hl := lv_entry ([.ref (G.2.2.1 i (3 + n)), .int a1, .ref (G.2.2.1 i 1)]) (n := 6) (Nat.le_of_ble_eq_true rfl)
  rw [lg_entry_eq]
  generalize (lg_sl ([.ref (G.2.2.1 i (3 + n)), .int a1, .ref (G.2.2.1 i 1)]) ++ List.replicate (6 - (lg_sl ([.ref (G.2.2.1 i (3 + n)), .int a1, .ref (G.2.2.1 i 1)])).length) Slot.unset).toArray = ls at hl ⊢
  have hl : lv_has ls 6 [(0, .ref (G.2.2.1 i (3 + n))), (1, .int a1), (2, .ref (G.2.2.1 i 1))] := hl
  refine lv_iconst (v := 0) hx hb dX5_beginWaiting_0 (by decide) ?_
  refine lv_istore_n (lv' := [(3, .int 0), (0, .ref (G.2.2.1 i (3 + n))), (1, .int a1), (2, .ref (G.2.2.1 i 1))]) hx hb dX5_beginWaiting_1 rfl hl (by decide) rfl (fun ls hl => ?_)
  refine lv_iload_n hx hb dX5_beginWaiting_2 rfl (lv_at hl 0 rfl) ?_
  refine lv_iconst (v := 3) hx hb dX5_beginWaiting_3 (by decide) ?_
  refine lv_icmp_ge (tgt := 84) hx hb dX5_beginWaiting_4 (by decide) (fun c_1 => ?_) (fun c_1 => ?_)
  · exact absurd c_1 (by decide)
  · skip
    refine lv_aload_n hx hb dX5_beginWaiting_7 rfl (lv_at hl 1 rfl) ?_
    refine wr_get hC hinRX5 hW (vBs hi hn) (ce_bs hi hn) rfl 10 (by decide) hk0 rfl dX5_beginWaiting_8 ?_
    refine lv_if_le (tgt := 84) hx hb dX5_beginWaiting_11 (by decide) (fun c_2 => ?_) (fun c_2 => ?_)
    · skip
      have hf : fX5_beginWaiting n B a1 = B := (if_pos c_2).trans rfl
      exact we_v hC hr hlocks (congrArg (wset Z i) hf).symm hW hS dX5_beginWaiting_84
    · skip
      refine lv_aload_n hx hb dX5_beginWaiting_14 rfl (lv_at hl 1 rfl) ?_
      refine wc_i hC hml (kX5_moves l G Z i hi n hn B) (cwV 0 hts gX5_beginWaiting_X5_moves rfl rfl rfl (by decide +kernel) ⟨Nat.le_of_ble_eq_true rfl, Nat.le_of_ble_eq_true rfl⟩) hW hS (vBs hi hn) (ce_bs hi hn) rfl rfl rfl rfl hl.1 (Nat.le_of_ble_eq_true rfl) dX5_beginWaiting_15 (fun H locs hW hS => ?_)
      refine lv_topi (fun x_3 ex_3 => ?_)
      refine lv_if_ne (tgt := 84) hx hb dX5_beginWaiting_18 (by decide) (fun c_4 => ?_) (fun c_4 => ?_)
      · skip
        have hf : fX5_beginWaiting n B a1 = B := by
          subst ex_3
          exact (if_neg c_2).trans ((if_neg c_4).trans rfl)
        exact we_v hC hr hlocks (congrArg (wset Z i) hf).symm hW hS dX5_beginWaiting_84
      · skip
        refine lv_aload_n hx hb dX5_beginWaiting_21 rfl (lv_at hl 1 rfl) ?_
        refine wr_get hC hinRX5 hW (vBs hi hn) (ce_bs hi hn) rfl 11 (by decide) hk1 rfl dX5_beginWaiting_22 ?_
        refine lv_iconst (v := 0) hx hb dX5_beginWaiting_25 (by decide) ?_
        refine wr_ald (kA := 0) hC hW (vBw hi hn) (ce_bw hi hn) rfl (vp_in_iff.mpr (by decide)) dX5_beginWaiting_26 ?_
        refine lv_re (y := B (7 + n) 0) ((congrArg (B (7 + n)) (show (0 : Int32).toNatClampNeg = 0 by decide))) ?_
        refine lv_topi (fun x_5 ex_5 => ?_)
        refine lv_istore (lv' := [(4, .int x_5), (3, .int 0), (0, .ref (G.2.2.1 i (3 + n))), (1, .int a1), (2, .ref (G.2.2.1 i 1))]) hx hb dX5_beginWaiting_27 hl (by decide) rfl (fun ls hl => ?_)
        refine lv_iconst (v := 1) hx hb dX5_beginWaiting_29 (by decide) ?_
        refine lv_istore (lv' := [(5, .int 1), (4, .int x_5), (3, .int 0), (0, .ref (G.2.2.1 i (3 + n))), (1, .int a1), (2, .ref (G.2.2.1 i 1))]) hx hb dX5_beginWaiting_30 hl (by decide) rfl (fun ls hl => ?_)
        refine lv_iload hx hb dX5_beginWaiting_32 (lv_at hl 0 rfl) ?_
        refine lv_iconst (v := 3) hx hb dX5_beginWaiting_34 (by decide) ?_
        refine lv_icmp_ge (tgt := 60) hx hb dX5_beginWaiting_35 (by decide) (fun c_6 => ?_) (fun c_6 => ?_)
        · exact absurd c_6 (by decide)
        · skip
          refine lv_aload_n hx hb dX5_beginWaiting_38 rfl (lv_at hl 3 rfl) ?_
          refine wr_get hC hinRX5 hW (vBs hi hn) (ce_bs hi hn) rfl 11 (by decide) hk1 rfl dX5_beginWaiting_39 ?_
          refine lv_iload hx hb dX5_beginWaiting_42 (lv_at hl 0 rfl) ?_
          refine lv_iconst (v := 1) hx hb dX5_beginWaiting_44 (by decide) ?_
          refine lv_isub hx hb dX5_beginWaiting_45 ?_
          refine lv_re (y := 0) (by decide) ?_
          refine lv_aload_n hx hb dX5_beginWaiting_46 rfl (lv_at hl 3 rfl) ?_
          refine wr_get hC hinRX5 hW (vBs hi hn) (ce_bs hi hn) rfl 11 (by decide) hk1 rfl dX5_beginWaiting_47 ?_
          refine lv_iload hx hb dX5_beginWaiting_50 (lv_at hl 0 rfl) ?_
          refine wr_ald (kA := 0) hC hW (vBw hi hn) (ce_bw hi hn) rfl (vp_in_iff.mpr (by decide)) dX5_beginWaiting_52 ?_
          refine lv_re (y := B (7 + n) 1) ((congrArg (B (7 + n)) (show (1 : Int32).toNatClampNeg = 1 by decide))) ?_
          refine wr_ast (kA := 0) (Z' := wset Z i (bput B (7 + n) (0 : Int32).toNatClampNeg (B (7 + n) 1))) hC hW hS (vBw hi hn) (ce_bw hi hn) rfl (vp_in_iff.mpr (by decide)) wset_off (pu_bw hi hn) dX5_beginWaiting_53 (fun H locs hW hS => ?_)
          have hW : wW G (wset Z i (bput B (7 + n) 0 (B (7 + n) 1))) H := hW
          refine lv_iinc (v := 2) (lv' := [(5, .int 2), (4, .int x_5), (3, .int 0), (0, .ref (G.2.2.1 i (3 + n))), (1, .int a1), (2, .ref (G.2.2.1 i 1))]) hx hb dX5_beginWaiting_54 hl (k := 0) rfl (by decide) (by decide) rfl (fun ls hl => ?_)
          refine lv_goto (tgt := 32) hx hb dX5_beginWaiting_57 (by decide) ?_
          refine lv_iload hx hb dX5_beginWaiting_32 (lv_at hl 0 rfl) ?_
          refine lv_iconst (v := 3) hx hb dX5_beginWaiting_34 (by decide) ?_
          refine lv_icmp_ge (tgt := 60) hx hb dX5_beginWaiting_35 (by decide) (fun c_7 => ?_) (fun c_7 => ?_)
          · exact absurd c_7 (by decide)
          · skip
            refine lv_aload_n hx hb dX5_beginWaiting_38 rfl (lv_at hl 3 rfl) ?_
            refine wr_get hC hinRX5 hW (vBs hi hn) (ce_bs hi hn) rfl 11 (by decide) hk1 rfl dX5_beginWaiting_39 ?_
            refine lv_iload hx hb dX5_beginWaiting_42 (lv_at hl 0 rfl) ?_
            refine lv_iconst (v := 1) hx hb dX5_beginWaiting_44 (by decide) ?_
            refine lv_isub hx hb dX5_beginWaiting_45 ?_
            refine lv_re (y := 1) (by decide) ?_
            refine lv_aload_n hx hb dX5_beginWaiting_46 rfl (lv_at hl 3 rfl) ?_
            refine wr_get hC hinRX5 hW (vBs hi hn) (ce_bs hi hn) rfl 11 (by decide) hk1 rfl dX5_beginWaiting_47 ?_
            refine lv_iload hx hb dX5_beginWaiting_50 (lv_at hl 0 rfl) ?_
            refine wr_ald (kA := 0) hC hW (vBw hi hn) (ce_bw hi hn) rfl (vp_in_iff.mpr (by decide)) dX5_beginWaiting_52 ?_
            refine lv_re (y := B (7 + n) 2) (((congrArg ((bput B (7 + n) 0 (B (7 + n) 1)) (7 + n)) (show (2 : Int32).toNatClampNeg = 2 by decide))).trans (bput_q (by decide))) ?_
            refine wr_ast (kA := 0) (Z' := wset Z i (bput (bput B (7 + n) 0 (B (7 + n) 1)) (7 + n) (1 : Int32).toNatClampNeg (B (7 + n) 2))) hC hW hS (vBw hi hn) (ce_bw hi hn) rfl (vp_in_iff.mpr (by decide)) wset_off (pu_bw hi hn) dX5_beginWaiting_53 (fun H locs hW hS => ?_)
            have hW : wW G (wset Z i (bput (bput B (7 + n) 0 (B (7 + n) 1)) (7 + n) 1 (B (7 + n) 2))) H := hW
            refine lv_iinc (v := 3) (lv' := [(5, .int 3), (4, .int x_5), (3, .int 0), (0, .ref (G.2.2.1 i (3 + n))), (1, .int a1), (2, .ref (G.2.2.1 i 1))]) hx hb dX5_beginWaiting_54 hl (k := 0) rfl (by decide) (by decide) rfl (fun ls hl => ?_)
            refine lv_goto (tgt := 32) hx hb dX5_beginWaiting_57 (by decide) ?_
            refine lv_iload hx hb dX5_beginWaiting_32 (lv_at hl 0 rfl) ?_
            refine lv_iconst (v := 3) hx hb dX5_beginWaiting_34 (by decide) ?_
            refine lv_icmp_ge (tgt := 60) hx hb dX5_beginWaiting_35 (by decide) (fun c_8 => ?_) (fun c_8 => ?_)
            · skip
              refine lv_aload_n hx hb dX5_beginWaiting_60 rfl (lv_at hl 3 rfl) ?_
              refine lv_dup hx hb dX5_beginWaiting_61 rfl ?_
              refine wr_get hC hinRX5 hW (vBs hi hn) (ce_bs hi hn) rfl 10 (by decide) hk0 rfl dX5_beginWaiting_62 ?_
              refine lv_re (y := B (3 + n) 10) ((bput_q (by decide)).trans (bput_q (by decide))) ?_
              refine lv_iconst (v := 1) hx hb dX5_beginWaiting_65 (by decide) ?_
              refine lv_isub hx hb dX5_beginWaiting_66 ?_
              refine wr_put (Z' := wset Z i (bput (bput (bput B (7 + n) 0 (B (7 + n) 1)) (7 + n) 1 (B (7 + n) 2)) (3 + n) 10 ((B (3 + n) 10) - 1))) (v := .int ((B (3 + n) 10) - 1)) hC hinRX5 tyX5 tyX5_ok nmX5 hW hS (vBs hi hn) (ce_bs hi hn) rfl 10 (by decide) hk0 rfl (tyX5_ok 10 (by decide)) rfl rfl (Nat.le_of_ble_eq_true rfl) wset_off (pu_bs_10 hi hn) dX5_beginWaiting_67 (fun H locs hW hS => ?_)
              refine lv_aload_n hx hb dX5_beginWaiting_70 rfl (lv_at hl 3 rfl) ?_
              refine lv_iload hx hb dX5_beginWaiting_71 (lv_at hl 1 rfl) ?_
              refine lv_iload_n hx hb dX5_beginWaiting_73 rfl (lv_at hl 4 rfl) ?_
              refine lv_aload_n hx hb dX5_beginWaiting_74 rfl (lv_at hl 5 rfl) ?_
              obtain ⟨B_9, eB_9⟩ : ∃ y, y = (bput (bput (bput B (7 + n) 0 (B (7 + n) 1)) (7 + n) 1 (B (7 + n) 2)) (3 + n) 10 ((B (3 + n) 10) - 1)) := ⟨_, rfl⟩
              rw [← eB_9] at hW
              refine wc_v hC hml (kX5_begin l G Z i hi n hn B_9 x_5 a1) (cwV 3 hts gX5_beginWaiting_X5_begin rfl rfl rfl (by decide +kernel) ⟨Nat.le_of_ble_eq_true rfl, Nat.le_of_ble_eq_true rfl⟩) hW hS (vBs hi hn) (ce_bs hi hn) rfl rfl rfl rfl hl.1 (Nat.le_of_ble_eq_true rfl) dX5_beginWaiting_75 (fun H locs hW hS => ?_)
              obtain ⟨B_10, eB_10⟩ : ∃ y, y = fX5_begin n B_9 x_5 a1 := ⟨_, rfl⟩
              rw [← eB_10] at hW
              refine lv_iinc (v := 1) (lv' := [(3, .int 1), (5, .int 3), (4, .int x_5), (0, .ref (G.2.2.1 i (3 + n))), (1, .int a1), (2, .ref (G.2.2.1 i 1))]) hx hb dX5_beginWaiting_78 hl (k := 2) rfl (by decide) (by decide) rfl (fun ls hl => ?_)
              refine lv_goto (tgt := 2) hx hb dX5_beginWaiting_81 (by decide) ?_
              refine lv_iload_n hx hb dX5_beginWaiting_2 rfl (lv_at hl 0 rfl) ?_
              refine lv_iconst (v := 3) hx hb dX5_beginWaiting_3 (by decide) ?_
              refine lv_icmp_ge (tgt := 84) hx hb dX5_beginWaiting_4 (by decide) (fun c_11 => ?_) (fun c_11 => ?_)
              · exact absurd c_11 (by decide)
              · skip
                refine lv_aload_n hx hb dX5_beginWaiting_7 rfl (lv_at hl 3 rfl) ?_
                refine wr_get hC hinRX5 hW (vBs hi hn) (ce_bs hi hn) rfl 10 (by decide) hk0 rfl dX5_beginWaiting_8 ?_
                refine lv_if_le (tgt := 84) hx hb dX5_beginWaiting_11 (by decide) (fun c_12 => ?_) (fun c_12 => ?_)
                · skip
                  have hf : fX5_beginWaiting n B a1 = B_10 := by
                    subst eB_10
                    subst eB_9
                    subst ex_5
                    subst ex_3
                    exact (if_neg c_2).trans ((if_pos c_4).trans ((if_pos c_12).trans rfl))
                  exact we_v hC hr hlocks (congrArg (wset Z i) hf).symm hW hS dX5_beginWaiting_84
                · skip
                  refine lv_aload_n hx hb dX5_beginWaiting_14 rfl (lv_at hl 3 rfl) ?_
                  refine wc_i hC hml (kX5_moves l G Z i hi n hn B_10) (cwV 0 hts gX5_beginWaiting_X5_moves rfl rfl rfl (by decide +kernel) ⟨Nat.le_of_ble_eq_true rfl, Nat.le_of_ble_eq_true rfl⟩) hW hS (vBs hi hn) (ce_bs hi hn) rfl rfl rfl rfl hl.1 (Nat.le_of_ble_eq_true rfl) dX5_beginWaiting_15 (fun H locs hW hS => ?_)
                  refine lv_topi (fun x_13 ex_13 => ?_)
                  refine lv_if_ne (tgt := 84) hx hb dX5_beginWaiting_18 (by decide) (fun c_14 => ?_) (fun c_14 => ?_)
                  · skip
                    have hf : fX5_beginWaiting n B a1 = B_10 := by
                      subst ex_13
                      subst eB_10
                      subst eB_9
                      subst ex_5
                      subst ex_3
                      exact (if_neg c_2).trans ((if_pos c_4).trans ((if_neg c_12).trans ((if_neg c_14).trans rfl)))
                    exact we_v hC hr hlocks (congrArg (wset Z i) hf).symm hW hS dX5_beginWaiting_84
                  · skip
                    refine lv_aload_n hx hb dX5_beginWaiting_21 rfl (lv_at hl 3 rfl) ?_
                    refine wr_get hC hinRX5 hW (vBs hi hn) (ce_bs hi hn) rfl 11 (by decide) hk1 rfl dX5_beginWaiting_22 ?_
                    refine lv_iconst (v := 0) hx hb dX5_beginWaiting_25 (by decide) ?_
                    refine wr_ald (kA := 0) hC hW (vBw hi hn) (ce_bw hi hn) rfl (vp_in_iff.mpr (by decide)) dX5_beginWaiting_26 ?_
                    refine lv_re (y := B_10 (7 + n) 0) ((congrArg (B_10 (7 + n)) (show (0 : Int32).toNatClampNeg = 0 by decide))) ?_
                    refine lv_topi (fun x_15 ex_15 => ?_)
                    refine lv_istore (lv' := [(4, .int x_15), (3, .int 1), (5, .int 3), (0, .ref (G.2.2.1 i (3 + n))), (1, .int a1), (2, .ref (G.2.2.1 i 1))]) hx hb dX5_beginWaiting_27 hl (by decide) rfl (fun ls hl => ?_)
                    refine lv_iconst (v := 1) hx hb dX5_beginWaiting_29 (by decide) ?_
                    refine lv_istore (lv' := [(5, .int 1), (4, .int x_15), (3, .int 1), (0, .ref (G.2.2.1 i (3 + n))), (1, .int a1), (2, .ref (G.2.2.1 i 1))]) hx hb dX5_beginWaiting_30 hl (by decide) rfl (fun ls hl => ?_)
                    refine lv_iload hx hb dX5_beginWaiting_32 (lv_at hl 0 rfl) ?_
                    refine lv_iconst (v := 3) hx hb dX5_beginWaiting_34 (by decide) ?_
                    refine lv_icmp_ge (tgt := 60) hx hb dX5_beginWaiting_35 (by decide) (fun c_16 => ?_) (fun c_16 => ?_)
                    · exact absurd c_16 (by decide)
                    · skip
                      refine lv_aload_n hx hb dX5_beginWaiting_38 rfl (lv_at hl 3 rfl) ?_
                      refine wr_get hC hinRX5 hW (vBs hi hn) (ce_bs hi hn) rfl 11 (by decide) hk1 rfl dX5_beginWaiting_39 ?_
                      refine lv_iload hx hb dX5_beginWaiting_42 (lv_at hl 0 rfl) ?_
                      refine lv_iconst (v := 1) hx hb dX5_beginWaiting_44 (by decide) ?_
                      refine lv_isub hx hb dX5_beginWaiting_45 ?_
                      refine lv_re (y := 0) (by decide) ?_
                      refine lv_aload_n hx hb dX5_beginWaiting_46 rfl (lv_at hl 3 rfl) ?_
                      refine wr_get hC hinRX5 hW (vBs hi hn) (ce_bs hi hn) rfl 11 (by decide) hk1 rfl dX5_beginWaiting_47 ?_
                      refine lv_iload hx hb dX5_beginWaiting_50 (lv_at hl 0 rfl) ?_
                      refine wr_ald (kA := 0) hC hW (vBw hi hn) (ce_bw hi hn) rfl (vp_in_iff.mpr (by decide)) dX5_beginWaiting_52 ?_
                      refine lv_re (y := B_10 (7 + n) 1) ((congrArg (B_10 (7 + n)) (show (1 : Int32).toNatClampNeg = 1 by decide))) ?_
                      refine wr_ast (kA := 0) (Z' := wset Z i (bput B_10 (7 + n) (0 : Int32).toNatClampNeg (B_10 (7 + n) 1))) hC hW hS (vBw hi hn) (ce_bw hi hn) rfl (vp_in_iff.mpr (by decide)) wset_off (pu_bw hi hn) dX5_beginWaiting_53 (fun H locs hW hS => ?_)
                      have hW : wW G (wset Z i (bput B_10 (7 + n) 0 (B_10 (7 + n) 1))) H := hW
                      refine lv_iinc (v := 2) (lv' := [(5, .int 2), (4, .int x_15), (3, .int 1), (0, .ref (G.2.2.1 i (3 + n))), (1, .int a1), (2, .ref (G.2.2.1 i 1))]) hx hb dX5_beginWaiting_54 hl (k := 0) rfl (by decide) (by decide) rfl (fun ls hl => ?_)
                      refine lv_goto (tgt := 32) hx hb dX5_beginWaiting_57 (by decide) ?_
                      refine lv_iload hx hb dX5_beginWaiting_32 (lv_at hl 0 rfl) ?_
                      refine lv_iconst (v := 3) hx hb dX5_beginWaiting_34 (by decide) ?_
                      refine lv_icmp_ge (tgt := 60) hx hb dX5_beginWaiting_35 (by decide) (fun c_17 => ?_) (fun c_17 => ?_)
                      · exact absurd c_17 (by decide)
                      · skip
                        refine lv_aload_n hx hb dX5_beginWaiting_38 rfl (lv_at hl 3 rfl) ?_
                        refine wr_get hC hinRX5 hW (vBs hi hn) (ce_bs hi hn) rfl 11 (by decide) hk1 rfl dX5_beginWaiting_39 ?_
                        refine lv_iload hx hb dX5_beginWaiting_42 (lv_at hl 0 rfl) ?_
                        refine lv_iconst (v := 1) hx hb dX5_beginWaiting_44 (by decide) ?_
                        refine lv_isub hx hb dX5_beginWaiting_45 ?_
                        refine lv_re (y := 1) (by decide) ?_
                        refine lv_aload_n hx hb dX5_beginWaiting_46 rfl (lv_at hl 3 rfl) ?_
                        refine wr_get hC hinRX5 hW (vBs hi hn) (ce_bs hi hn) rfl 11 (by decide) hk1 rfl dX5_beginWaiting_47 ?_
                        refine lv_iload hx hb dX5_beginWaiting_50 (lv_at hl 0 rfl) ?_
                        refine wr_ald (kA := 0) hC hW (vBw hi hn) (ce_bw hi hn) rfl (vp_in_iff.mpr (by decide)) dX5_beginWaiting_52 ?_
                        refine lv_re (y := B_10 (7 + n) 2) (((congrArg ((bput B_10 (7 + n) 0 (B_10 (7 + n) 1)) (7 + n)) (show (2 : Int32).toNatClampNeg = 2 by decide))).trans (bput_q (by decide))) ?_
                        refine wr_ast (kA := 0) (Z' := wset Z i (bput (bput B_10 (7 + n) 0 (B_10 (7 + n) 1)) (7 + n) (1 : Int32).toNatClampNeg (B_10 (7 + n) 2))) hC hW hS (vBw hi hn) (ce_bw hi hn) rfl (vp_in_iff.mpr (by decide)) wset_off (pu_bw hi hn) dX5_beginWaiting_53 (fun H locs hW hS => ?_)
                        have hW : wW G (wset Z i (bput (bput B_10 (7 + n) 0 (B_10 (7 + n) 1)) (7 + n) 1 (B_10 (7 + n) 2))) H := hW
                        refine lv_iinc (v := 3) (lv' := [(5, .int 3), (4, .int x_15), (3, .int 1), (0, .ref (G.2.2.1 i (3 + n))), (1, .int a1), (2, .ref (G.2.2.1 i 1))]) hx hb dX5_beginWaiting_54 hl (k := 0) rfl (by decide) (by decide) rfl (fun ls hl => ?_)
                        refine lv_goto (tgt := 32) hx hb dX5_beginWaiting_57 (by decide) ?_
                        refine lv_iload hx hb dX5_beginWaiting_32 (lv_at hl 0 rfl) ?_
                        refine lv_iconst (v := 3) hx hb dX5_beginWaiting_34 (by decide) ?_
                        refine lv_icmp_ge (tgt := 60) hx hb dX5_beginWaiting_35 (by decide) (fun c_18 => ?_) (fun c_18 => ?_)
                        · skip
                          refine lv_aload_n hx hb dX5_beginWaiting_60 rfl (lv_at hl 3 rfl) ?_
                          refine lv_dup hx hb dX5_beginWaiting_61 rfl ?_
                          refine wr_get hC hinRX5 hW (vBs hi hn) (ce_bs hi hn) rfl 10 (by decide) hk0 rfl dX5_beginWaiting_62 ?_
                          refine lv_re (y := B_10 (3 + n) 10) ((bput_q (by decide)).trans (bput_q (by decide))) ?_
                          refine lv_iconst (v := 1) hx hb dX5_beginWaiting_65 (by decide) ?_
                          refine lv_isub hx hb dX5_beginWaiting_66 ?_
                          refine wr_put (Z' := wset Z i (bput (bput (bput B_10 (7 + n) 0 (B_10 (7 + n) 1)) (7 + n) 1 (B_10 (7 + n) 2)) (3 + n) 10 ((B_10 (3 + n) 10) - 1))) (v := .int ((B_10 (3 + n) 10) - 1)) hC hinRX5 tyX5 tyX5_ok nmX5 hW hS (vBs hi hn) (ce_bs hi hn) rfl 10 (by decide) hk0 rfl (tyX5_ok 10 (by decide)) rfl rfl (Nat.le_of_ble_eq_true rfl) wset_off (pu_bs_10 hi hn) dX5_beginWaiting_67 (fun H locs hW hS => ?_)
                          refine lv_aload_n hx hb dX5_beginWaiting_70 rfl (lv_at hl 3 rfl) ?_
                          refine lv_iload hx hb dX5_beginWaiting_71 (lv_at hl 1 rfl) ?_
                          refine lv_iload_n hx hb dX5_beginWaiting_73 rfl (lv_at hl 4 rfl) ?_
                          refine lv_aload_n hx hb dX5_beginWaiting_74 rfl (lv_at hl 5 rfl) ?_
                          obtain ⟨B_19, eB_19⟩ : ∃ y, y = (bput (bput (bput B_10 (7 + n) 0 (B_10 (7 + n) 1)) (7 + n) 1 (B_10 (7 + n) 2)) (3 + n) 10 ((B_10 (3 + n) 10) - 1)) := ⟨_, rfl⟩
                          rw [← eB_19] at hW
                          refine wc_v hC hml (kX5_begin l G Z i hi n hn B_19 x_15 a1) (cwV 3 hts gX5_beginWaiting_X5_begin rfl rfl rfl (by decide +kernel) ⟨Nat.le_of_ble_eq_true rfl, Nat.le_of_ble_eq_true rfl⟩) hW hS (vBs hi hn) (ce_bs hi hn) rfl rfl rfl rfl hl.1 (Nat.le_of_ble_eq_true rfl) dX5_beginWaiting_75 (fun H locs hW hS => ?_)
                          obtain ⟨B_20, eB_20⟩ : ∃ y, y = fX5_begin n B_19 x_15 a1 := ⟨_, rfl⟩
                          rw [← eB_20] at hW
                          refine lv_iinc (v := 2) (lv' := [(3, .int 2), (5, .int 3), (4, .int x_15), (0, .ref (G.2.2.1 i (3 + n))), (1, .int a1), (2, .ref (G.2.2.1 i 1))]) hx hb dX5_beginWaiting_78 hl (k := 2) rfl (by decide) (by decide) rfl (fun ls hl => ?_)
                          refine lv_goto (tgt := 2) hx hb dX5_beginWaiting_81 (by decide) ?_
                          refine lv_iload_n hx hb dX5_beginWaiting_2 rfl (lv_at hl 0 rfl) ?_
                          refine lv_iconst (v := 3) hx hb dX5_beginWaiting_3 (by decide) ?_
                          refine lv_icmp_ge (tgt := 84) hx hb dX5_beginWaiting_4 (by decide) (fun c_21 => ?_) (fun c_21 => ?_)
                          · exact absurd c_21 (by decide)
                          · skip
                            refine lv_aload_n hx hb dX5_beginWaiting_7 rfl (lv_at hl 3 rfl) ?_
                            refine wr_get hC hinRX5 hW (vBs hi hn) (ce_bs hi hn) rfl 10 (by decide) hk0 rfl dX5_beginWaiting_8 ?_
                            refine lv_if_le (tgt := 84) hx hb dX5_beginWaiting_11 (by decide) (fun c_22 => ?_) (fun c_22 => ?_)
                            · skip
                              have hf : fX5_beginWaiting n B a1 = B_20 := by
                                subst eB_20
                                subst eB_19
                                subst ex_15
                                subst ex_13
                                subst eB_10
                                subst eB_9
                                subst ex_5
                                subst ex_3
                                exact (if_neg c_2).trans ((if_pos c_4).trans ((if_neg c_12).trans ((if_pos c_14).trans ((if_pos c_22).trans rfl))))
                              exact we_v hC hr hlocks (congrArg (wset Z i) hf).symm hW hS dX5_beginWaiting_84
                            · skip
                              refine lv_aload_n hx hb dX5_beginWaiting_14 rfl (lv_at hl 3 rfl) ?_
                              refine wc_i hC hml (kX5_moves l G Z i hi n hn B_20) (cwV 0 hts gX5_beginWaiting_X5_moves rfl rfl rfl (by decide +kernel) ⟨Nat.le_of_ble_eq_true rfl, Nat.le_of_ble_eq_true rfl⟩) hW hS (vBs hi hn) (ce_bs hi hn) rfl rfl rfl rfl hl.1 (Nat.le_of_ble_eq_true rfl) dX5_beginWaiting_15 (fun H locs hW hS => ?_)
                              refine lv_topi (fun x_23 ex_23 => ?_)
                              refine lv_if_ne (tgt := 84) hx hb dX5_beginWaiting_18 (by decide) (fun c_24 => ?_) (fun c_24 => ?_)
                              · skip
                                have hf : fX5_beginWaiting n B a1 = B_20 := by
                                  subst ex_23
                                  subst eB_20
                                  subst eB_19
                                  subst ex_15
                                  subst ex_13
                                  subst eB_10
                                  subst eB_9
                                  subst ex_5
                                  subst ex_3
                                  exact (if_neg c_2).trans ((if_pos c_4).trans ((if_neg c_12).trans ((if_pos c_14).trans ((if_neg c_22).trans ((if_neg c_24).trans rfl)))))
                                exact we_v hC hr hlocks (congrArg (wset Z i) hf).symm hW hS dX5_beginWaiting_84
                              · skip
                                refine lv_aload_n hx hb dX5_beginWaiting_21 rfl (lv_at hl 3 rfl) ?_
                                refine wr_get hC hinRX5 hW (vBs hi hn) (ce_bs hi hn) rfl 11 (by decide) hk1 rfl dX5_beginWaiting_22 ?_
                                refine lv_iconst (v := 0) hx hb dX5_beginWaiting_25 (by decide) ?_
                                refine wr_ald (kA := 0) hC hW (vBw hi hn) (ce_bw hi hn) rfl (vp_in_iff.mpr (by decide)) dX5_beginWaiting_26 ?_
                                refine lv_re (y := B_20 (7 + n) 0) ((congrArg (B_20 (7 + n)) (show (0 : Int32).toNatClampNeg = 0 by decide))) ?_
                                refine lv_topi (fun x_25 ex_25 => ?_)
                                refine lv_istore (lv' := [(4, .int x_25), (3, .int 2), (5, .int 3), (0, .ref (G.2.2.1 i (3 + n))), (1, .int a1), (2, .ref (G.2.2.1 i 1))]) hx hb dX5_beginWaiting_27 hl (by decide) rfl (fun ls hl => ?_)
                                refine lv_iconst (v := 1) hx hb dX5_beginWaiting_29 (by decide) ?_
                                refine lv_istore (lv' := [(5, .int 1), (4, .int x_25), (3, .int 2), (0, .ref (G.2.2.1 i (3 + n))), (1, .int a1), (2, .ref (G.2.2.1 i 1))]) hx hb dX5_beginWaiting_30 hl (by decide) rfl (fun ls hl => ?_)
                                refine lv_iload hx hb dX5_beginWaiting_32 (lv_at hl 0 rfl) ?_
                                refine lv_iconst (v := 3) hx hb dX5_beginWaiting_34 (by decide) ?_
                                refine lv_icmp_ge (tgt := 60) hx hb dX5_beginWaiting_35 (by decide) (fun c_26 => ?_) (fun c_26 => ?_)
                                · exact absurd c_26 (by decide)
                                · skip
                                  refine lv_aload_n hx hb dX5_beginWaiting_38 rfl (lv_at hl 3 rfl) ?_
                                  refine wr_get hC hinRX5 hW (vBs hi hn) (ce_bs hi hn) rfl 11 (by decide) hk1 rfl dX5_beginWaiting_39 ?_
                                  refine lv_iload hx hb dX5_beginWaiting_42 (lv_at hl 0 rfl) ?_
                                  refine lv_iconst (v := 1) hx hb dX5_beginWaiting_44 (by decide) ?_
                                  refine lv_isub hx hb dX5_beginWaiting_45 ?_
                                  refine lv_re (y := 0) (by decide) ?_
                                  refine lv_aload_n hx hb dX5_beginWaiting_46 rfl (lv_at hl 3 rfl) ?_
                                  refine wr_get hC hinRX5 hW (vBs hi hn) (ce_bs hi hn) rfl 11 (by decide) hk1 rfl dX5_beginWaiting_47 ?_
                                  refine lv_iload hx hb dX5_beginWaiting_50 (lv_at hl 0 rfl) ?_
                                  refine wr_ald (kA := 0) hC hW (vBw hi hn) (ce_bw hi hn) rfl (vp_in_iff.mpr (by decide)) dX5_beginWaiting_52 ?_
                                  refine lv_re (y := B_20 (7 + n) 1) ((congrArg (B_20 (7 + n)) (show (1 : Int32).toNatClampNeg = 1 by decide))) ?_
                                  refine wr_ast (kA := 0) (Z' := wset Z i (bput B_20 (7 + n) (0 : Int32).toNatClampNeg (B_20 (7 + n) 1))) hC hW hS (vBw hi hn) (ce_bw hi hn) rfl (vp_in_iff.mpr (by decide)) wset_off (pu_bw hi hn) dX5_beginWaiting_53 (fun H locs hW hS => ?_)
                                  have hW : wW G (wset Z i (bput B_20 (7 + n) 0 (B_20 (7 + n) 1))) H := hW
                                  refine lv_iinc (v := 2) (lv' := [(5, .int 2), (4, .int x_25), (3, .int 2), (0, .ref (G.2.2.1 i (3 + n))), (1, .int a1), (2, .ref (G.2.2.1 i 1))]) hx hb dX5_beginWaiting_54 hl (k := 0) rfl (by decide) (by decide) rfl (fun ls hl => ?_)
                                  refine lv_goto (tgt := 32) hx hb dX5_beginWaiting_57 (by decide) ?_
                                  refine lv_iload hx hb dX5_beginWaiting_32 (lv_at hl 0 rfl) ?_
                                  refine lv_iconst (v := 3) hx hb dX5_beginWaiting_34 (by decide) ?_
                                  refine lv_icmp_ge (tgt := 60) hx hb dX5_beginWaiting_35 (by decide) (fun c_27 => ?_) (fun c_27 => ?_)
                                  · exact absurd c_27 (by decide)
                                  · skip
                                    refine lv_aload_n hx hb dX5_beginWaiting_38 rfl (lv_at hl 3 rfl) ?_
                                    refine wr_get hC hinRX5 hW (vBs hi hn) (ce_bs hi hn) rfl 11 (by decide) hk1 rfl dX5_beginWaiting_39 ?_
                                    refine lv_iload hx hb dX5_beginWaiting_42 (lv_at hl 0 rfl) ?_
                                    refine lv_iconst (v := 1) hx hb dX5_beginWaiting_44 (by decide) ?_
                                    refine lv_isub hx hb dX5_beginWaiting_45 ?_
                                    refine lv_re (y := 1) (by decide) ?_
                                    refine lv_aload_n hx hb dX5_beginWaiting_46 rfl (lv_at hl 3 rfl) ?_
                                    refine wr_get hC hinRX5 hW (vBs hi hn) (ce_bs hi hn) rfl 11 (by decide) hk1 rfl dX5_beginWaiting_47 ?_
                                    refine lv_iload hx hb dX5_beginWaiting_50 (lv_at hl 0 rfl) ?_
                                    refine wr_ald (kA := 0) hC hW (vBw hi hn) (ce_bw hi hn) rfl (vp_in_iff.mpr (by decide)) dX5_beginWaiting_52 ?_
                                    refine lv_re (y := B_20 (7 + n) 2) (((congrArg ((bput B_20 (7 + n) 0 (B_20 (7 + n) 1)) (7 + n)) (show (2 : Int32).toNatClampNeg = 2 by decide))).trans (bput_q (by decide))) ?_
                                    refine wr_ast (kA := 0) (Z' := wset Z i (bput (bput B_20 (7 + n) 0 (B_20 (7 + n) 1)) (7 + n) (1 : Int32).toNatClampNeg (B_20 (7 + n) 2))) hC hW hS (vBw hi hn) (ce_bw hi hn) rfl (vp_in_iff.mpr (by decide)) wset_off (pu_bw hi hn) dX5_beginWaiting_53 (fun H locs hW hS => ?_)
                                    have hW : wW G (wset Z i (bput (bput B_20 (7 + n) 0 (B_20 (7 + n) 1)) (7 + n) 1 (B_20 (7 + n) 2))) H := hW
                                    refine lv_iinc (v := 3) (lv' := [(5, .int 3), (4, .int x_25), (3, .int 2), (0, .ref (G.2.2.1 i (3 + n))), (1, .int a1), (2, .ref (G.2.2.1 i 1))]) hx hb dX5_beginWaiting_54 hl (k := 0) rfl (by decide) (by decide) rfl (fun ls hl => ?_)
                                    refine lv_goto (tgt := 32) hx hb dX5_beginWaiting_57 (by decide) ?_
                                    refine lv_iload hx hb dX5_beginWaiting_32 (lv_at hl 0 rfl) ?_
                                    refine lv_iconst (v := 3) hx hb dX5_beginWaiting_34 (by decide) ?_
                                    refine lv_icmp_ge (tgt := 60) hx hb dX5_beginWaiting_35 (by decide) (fun c_28 => ?_) (fun c_28 => ?_)
                                    · skip
                                      refine lv_aload_n hx hb dX5_beginWaiting_60 rfl (lv_at hl 3 rfl) ?_
                                      refine lv_dup hx hb dX5_beginWaiting_61 rfl ?_
                                      refine wr_get hC hinRX5 hW (vBs hi hn) (ce_bs hi hn) rfl 10 (by decide) hk0 rfl dX5_beginWaiting_62 ?_
                                      refine lv_re (y := B_20 (3 + n) 10) ((bput_q (by decide)).trans (bput_q (by decide))) ?_
                                      refine lv_iconst (v := 1) hx hb dX5_beginWaiting_65 (by decide) ?_
                                      refine lv_isub hx hb dX5_beginWaiting_66 ?_
                                      refine wr_put (Z' := wset Z i (bput (bput (bput B_20 (7 + n) 0 (B_20 (7 + n) 1)) (7 + n) 1 (B_20 (7 + n) 2)) (3 + n) 10 ((B_20 (3 + n) 10) - 1))) (v := .int ((B_20 (3 + n) 10) - 1)) hC hinRX5 tyX5 tyX5_ok nmX5 hW hS (vBs hi hn) (ce_bs hi hn) rfl 10 (by decide) hk0 rfl (tyX5_ok 10 (by decide)) rfl rfl (Nat.le_of_ble_eq_true rfl) wset_off (pu_bs_10 hi hn) dX5_beginWaiting_67 (fun H locs hW hS => ?_)
                                      refine lv_aload_n hx hb dX5_beginWaiting_70 rfl (lv_at hl 3 rfl) ?_
                                      refine lv_iload hx hb dX5_beginWaiting_71 (lv_at hl 1 rfl) ?_
                                      refine lv_iload_n hx hb dX5_beginWaiting_73 rfl (lv_at hl 4 rfl) ?_
                                      refine lv_aload_n hx hb dX5_beginWaiting_74 rfl (lv_at hl 5 rfl) ?_
                                      obtain ⟨B_29, eB_29⟩ : ∃ y, y = (bput (bput (bput B_20 (7 + n) 0 (B_20 (7 + n) 1)) (7 + n) 1 (B_20 (7 + n) 2)) (3 + n) 10 ((B_20 (3 + n) 10) - 1)) := ⟨_, rfl⟩
                                      rw [← eB_29] at hW
                                      refine wc_v hC hml (kX5_begin l G Z i hi n hn B_29 x_25 a1) (cwV 3 hts gX5_beginWaiting_X5_begin rfl rfl rfl (by decide +kernel) ⟨Nat.le_of_ble_eq_true rfl, Nat.le_of_ble_eq_true rfl⟩) hW hS (vBs hi hn) (ce_bs hi hn) rfl rfl rfl rfl hl.1 (Nat.le_of_ble_eq_true rfl) dX5_beginWaiting_75 (fun H locs hW hS => ?_)
                                      obtain ⟨B_30, eB_30⟩ : ∃ y, y = fX5_begin n B_29 x_25 a1 := ⟨_, rfl⟩
                                      rw [← eB_30] at hW
                                      refine lv_iinc (v := 3) (lv' := [(3, .int 3), (5, .int 3), (4, .int x_25), (0, .ref (G.2.2.1 i (3 + n))), (1, .int a1), (2, .ref (G.2.2.1 i 1))]) hx hb dX5_beginWaiting_78 hl (k := 2) rfl (by decide) (by decide) rfl (fun ls hl => ?_)
                                      refine lv_goto (tgt := 2) hx hb dX5_beginWaiting_81 (by decide) ?_
                                      refine lv_iload_n hx hb dX5_beginWaiting_2 rfl (lv_at hl 0 rfl) ?_
                                      refine lv_iconst (v := 3) hx hb dX5_beginWaiting_3 (by decide) ?_
                                      refine lv_icmp_ge (tgt := 84) hx hb dX5_beginWaiting_4 (by decide) (fun c_31 => ?_) (fun c_31 => ?_)
                                      · skip
                                        have hf : fX5_beginWaiting n B a1 = B_30 := by
                                          subst eB_30
                                          subst eB_29
                                          subst ex_25
                                          subst ex_23
                                          subst eB_20
                                          subst eB_19
                                          subst ex_15
                                          subst ex_13
                                          subst eB_10
                                          subst eB_9
                                          subst ex_5
                                          subst ex_3
                                          exact (if_neg c_2).trans ((if_pos c_4).trans ((if_neg c_12).trans ((if_pos c_14).trans ((if_neg c_22).trans ((if_pos c_24).trans rfl)))))
                                        exact we_v hC hr hlocks (congrArg (wset Z i) hf).symm hW hS dX5_beginWaiting_84
                                      · exact absurd c_31 (by decide)
                                    · exact absurd c_28 (by decide)
                        · exact absurd c_18 (by decide)
            · exact absurd c_8 (by decide)
def fX5_makeStep (n : Nat) (B : wB) (a1 : Int32) : wB :=
  let x_1 := (B (3 + n) 4) * (B (3 + n) 0)
  let B_2 := (bput (bput B (3 + n) 2 ((B (3 + n) 2) + x_1)) (3 + n) 8 ((B (3 + n) 8) + 1))
  let x_3 := fX3_grips B_2 (B (3 + n) 6) (B (3 + n) 1)
  if x_3 = 0 then (let B_5 := (bput (bput B_2 (3 + n) 9 ((B (3 + n) 9) + 1)) (3 + n) 5 ((B (3 + n) 5) - 1))
    let x_6 := fX5_moves n B_5
    if x_6 = 0 then (bput B_5 (3 + n) 6 0)
    else let x_8 := fX3_levelAfter B_5 (B (3 + n) 6) ((B (3 + n) 5) - 1)
    let B_9 := (bput B_5 (3 + n) 6 x_8)
    let x_10 := fX3_intervalOf B_9 x_8
    (bput B_9 (3 + n) 7 (a1 + x_10)))
  else let B_11 := (bput (bput B_2 (3 + n) 3 ((B (3 + n) 3) + x_1)) (3 + n) 5 ((B (3 + n) 5) - 1))
  let x_12 := fX5_moves n B_11
  if x_12 = 0 then (bput B_11 (3 + n) 6 0)
  else let x_14 := fX3_levelAfter B_11 (B (3 + n) 6) ((B (3 + n) 5) - 1)
  let B_15 := (bput B_11 (3 + n) 6 x_14)
  let x_16 := fX3_intervalOf B_15 x_14
  (bput B_15 (3 + n) 7 (a1 + x_16))
abbrev rX5_makeStep : Room := { frames := 2, cells := 0, slots := 0, locals := 44 }
set_option maxHeartbeats 4000000 in
set_option maxRecDepth 100000 in
theorem kX5_makeStep (l : Launch) (G : wG) (Z : wZ) (i : Nat) (hi : i < 11) (n : Nat) (hn : n < 4) (B : wB) (a1 : Int32)  : mV l yX5_makeStep wsX5_makeStep rX5_makeStep G [.ref (G.2.2.1 i (3 + n)), .int a1, .ref (G.2.2.1 i 1)] (wset Z i B) (wset Z i (fX5_makeStep n B a1)) := by
  refine Met.ofW (cc := cX5_makeStep) (maxL := 4) (ret := none) (by decide) rfl ?_
  intro p e s m args below meth c s₁ B0 hml hv
  obtain ⟨rfl, hW, hK, hL⟩ := hv
  have hlocks := B0.notSynchronized
  have hr := B0.returns
  have hC : wX p s m c cX5_makeStep _ wsX5_makeStep RX5 G := ⟨B0.exec, B0.bytes, findClass_of_methodNamed B0.named, atoms_spec (ws := wsX5_makeStep) B0.pre, hK, hL⟩
  have hx := hC.1
  have hb := hC.2.1
  have hts := hC.2.2.2.1
  have hinRX5 : ∀ w ∈ wsX50, w ∈ wsX5_makeStep := by decide +kernel
  have hk0 := hts (.fieldLink RX5 28 "RampShafts$Shaft" "way" "I") (by decide +kernel)
  have hk1 := hts (.fieldLink RX5 15 "RampShafts$Shaft" "micro" "I") (by decide +kernel)
  have hk2 := hts (.fieldLink RX5 22 "RampShafts$Shaft" "says" "I") (by decide +kernel)
  have hk3 := hts (.fieldLink RX5 40 "RampShafts$Shaft" "steps" "I") (by decide +kernel)
  have hk4 := hts (.fieldLink RX5 34 "RampShafts$Shaft" "level" "I") (by decide +kernel)
  have hk5 := hts (.fieldLink RX5 19 "RampShafts$Shaft" "load" "I") (by decide +kernel)
  have hk6 := hts (.fieldLink RX5 43 "RampShafts$Shaft" "lost" "I") (by decide +kernel)
  have hk7 := hts (.fieldLink RX5 31 "RampShafts$Shaft" "left" "I") (by decide +kernel)
  have hk8 := hts (.fieldLink RX5 37 "RampShafts$Shaft" "next" "I") (by decide +kernel)
  have hk9 := hts (.fieldLink RX5 25 "RampShafts$Shaft" "stands" "I") (by decide +kernel)
  have hS : va_S (wA G) s.heap s.heap [] := va_S.rf
  have hl := lv_entry ([.ref (G.2.2.1 i (3 + n)), .int a1, .ref (G.2.2.1 i 1)]) (n := 4) (Nat.le_of_ble_eq_true rfl)
  rw [lg_entry_eq]
  generalize (lg_sl ([.ref (G.2.2.1 i (3 + n)), .int a1, .ref (G.2.2.1 i 1)]) ++ List.replicate (4 - (lg_sl ([.ref (G.2.2.1 i (3 + n)), .int a1, .ref (G.2.2.1 i 1)])).length) Slot.unset).toArray = ls at hl ⊢
  have hl : lv_has ls 4 [(0, .ref (G.2.2.1 i (3 + n))), (1, .int a1), (2, .ref (G.2.2.1 i 1))] := hl
  refine lv_aload_n hx hb dX5_makeStep_0 rfl (lv_at hl 0 rfl) ?_
  refine wr_get hC hinRX5 hW (vBs hi hn) (ce_bs hi hn) rfl 4 (by decide) hk0 rfl dX5_makeStep_1 ?_
  refine lv_aload_n hx hb dX5_makeStep_4 rfl (lv_at hl 0 rfl) ?_
  refine wr_get hC hinRX5 hW (vBs hi hn) (ce_bs hi hn) rfl 0 (by decide) hk1 rfl dX5_makeStep_5 ?_
  refine lv_imul hx hb dX5_makeStep_8 ?_
  refine lv_topi (fun x_1 ex_1 => ?_)
  refine lv_istore_n (lv' := [(3, .int x_1), (0, .ref (G.2.2.1 i (3 + n))), (1, .int a1), (2, .ref (G.2.2.1 i 1))]) hx hb dX5_makeStep_9 rfl hl (by decide) rfl (fun ls hl => ?_)
  refine lv_aload_n hx hb dX5_makeStep_10 rfl (lv_at hl 1 rfl) ?_
  refine lv_dup hx hb dX5_makeStep_11 rfl ?_
  refine wr_get hC hinRX5 hW (vBs hi hn) (ce_bs hi hn) rfl 2 (by decide) hk2 rfl dX5_makeStep_12 ?_
  refine lv_iload_n hx hb dX5_makeStep_15 rfl (lv_at hl 0 rfl) ?_
  refine lv_iadd hx hb dX5_makeStep_16 ?_
  refine wr_put (Z' := wset Z i (bput B (3 + n) 2 ((B (3 + n) 2) + x_1))) (v := .int ((B (3 + n) 2) + x_1)) hC hinRX5 tyX5 tyX5_ok nmX5 hW hS (vBs hi hn) (ce_bs hi hn) rfl 2 (by decide) hk2 rfl (tyX5_ok 2 (by decide)) rfl rfl (Nat.le_of_ble_eq_true rfl) wset_off (pu_bs_2 hi hn) dX5_makeStep_17 (fun H locs hW hS => ?_)
  refine lv_aload_n hx hb dX5_makeStep_20 rfl (lv_at hl 1 rfl) ?_
  refine lv_dup hx hb dX5_makeStep_21 rfl ?_
  refine wr_get hC hinRX5 hW (vBs hi hn) (ce_bs hi hn) rfl 8 (by decide) hk3 rfl dX5_makeStep_22 ?_
  refine lv_re (y := B (3 + n) 8) (bput_q (by decide)) ?_
  refine lv_iconst (v := 1) hx hb dX5_makeStep_25 (by decide) ?_
  refine lv_iadd hx hb dX5_makeStep_26 ?_
  refine wr_put (Z' := wset Z i (bput (bput B (3 + n) 2 ((B (3 + n) 2) + x_1)) (3 + n) 8 ((B (3 + n) 8) + 1))) (v := .int ((B (3 + n) 8) + 1)) hC hinRX5 tyX5 tyX5_ok nmX5 hW hS (vBs hi hn) (ce_bs hi hn) rfl 8 (by decide) hk3 rfl (tyX5_ok 8 (by decide)) rfl rfl (Nat.le_of_ble_eq_true rfl) wset_off (pu_bs_8 hi hn) dX5_makeStep_27 (fun H locs hW hS => ?_)
  refine lv_aload_n hx hb dX5_makeStep_30 rfl (lv_at hl 3 rfl) ?_
  refine lv_aload_n hx hb dX5_makeStep_31 rfl (lv_at hl 1 rfl) ?_
  refine wr_get hC hinRX5 hW (vBs hi hn) (ce_bs hi hn) rfl 6 (by decide) hk4 rfl dX5_makeStep_32 ?_
  refine lv_re (y := B (3 + n) 6) ((bput_q (by decide)).trans (bput_q (by decide))) ?_
  refine lv_aload_n hx hb dX5_makeStep_35 rfl (lv_at hl 1 rfl) ?_
  refine wr_get hC hinRX5 hW (vBs hi hn) (ce_bs hi hn) rfl 1 (by decide) hk5 rfl dX5_makeStep_36 ?_
  refine lv_re (y := B (3 + n) 1) ((bput_q (by decide)).trans (bput_q (by decide))) ?_
  obtain ⟨B_2, eB_2⟩ : ∃ y, y = (bput (bput B (3 + n) 2 ((B (3 + n) 2) + x_1)) (3 + n) 8 ((B (3 + n) 8) + 1)) := ⟨_, rfl⟩
  rw [← eB_2] at hW
  refine wc_i hC hml (kX3_grips l G Z i hi B_2 (B (3 + n) 6) (B (3 + n) 1)) (cwV 2 hts gX5_makeStep_X3_grips rfl rfl rfl (by decide +kernel) ⟨Nat.le_of_ble_eq_true rfl, Nat.le_of_ble_eq_true rfl⟩) hW hS (vB hi (by decide)) (ce_b1 hi) rfl rfl rfl rfl hl.1 (Nat.le_of_ble_eq_true rfl) dX5_makeStep_39 (fun H locs hW hS => ?_)
  refine lv_topi (fun x_3 ex_3 => ?_)
  refine lv_if_eq (tgt := 58) hx hb dX5_makeStep_42 (by decide) (fun c_4 => ?_) (fun c_4 => ?_)
  · skip
    refine lv_aload_n hx hb dX5_makeStep_58 rfl (lv_at hl 1 rfl) ?_
    refine lv_dup hx hb dX5_makeStep_59 rfl ?_
    refine wr_get hC hinRX5 hW (vBs hi hn) (ce_bs hi hn) rfl 9 (by decide) hk6 rfl dX5_makeStep_60 ?_
    refine lv_re (y := B (3 + n) 9) ((((congrFun (congrFun eB_2 _) _)).trans (bput_q (by decide))).trans (bput_q (by decide))) ?_
    refine lv_iconst (v := 1) hx hb dX5_makeStep_63 (by decide) ?_
    refine lv_iadd hx hb dX5_makeStep_64 ?_
    refine wr_put (Z' := wset Z i (bput B_2 (3 + n) 9 ((B (3 + n) 9) + 1))) (v := .int ((B (3 + n) 9) + 1)) hC hinRX5 tyX5 tyX5_ok nmX5 hW hS (vBs hi hn) (ce_bs hi hn) rfl 9 (by decide) hk6 rfl (tyX5_ok 9 (by decide)) rfl rfl (Nat.le_of_ble_eq_true rfl) wset_off (pu_bs_9 hi hn) dX5_makeStep_65 (fun H locs hW hS => ?_)
    refine lv_aload_n hx hb dX5_makeStep_68 rfl (lv_at hl 1 rfl) ?_
    refine lv_dup hx hb dX5_makeStep_69 rfl ?_
    refine wr_get hC hinRX5 hW (vBs hi hn) (ce_bs hi hn) rfl 5 (by decide) hk7 rfl dX5_makeStep_70 ?_
    refine lv_re (y := B (3 + n) 5) ((((bput_q (by decide)).trans ((congrFun (congrFun eB_2 _) _))).trans (bput_q (by decide))).trans (bput_q (by decide))) ?_
    refine lv_iconst (v := 1) hx hb dX5_makeStep_73 (by decide) ?_
    refine lv_isub hx hb dX5_makeStep_74 ?_
    refine wr_put (Z' := wset Z i (bput (bput B_2 (3 + n) 9 ((B (3 + n) 9) + 1)) (3 + n) 5 ((B (3 + n) 5) - 1))) (v := .int ((B (3 + n) 5) - 1)) hC hinRX5 tyX5 tyX5_ok nmX5 hW hS (vBs hi hn) (ce_bs hi hn) rfl 5 (by decide) hk7 rfl (tyX5_ok 5 (by decide)) rfl rfl (Nat.le_of_ble_eq_true rfl) wset_off (pu_bs_5 hi hn) dX5_makeStep_75 (fun H locs hW hS => ?_)
    refine lv_aload_n hx hb dX5_makeStep_78 rfl (lv_at hl 1 rfl) ?_
    obtain ⟨B_5, eB_5⟩ : ∃ y, y = (bput (bput B_2 (3 + n) 9 ((B (3 + n) 9) + 1)) (3 + n) 5 ((B (3 + n) 5) - 1)) := ⟨_, rfl⟩
    rw [← eB_5] at hW
    refine wc_i hC hml (kX5_moves l G Z i hi n hn B_5) (cwV 0 hts gX5_makeStep_X5_moves rfl rfl rfl (by decide +kernel) ⟨Nat.le_of_ble_eq_true rfl, Nat.le_of_ble_eq_true rfl⟩) hW hS (vBs hi hn) (ce_bs hi hn) rfl rfl rfl rfl hl.1 (Nat.le_of_ble_eq_true rfl) dX5_makeStep_79 (fun H locs hW hS => ?_)
    refine lv_topi (fun x_6 ex_6 => ?_)
    refine lv_if_eq (tgt := 118) hx hb dX5_makeStep_82 (by decide) (fun c_7 => ?_) (fun c_7 => ?_)
    · skip
      refine lv_aload_n hx hb dX5_makeStep_118 rfl (lv_at hl 1 rfl) ?_
      refine lv_iconst (v := 0) hx hb dX5_makeStep_119 (by decide) ?_
      refine wr_put (Z' := wset Z i (bput B_5 (3 + n) 6 0)) (v := .int 0) hC hinRX5 tyX5 tyX5_ok nmX5 hW hS (vBs hi hn) (ce_bs hi hn) rfl 6 (by decide) hk4 rfl (tyX5_ok 6 (by decide)) rfl rfl (Nat.le_of_ble_eq_true rfl) wset_off (pu_bs_6 hi hn) dX5_makeStep_120 (fun H locs hW hS => ?_)
      have hf : fX5_makeStep n B a1 = (bput B_5 (3 + n) 6 0) := by
        subst ex_6
        subst eB_5
        subst ex_3
        subst eB_2
        subst ex_1
        exact (if_pos c_4).trans ((if_pos c_7).trans rfl)
      exact we_v hC hr hlocks (congrArg (wset Z i) hf).symm hW hS dX5_makeStep_123
    · skip
      refine lv_aload_n hx hb dX5_makeStep_85 rfl (lv_at hl 1 rfl) ?_
      refine lv_aload_n hx hb dX5_makeStep_86 rfl (lv_at hl 3 rfl) ?_
      refine lv_aload_n hx hb dX5_makeStep_87 rfl (lv_at hl 1 rfl) ?_
      refine wr_get hC hinRX5 hW (vBs hi hn) (ce_bs hi hn) rfl 6 (by decide) hk4 rfl dX5_makeStep_88 ?_
      refine lv_re (y := B (3 + n) 6) (((((((congrFun (congrFun eB_5 _) _)).trans (bput_q (by decide))).trans (bput_q (by decide))).trans ((congrFun (congrFun eB_2 _) _))).trans (bput_q (by decide))).trans (bput_q (by decide))) ?_
      refine lv_aload_n hx hb dX5_makeStep_91 rfl (lv_at hl 1 rfl) ?_
      refine wr_get hC hinRX5 hW (vBs hi hn) (ce_bs hi hn) rfl 5 (by decide) hk7 rfl dX5_makeStep_92 ?_
      refine lv_re (y := (B (3 + n) 5) - 1) (((congrFun (congrFun eB_5 _) _)).trans (bput_h)) ?_
      refine wc_i hC hml (kX3_levelAfter l G Z i hi B_5 (B (3 + n) 6) ((B (3 + n) 5) - 1)) (cwV 2 hts gX5_makeStep_X3_levelAfter rfl rfl rfl (by decide +kernel) ⟨Nat.le_of_ble_eq_true rfl, Nat.le_of_ble_eq_true rfl⟩) hW hS (vB hi (by decide)) (ce_b1 hi) rfl rfl rfl rfl hl.1 (Nat.le_of_ble_eq_true rfl) dX5_makeStep_95 (fun H locs hW hS => ?_)
      refine lv_topi (fun x_8 ex_8 => ?_)
      refine wr_put (Z' := wset Z i (bput B_5 (3 + n) 6 x_8)) (v := .int x_8) hC hinRX5 tyX5 tyX5_ok nmX5 hW hS (vBs hi hn) (ce_bs hi hn) rfl 6 (by decide) hk4 rfl (tyX5_ok 6 (by decide)) rfl rfl (Nat.le_of_ble_eq_true rfl) wset_off (pu_bs_6 hi hn) dX5_makeStep_98 (fun H locs hW hS => ?_)
      refine lv_aload_n hx hb dX5_makeStep_101 rfl (lv_at hl 1 rfl) ?_
      refine lv_iload_n hx hb dX5_makeStep_102 rfl (lv_at hl 2 rfl) ?_
      refine lv_aload_n hx hb dX5_makeStep_103 rfl (lv_at hl 3 rfl) ?_
      refine lv_aload_n hx hb dX5_makeStep_104 rfl (lv_at hl 1 rfl) ?_
      refine wr_get hC hinRX5 hW (vBs hi hn) (ce_bs hi hn) rfl 6 (by decide) hk4 rfl dX5_makeStep_105 ?_
      refine lv_re (y := x_8) (bput_h) ?_
      obtain ⟨B_9, eB_9⟩ : ∃ y, y = (bput B_5 (3 + n) 6 x_8) := ⟨_, rfl⟩
      rw [← eB_9] at hW
      refine wc_i hC hml (kX3_intervalOf l G Z i hi B_9 x_8) (cwV 1 hts gX5_makeStep_X3_intervalOf rfl rfl rfl (by decide +kernel) ⟨Nat.le_of_ble_eq_true rfl, Nat.le_of_ble_eq_true rfl⟩) hW hS (vB hi (by decide)) (ce_b1 hi) rfl rfl rfl rfl hl.1 (Nat.le_of_ble_eq_true rfl) dX5_makeStep_108 (fun H locs hW hS => ?_)
      refine lv_topi (fun x_10 ex_10 => ?_)
      refine lv_iadd hx hb dX5_makeStep_111 ?_
      refine wr_put (Z' := wset Z i (bput B_9 (3 + n) 7 (a1 + x_10))) (v := .int (a1 + x_10)) hC hinRX5 tyX5 tyX5_ok nmX5 hW hS (vBs hi hn) (ce_bs hi hn) rfl 7 (by decide) hk8 rfl (tyX5_ok 7 (by decide)) rfl rfl (Nat.le_of_ble_eq_true rfl) wset_off (pu_bs_7 hi hn) dX5_makeStep_112 (fun H locs hW hS => ?_)
      refine lv_goto (tgt := 123) hx hb dX5_makeStep_115 (by decide) ?_
      have hf : fX5_makeStep n B a1 = (bput B_9 (3 + n) 7 (a1 + x_10)) := by
        subst ex_10
        subst eB_9
        subst ex_8
        subst ex_6
        subst eB_5
        subst ex_3
        subst eB_2
        subst ex_1
        exact (if_pos c_4).trans ((if_neg c_7).trans rfl)
      exact we_v hC hr hlocks (congrArg (wset Z i) hf).symm hW hS dX5_makeStep_123
  · skip
    refine lv_aload_n hx hb dX5_makeStep_45 rfl (lv_at hl 1 rfl) ?_
    refine lv_dup hx hb dX5_makeStep_46 rfl ?_
    refine wr_get hC hinRX5 hW (vBs hi hn) (ce_bs hi hn) rfl 3 (by decide) hk9 rfl dX5_makeStep_47 ?_
    refine lv_re (y := B (3 + n) 3) ((((congrFun (congrFun eB_2 _) _)).trans (bput_q (by decide))).trans (bput_q (by decide))) ?_
    refine lv_iload_n hx hb dX5_makeStep_50 rfl (lv_at hl 0 rfl) ?_
    refine lv_iadd hx hb dX5_makeStep_51 ?_
    refine wr_put (Z' := wset Z i (bput B_2 (3 + n) 3 ((B (3 + n) 3) + x_1))) (v := .int ((B (3 + n) 3) + x_1)) hC hinRX5 tyX5 tyX5_ok nmX5 hW hS (vBs hi hn) (ce_bs hi hn) rfl 3 (by decide) hk9 rfl (tyX5_ok 3 (by decide)) rfl rfl (Nat.le_of_ble_eq_true rfl) wset_off (pu_bs_3 hi hn) dX5_makeStep_52 (fun H locs hW hS => ?_)
    refine lv_goto (tgt := 68) hx hb dX5_makeStep_55 (by decide) ?_
    refine lv_aload_n hx hb dX5_makeStep_68 rfl (lv_at hl 1 rfl) ?_
    refine lv_dup hx hb dX5_makeStep_69 rfl ?_
    refine wr_get hC hinRX5 hW (vBs hi hn) (ce_bs hi hn) rfl 5 (by decide) hk7 rfl dX5_makeStep_70 ?_
    refine lv_re (y := B (3 + n) 5) ((((bput_q (by decide)).trans ((congrFun (congrFun eB_2 _) _))).trans (bput_q (by decide))).trans (bput_q (by decide))) ?_
    refine lv_iconst (v := 1) hx hb dX5_makeStep_73 (by decide) ?_
    refine lv_isub hx hb dX5_makeStep_74 ?_
    refine wr_put (Z' := wset Z i (bput (bput B_2 (3 + n) 3 ((B (3 + n) 3) + x_1)) (3 + n) 5 ((B (3 + n) 5) - 1))) (v := .int ((B (3 + n) 5) - 1)) hC hinRX5 tyX5 tyX5_ok nmX5 hW hS (vBs hi hn) (ce_bs hi hn) rfl 5 (by decide) hk7 rfl (tyX5_ok 5 (by decide)) rfl rfl (Nat.le_of_ble_eq_true rfl) wset_off (pu_bs_5 hi hn) dX5_makeStep_75 (fun H locs hW hS => ?_)
    refine lv_aload_n hx hb dX5_makeStep_78 rfl (lv_at hl 1 rfl) ?_
    obtain ⟨B_11, eB_11⟩ : ∃ y, y = (bput (bput B_2 (3 + n) 3 ((B (3 + n) 3) + x_1)) (3 + n) 5 ((B (3 + n) 5) - 1)) := ⟨_, rfl⟩
    rw [← eB_11] at hW
    refine wc_i hC hml (kX5_moves l G Z i hi n hn B_11) (cwV 0 hts gX5_makeStep_X5_moves rfl rfl rfl (by decide +kernel) ⟨Nat.le_of_ble_eq_true rfl, Nat.le_of_ble_eq_true rfl⟩) hW hS (vBs hi hn) (ce_bs hi hn) rfl rfl rfl rfl hl.1 (Nat.le_of_ble_eq_true rfl) dX5_makeStep_79 (fun H locs hW hS => ?_)
    refine lv_topi (fun x_12 ex_12 => ?_)
    refine lv_if_eq (tgt := 118) hx hb dX5_makeStep_82 (by decide) (fun c_13 => ?_) (fun c_13 => ?_)
    · skip
      refine lv_aload_n hx hb dX5_makeStep_118 rfl (lv_at hl 1 rfl) ?_
      refine lv_iconst (v := 0) hx hb dX5_makeStep_119 (by decide) ?_
      refine wr_put (Z' := wset Z i (bput B_11 (3 + n) 6 0)) (v := .int 0) hC hinRX5 tyX5 tyX5_ok nmX5 hW hS (vBs hi hn) (ce_bs hi hn) rfl 6 (by decide) hk4 rfl (tyX5_ok 6 (by decide)) rfl rfl (Nat.le_of_ble_eq_true rfl) wset_off (pu_bs_6 hi hn) dX5_makeStep_120 (fun H locs hW hS => ?_)
      have hf : fX5_makeStep n B a1 = (bput B_11 (3 + n) 6 0) := by
        subst ex_12
        subst eB_11
        subst ex_3
        subst eB_2
        subst ex_1
        exact (if_neg c_4).trans ((if_pos c_13).trans rfl)
      exact we_v hC hr hlocks (congrArg (wset Z i) hf).symm hW hS dX5_makeStep_123
    · skip
      refine lv_aload_n hx hb dX5_makeStep_85 rfl (lv_at hl 1 rfl) ?_
      refine lv_aload_n hx hb dX5_makeStep_86 rfl (lv_at hl 3 rfl) ?_
      refine lv_aload_n hx hb dX5_makeStep_87 rfl (lv_at hl 1 rfl) ?_
      refine wr_get hC hinRX5 hW (vBs hi hn) (ce_bs hi hn) rfl 6 (by decide) hk4 rfl dX5_makeStep_88 ?_
      refine lv_re (y := B (3 + n) 6) (((((((congrFun (congrFun eB_11 _) _)).trans (bput_q (by decide))).trans (bput_q (by decide))).trans ((congrFun (congrFun eB_2 _) _))).trans (bput_q (by decide))).trans (bput_q (by decide))) ?_
      refine lv_aload_n hx hb dX5_makeStep_91 rfl (lv_at hl 1 rfl) ?_
      refine wr_get hC hinRX5 hW (vBs hi hn) (ce_bs hi hn) rfl 5 (by decide) hk7 rfl dX5_makeStep_92 ?_
      refine lv_re (y := (B (3 + n) 5) - 1) (((congrFun (congrFun eB_11 _) _)).trans (bput_h)) ?_
      refine wc_i hC hml (kX3_levelAfter l G Z i hi B_11 (B (3 + n) 6) ((B (3 + n) 5) - 1)) (cwV 2 hts gX5_makeStep_X3_levelAfter rfl rfl rfl (by decide +kernel) ⟨Nat.le_of_ble_eq_true rfl, Nat.le_of_ble_eq_true rfl⟩) hW hS (vB hi (by decide)) (ce_b1 hi) rfl rfl rfl rfl hl.1 (Nat.le_of_ble_eq_true rfl) dX5_makeStep_95 (fun H locs hW hS => ?_)
      refine lv_topi (fun x_14 ex_14 => ?_)
      refine wr_put (Z' := wset Z i (bput B_11 (3 + n) 6 x_14)) (v := .int x_14) hC hinRX5 tyX5 tyX5_ok nmX5 hW hS (vBs hi hn) (ce_bs hi hn) rfl 6 (by decide) hk4 rfl (tyX5_ok 6 (by decide)) rfl rfl (Nat.le_of_ble_eq_true rfl) wset_off (pu_bs_6 hi hn) dX5_makeStep_98 (fun H locs hW hS => ?_)
      refine lv_aload_n hx hb dX5_makeStep_101 rfl (lv_at hl 1 rfl) ?_
      refine lv_iload_n hx hb dX5_makeStep_102 rfl (lv_at hl 2 rfl) ?_
      refine lv_aload_n hx hb dX5_makeStep_103 rfl (lv_at hl 3 rfl) ?_
      refine lv_aload_n hx hb dX5_makeStep_104 rfl (lv_at hl 1 rfl) ?_
      refine wr_get hC hinRX5 hW (vBs hi hn) (ce_bs hi hn) rfl 6 (by decide) hk4 rfl dX5_makeStep_105 ?_
      refine lv_re (y := x_14) (bput_h) ?_
      obtain ⟨B_15, eB_15⟩ : ∃ y, y = (bput B_11 (3 + n) 6 x_14) := ⟨_, rfl⟩
      rw [← eB_15] at hW
      refine wc_i hC hml (kX3_intervalOf l G Z i hi B_15 x_14) (cwV 1 hts gX5_makeStep_X3_intervalOf rfl rfl rfl (by decide +kernel) ⟨Nat.le_of_ble_eq_true rfl, Nat.le_of_ble_eq_true rfl⟩) hW hS (vB hi (by decide)) (ce_b1 hi) rfl rfl rfl rfl hl.1 (Nat.le_of_ble_eq_true rfl) dX5_makeStep_108 (fun H locs hW hS => ?_)
      refine lv_topi (fun x_16 ex_16 => ?_)
      refine lv_iadd hx hb dX5_makeStep_111 ?_
      refine wr_put (Z' := wset Z i (bput B_15 (3 + n) 7 (a1 + x_16))) (v := .int (a1 + x_16)) hC hinRX5 tyX5 tyX5_ok nmX5 hW hS (vBs hi hn) (ce_bs hi hn) rfl 7 (by decide) hk8 rfl (tyX5_ok 7 (by decide)) rfl rfl (Nat.le_of_ble_eq_true rfl) wset_off (pu_bs_7 hi hn) dX5_makeStep_112 (fun H locs hW hS => ?_)
      refine lv_goto (tgt := 123) hx hb dX5_makeStep_115 (by decide) ?_
      have hf : fX5_makeStep n B a1 = (bput B_15 (3 + n) 7 (a1 + x_16)) := by
        subst ex_16
        subst eB_15
        subst ex_14
        subst ex_12
        subst eB_11
        subst ex_3
        subst eB_2
        subst ex_1
        exact (if_neg c_4).trans ((if_neg c_13).trans rfl)
      exact we_v hC hr hlocks (congrArg (wset Z i) hf).symm hW hS dX5_makeStep_123

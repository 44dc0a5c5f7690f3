theorem ce_o {G : wG} {Z : wZ} {i i2 j : Nat} {B : wB} (h : i2 ≠ i) : wE G (wset Z i B) i2 j = wE G (wset Z i2 (Z i2)) i2 j := wE_c (by rw [wset_ne _ _ h, wset_self])
def LX3_tk (B : wB) : Nat → Int32 → Int32 → Int32
  | 0, x, _ => x
  | u + 1, x, y => LX3_tk B u (x + fX3_intervalOf B y) (fX3_levelAfter B y (nI u))
def fX3_ticksOf (B : wB) (N : Nat) : Int32 := LX3_tk B N 0 0
abbrev rX3_ticksOf : Room := { frames := 2, cells := 0, slots := 0, locals := 43 }
set_option maxHeartbeats 4000000 in
set_option maxRecDepth 100000 in
theorem kX3_ticksOf (l : Launch) (G : wG) (Z : wZ) (i : Nat) (hi : i < 11) (B : wB) (N : Nat) (hN : N < 2 ^ 31) : mI l yX3_ticksOf wsX3_ticksOf rX3_ticksOf G [.ref (G.2.2.1 i 1), .int (nI N)] (wset Z i B) (fX3_ticksOf B N) (wset Z i B) := by
  refine Met.ofW (cc := cX3_ticksOf) (maxL := 5) (ret := (some .int)) (by decide) rfl ?_
  intro p e s m args below meth c s₁ B0 hml hv
  obtain ⟨rfl, hW, hK, hL⟩ := hv
  have hlocks := B0.notSynchronized
  have hr := B0.returns
  have hC : wX p s m c cX3_ticksOf _ wsX3_ticksOf RX3 G := ⟨B0.exec, B0.bytes, findClass_of_methodNamed B0.named, atoms_spec (ws := wsX3_ticksOf) B0.pre, hK, hL⟩
  have hx := hC.1
  have hb := hC.2.1
  have hts := hC.2.2.2.1
  have hS : va_S (wA G) s.heap s.heap [] := va_S.rf
  have hl := lv_entry ([.ref (G.2.2.1 i 1), .int (nI N)]) (n := 5) (Nat.le_of_ble_eq_true rfl)
  rw [lg_entry_eq]
  generalize (lg_sl ([.ref (G.2.2.1 i 1), .int (nI N)]) ++ List.replicate (5 - (lg_sl ([.ref (G.2.2.1 i 1), .int (nI N)])).length) Slot.unset).toArray = ls at hl ⊢
  have hl : lv_has ls 5 [(0, .ref (G.2.2.1 i 1)), (1, .int (nI N))] := hl
  obtain ⟨R, hR⟩ : ∃ R, R = fX3_ticksOf B N := ⟨_, rfl⟩
  rw [← hR]
  unfold fX3_ticksOf at hR
  refine lv_iconst (v := 0) hx hb dX3_ticksOf_0 (by decide) ?_
  refine lv_istore_n (lv' := [(2, .int 0), (0, .ref (G.2.2.1 i 1)), (1, .int (nI N))]) hx hb dX3_ticksOf_1 rfl hl (by decide) rfl (fun ls hl => ?_)
  refine lv_iconst (v := 0) hx hb dX3_ticksOf_2 (by decide) ?_
  refine lv_istore_n (lv' := [(3, .int 0), (2, .int 0), (0, .ref (G.2.2.1 i 1)), (1, .int (nI N))]) hx hb dX3_ticksOf_3 rfl hl (by decide) rfl (fun ls hl => ?_)
  refine lv_iload_n hx hb dX3_ticksOf_4 rfl (lv_at hl 3 rfl) ?_
  refine lv_iconst (v := 1) hx hb dX3_ticksOf_5 (by decide) ?_
  refine lv_isub hx hb dX3_ticksOf_6 ?_
  refine lv_re (y := nI N + (-1)) (Int32.sub_eq_add_neg ..) ?_
  refine lv_istore (lv' := [(4, .int (nI N + (-1))), (3, .int 0), (2, .int 0), (0, .ref (G.2.2.1 i 1)), (1, .int (nI N))]) hx hb dX3_ticksOf_7 hl (by decide) rfl (fun ls hl => ?_)
  have hlp_1 : ∀ (u : Nat) (x : Int32) (y : Int32), (hu : u < 2 ^ 31) → R = LX3_tk B u x y → ∀ (H : Heap) (locs : List Loc) (ls : Array Slot), wW G (wset Z i B) H → va_S (wA G) s.heap H locs → lv_has ls 5 [(0, .ref (G.2.2.1 i 1)), (2, .int x), (3, .int y), (4, .int (nI u + (-1)))] → W p l e (headSpec wsX3_ticksOf rX3_ticksOf).room s m ([.ref (G.2.2.1 i 1), .int (nI N)] : List Value).toArray below meth c H locs 0 0 (qI below ([.ref (G.2.2.1 i 1), .int (nI N)] : List Value).toArray s G R (wset Z i B)) (F0 m 9 ls []) := by
    intro u
    induction u with
    | zero =>
      intro x y hu hR H locs ls hW hS hl
      simp only [LX3_tk] at hR
      refine lv_iload hx hb dX3_ticksOf_9 (lv_at hl 3 rfl) ?_
      refine lv_if_lt (tgt := 36) hx hb dX3_ticksOf_11 (by decide) (fun c_2 => ?_) (fun c_2 => ?_)
      · skip
        refine lv_iload_n hx hb dX3_ticksOf_36 rfl (lv_at hl 1 rfl) ?_
        exact we_i hC hr hlocks (v := x) (hR.symm) rfl hW hS dX3_ticksOf_37
      · exact absurd (show (nI 0 + (-1) : Int32) < 0 by decide) c_2
    | succ u ih =>
      intro x y hu hR H locs ls hW hS hl
      simp only [LX3_tk] at hR
      rw [pk_m1] at hl
      refine lv_iload hx hb dX3_ticksOf_9 (lv_at hl 3 rfl) ?_
      refine lv_if_lt (tgt := 36) hx hb dX3_ticksOf_11 (by decide) (fun c_3 => ?_) (fun c_3 => ?_)
      · exact absurd c_3 (nI_pos (by omega))
      · skip
        refine lv_iload_n hx hb dX3_ticksOf_14 rfl (lv_at hl 1 rfl) ?_
        refine lv_aload_n hx hb dX3_ticksOf_15 rfl (lv_at hl 0 rfl) ?_
        refine lv_iload_n hx hb dX3_ticksOf_16 rfl (lv_at hl 2 rfl) ?_
        refine wc_i hC hml (kX3_intervalOf l G Z i hi B y) (cwV 1 hts gX3_ticksOf_X3_intervalOf rfl rfl rfl (by decide +kernel) ⟨Nat.le_of_ble_eq_true rfl, Nat.le_of_ble_eq_true rfl⟩) hW hS (vB hi (by decide)) (ce_b1 hi) rfl rfl rfl rfl hl.1 (Nat.le_of_ble_eq_true rfl) dX3_ticksOf_17 (fun H locs hW hS => ?_)
        refine lv_topi (fun x_4 ex_4 => ?_)
        try rw [← ex_4] at hR
        refine lv_iadd hx hb dX3_ticksOf_20 ?_
        refine lv_topi (fun x_5 ex_5 => ?_)
        try rw [← ex_5] at hR
        refine lv_istore_n (lv' := [(2, .int x_5), (0, .ref (G.2.2.1 i 1)), (3, .int y), (4, .int (nI u))]) hx hb dX3_ticksOf_21 rfl hl (by decide) rfl (fun ls hl => ?_)
        refine lv_aload_n hx hb dX3_ticksOf_22 rfl (lv_at hl 1 rfl) ?_
        refine lv_iload_n hx hb dX3_ticksOf_23 rfl (lv_at hl 2 rfl) ?_
        refine lv_iload hx hb dX3_ticksOf_24 (lv_at hl 3 rfl) ?_
        refine wc_i hC hml (kX3_levelAfter l G Z i hi B y (nI u)) (cwV 2 hts gX3_ticksOf_X3_levelAfter rfl rfl rfl (by decide +kernel) ⟨Nat.le_of_ble_eq_true rfl, Nat.le_of_ble_eq_true rfl⟩) hW hS (vB hi (by decide)) (ce_b1 hi) rfl rfl rfl rfl hl.1 (Nat.le_of_ble_eq_true rfl) dX3_ticksOf_26 (fun H locs hW hS => ?_)
        refine lv_topi (fun x_6 ex_6 => ?_)
        try rw [← ex_6] at hR
        refine lv_istore_n (lv' := [(3, .int x_6), (2, .int x_5), (0, .ref (G.2.2.1 i 1)), (4, .int (nI u))]) hx hb dX3_ticksOf_29 rfl hl (by decide) rfl (fun ls hl => ?_)
        refine lv_iinc (v := (nI u) + (-1)) (lv' := [(4, .int ((nI u) + (-1))), (3, .int x_6), (2, .int x_5), (0, .ref (G.2.2.1 i 1))]) hx hb dX3_ticksOf_30 hl (k := 3) rfl (rfl) (by decide) rfl (fun ls hl => ?_)
        refine lv_goto (tgt := 9) hx hb dX3_ticksOf_33 (by decide) ?_
        exact ih x_5 x_6 (by omega) hR _ _ _ hW hS (lv_sub hl [3, 2, 1, 0] rfl)
  exact hlp_1 N 0 0 hN hR _ _ _ hW hS (lv_sub hl [3, 2, 1, 0] rfl)
def fX3_take (B C : wB) : wB :=
  (bput (bput (bput (bput (bput B 1 0 (C 1 0)) 1 1 (C 1 1)) 1 2 (C 1 2)) 1 3 (C 1 3)) 1 4 (C 1 4))
abbrev rX3_take : Room := { frames := 0, cells := 0, slots := 0, locals := 0 }
set_option maxHeartbeats 4000000 in
set_option maxRecDepth 100000 in
theorem kX3_take (l : Launch) (G : wG) (Z : wZ) (i : Nat) (hi : i < 11) (i2 : Nat) (hi2 : i2 < 11) (hne : i2 ≠ i) (B : wB)   : mV l yX3_take wsX3_take rX3_take G [.ref (G.2.2.1 i 1), .ref (G.2.2.1 i2 1)] (wset Z i B) (wset Z i (fX3_take B (Z i2))) := by
  refine Met.ofW (cc := cX3_take) (maxL := 2) (ret := none) (by decide) rfl ?_
  intro p e s m args below meth c s₁ B0 hml hv
  obtain ⟨rfl, hW, hK, hL⟩ := hv
  have hlocks := B0.notSynchronized
  have hr := B0.returns
  have hC : wX p s m c cX3_take _ wsX3_take RX3 G := ⟨B0.exec, B0.bytes, findClass_of_methodNamed B0.named, atoms_spec (ws := wsX3_take) B0.pre, hK, hL⟩
  have hx := hC.1
  have hb := hC.2.1
  have hts := hC.2.2.2.1
  have hinRX3 : ∀ w ∈ wsX30, w ∈ wsX3_take := by decide +kernel
  have hk0 := hts (.fieldLink RX3 9 "RampShafts$Ramp" "start" "I") (by decide +kernel)
  have hk1 := hts (.fieldLink RX3 15 "RampShafts$Ramp" "top" "I") (by decide +kernel)
  have hk2 := hts (.fieldLink RX3 18 "RampShafts$Ramp" "gain" "I") (by decide +kernel)
  have hk3 := hts (.fieldLink RX3 21 "RampShafts$Ramp" "grip" "I") (by decide +kernel)
  have hk4 := hts (.fieldLink RX3 24 "RampShafts$Ramp" "pull" "I") (by decide +kernel)
  have hS : va_S (wA G) s.heap s.heap [] := va_S.rf
  have hl := lv_entry ([.ref (G.2.2.1 i 1), .ref (G.2.2.1 i2 1)]) (n := 2) (Nat.le_of_ble_eq_true rfl)
  rw [lg_entry_eq]
  generalize (lg_sl ([.ref (G.2.2.1 i 1), .ref (G.2.2.1 i2 1)]) ++ List.replicate (2 - (lg_sl ([.ref (G.2.2.1 i 1), .ref (G.2.2.1 i2 1)])).length) Slot.unset).toArray = ls at hl ⊢
  have hl : lv_has ls 2 [(0, .ref (G.2.2.1 i 1)), (1, .ref (G.2.2.1 i2 1))] := hl
  refine lv_aload_n hx hb dX3_take_0 rfl (lv_at hl 0 rfl) ?_
  refine lv_aload_n hx hb dX3_take_1 rfl (lv_at hl 1 rfl) ?_
  refine wr_get hC hinRX3 hW (vB hi2 (by decide)) ((ce_o hne).trans (ce_b1 hi2)) rfl 0 (by decide) hk0 rfl dX3_take_2 ?_
  refine wr_put (Z' := wset Z i (bput B 1 0 ((Z i2) 1 0))) (v := .int ((Z i2) 1 0)) hC hinRX3 tyX3 tyX3_ok nmX3 hW hS (vB hi (by decide)) (ce_b1 hi) rfl 0 (by decide) hk0 rfl (tyX3_ok 0 (by decide)) rfl rfl (Nat.le_of_ble_eq_true rfl) wset_off (pu_b1_0 hi) dX3_take_5 (fun H locs hW hS => ?_)
  refine lv_aload_n hx hb dX3_take_8 rfl (lv_at hl 0 rfl) ?_
  refine lv_aload_n hx hb dX3_take_9 rfl (lv_at hl 1 rfl) ?_
  refine wr_get hC hinRX3 hW (vB hi2 (by decide)) ((ce_o hne).trans (ce_b1 hi2)) rfl 1 (by decide) hk1 rfl dX3_take_10 ?_
  refine wr_put (Z' := wset Z i (bput (bput B 1 0 ((Z i2) 1 0)) 1 1 ((Z i2) 1 1))) (v := .int ((Z i2) 1 1)) hC hinRX3 tyX3 tyX3_ok nmX3 hW hS (vB hi (by decide)) (ce_b1 hi) rfl 1 (by decide) hk1 rfl (tyX3_ok 1 (by decide)) rfl rfl (Nat.le_of_ble_eq_true rfl) wset_off (pu_b1_1 hi) dX3_take_13 (fun H locs hW hS => ?_)
  refine lv_aload_n hx hb dX3_take_16 rfl (lv_at hl 0 rfl) ?_
  refine lv_aload_n hx hb dX3_take_17 rfl (lv_at hl 1 rfl) ?_
  refine wr_get hC hinRX3 hW (vB hi2 (by decide)) ((ce_o hne).trans (ce_b1 hi2)) rfl 2 (by decide) hk2 rfl dX3_take_18 ?_
  refine wr_put (Z' := wset Z i (bput (bput (bput B 1 0 ((Z i2) 1 0)) 1 1 ((Z i2) 1 1)) 1 2 ((Z i2) 1 2))) (v := .int ((Z i2) 1 2)) hC hinRX3 tyX3 tyX3_ok nmX3 hW hS (vB hi (by decide)) (ce_b1 hi) rfl 2 (by decide) hk2 rfl (tyX3_ok 2 (by decide)) rfl rfl (Nat.le_of_ble_eq_true rfl) wset_off (pu_b1_2 hi) dX3_take_21 (fun H locs hW hS => ?_)
  refine lv_aload_n hx hb dX3_take_24 rfl (lv_at hl 0 rfl) ?_
  refine lv_aload_n hx hb dX3_take_25 rfl (lv_at hl 1 rfl) ?_
  refine wr_get hC hinRX3 hW (vB hi2 (by decide)) ((ce_o hne).trans (ce_b1 hi2)) rfl 3 (by decide) hk3 rfl dX3_take_26 ?_
  refine wr_put (Z' := wset Z i (bput (bput (bput (bput B 1 0 ((Z i2) 1 0)) 1 1 ((Z i2) 1 1)) 1 2 ((Z i2) 1 2)) 1 3 ((Z i2) 1 3))) (v := .int ((Z i2) 1 3)) hC hinRX3 tyX3 tyX3_ok nmX3 hW hS (vB hi (by decide)) (ce_b1 hi) rfl 3 (by decide) hk3 rfl (tyX3_ok 3 (by decide)) rfl rfl (Nat.le_of_ble_eq_true rfl) wset_off (pu_b1_3 hi) dX3_take_29 (fun H locs hW hS => ?_)
  refine lv_aload_n hx hb dX3_take_32 rfl (lv_at hl 0 rfl) ?_
  refine lv_aload_n hx hb dX3_take_33 rfl (lv_at hl 1 rfl) ?_
  refine wr_get hC hinRX3 hW (vB hi2 (by decide)) ((ce_o hne).trans (ce_b1 hi2)) rfl 4 (by decide) hk4 rfl dX3_take_34 ?_
  refine wr_put (Z' := wset Z i (bput (bput (bput (bput (bput B 1 0 ((Z i2) 1 0)) 1 1 ((Z i2) 1 1)) 1 2 ((Z i2) 1 2)) 1 3 ((Z i2) 1 3)) 1 4 ((Z i2) 1 4))) (v := .int ((Z i2) 1 4)) hC hinRX3 tyX3 tyX3_ok nmX3 hW hS (vB hi (by decide)) (ce_b1 hi) rfl 4 (by decide) hk4 rfl (tyX3_ok 4 (by decide)) rfl rfl (Nat.le_of_ble_eq_true rfl) wset_off (pu_b1_4 hi) dX3_take_37 (fun H locs hW hS => ?_)
  have hf : fX3_take B (Z i2) = (bput (bput (bput (bput (bput B 1 0 ((Z i2) 1 0)) 1 1 ((Z i2) 1 1)) 1 2 ((Z i2) 1 2)) 1 3 ((Z i2) 1 3)) 1 4 ((Z i2) 1 4)) := rfl
  exact we_v hC hr hlocks (congrArg (wset Z i) hf).symm hW hS dX3_take_40
def fX5_take (n : Nat) (B C : wB) : wB :=
  (bput (bput (bput (bput (bput (bput (bput (bput (bput (bput (bput (bput (bput (bput B (3 + n) 0 (C (3 + n) 0)) (3 + n) 1 (C (3 + n) 1)) (3 + n) 2 (C (3 + n) 2)) (3 + n) 3 (C (3 + n) 3)) (3 + n) 4 (C (3 + n) 4)) (3 + n) 5 (C (3 + n) 5)) (3 + n) 6 (C (3 + n) 6)) (3 + n) 7 (C (3 + n) 7)) (3 + n) 8 (C (3 + n) 8)) (3 + n) 9 (C (3 + n) 9)) (3 + n) 10 (C (3 + n) 10)) (7 + n) 0 (C (7 + n) 0)) (7 + n) 1 (C (7 + n) 1)) (7 + n) 2 (C (7 + n) 2))
abbrev rX5_take : Room := { frames := 0, cells := 0, slots := 0, locals := 0 }
set_option maxHeartbeats 4000000 in
set_option maxRecDepth 100000 in
theorem kX5_take (l : Launch) (G : wG) (Z : wZ) (i : Nat) (hi : i < 11) (i2 : Nat) (hi2 : i2 < 11) (hne : i2 ≠ i) (n : Nat) (hn : n < 4) (B : wB)   : mV l yX5_take wsX5_take rX5_take G [.ref (G.2.2.1 i (3 + n)), .ref (G.2.2.1 i2 (3 + n))] (wset Z i B) (wset Z i (fX5_take n B (Z i2))) := by
  refine Met.ofW (cc := cX5_take) (maxL := 3) (ret := none) (by decide) rfl ?_
  intro p e s m args below meth c s₁ B0 hml hv
  obtain ⟨rfl, hW, hK, hL⟩ := hv
  have hlocks := B0.notSynchronized
  have hr := B0.returns
  have hC : wX p s m c cX5_take _ wsX5_take RX5 G := ⟨B0.exec, B0.bytes, findClass_of_methodNamed B0.named, atoms_spec (ws := wsX5_take) B0.pre, hK, hL⟩
  have hx := hC.1
  have hb := hC.2.1
  have hts := hC.2.2.2.1
  have hinRX5 : ∀ w ∈ wsX50, w ∈ wsX5_take := by decide +kernel
  have hk0 := hts (.fieldLink RX5 15 "RampShafts$Shaft" "micro" "I") (by decide +kernel)
  have hk1 := hts (.fieldLink RX5 19 "RampShafts$Shaft" "load" "I") (by decide +kernel)
  have hk2 := hts (.fieldLink RX5 22 "RampShafts$Shaft" "says" "I") (by decide +kernel)
  have hk3 := hts (.fieldLink RX5 25 "RampShafts$Shaft" "stands" "I") (by decide +kernel)
  have hk4 := hts (.fieldLink RX5 28 "RampShafts$Shaft" "way" "I") (by decide +kernel)
  have hk5 := hts (.fieldLink RX5 31 "RampShafts$Shaft" "left" "I") (by decide +kernel)
  have hk6 := hts (.fieldLink RX5 34 "RampShafts$Shaft" "level" "I") (by decide +kernel)
  have hk7 := hts (.fieldLink RX5 37 "RampShafts$Shaft" "next" "I") (by decide +kernel)
  have hk8 := hts (.fieldLink RX5 40 "RampShafts$Shaft" "steps" "I") (by decide +kernel)
  have hk9 := hts (.fieldLink RX5 43 "RampShafts$Shaft" "lost" "I") (by decide +kernel)
  have hk10 := hts (.fieldLink RX5 46 "RampShafts$Shaft" "waitCount" "I") (by decide +kernel)
  have hk11 := hts (.fieldLink RX5 9 "RampShafts$Shaft" "waits" "[I") (by decide +kernel)
  have hS : va_S (wA G) s.heap s.heap [] := va_S.rf
  have hl := lv_entry ([.ref (G.2.2.1 i (3 + n)), .ref (G.2.2.1 i2 (3 + n))]) (n := 3) (Nat.le_of_ble_eq_true rfl)
  rw [lg_entry_eq]
  generalize (lg_sl ([.ref (G.2.2.1 i (3 + n)), .ref (G.2.2.1 i2 (3 + n))]) ++ List.replicate (3 - (lg_sl ([.ref (G.2.2.1 i (3 + n)), .ref (G.2.2.1 i2 (3 + n))])).length) Slot.unset).toArray = ls at hl ⊢
  have hl : lv_has ls 3 [(0, .ref (G.2.2.1 i (3 + n))), (1, .ref (G.2.2.1 i2 (3 + n)))] := hl
  refine lv_aload_n hx hb dX5_take_0 rfl (lv_at hl 0 rfl) ?_
  refine lv_aload_n hx hb dX5_take_1 rfl (lv_at hl 1 rfl) ?_
  refine wr_get hC hinRX5 hW (vBs hi2 hn) ((ce_o hne).trans (ce_bs hi2 hn)) rfl 0 (by decide) hk0 rfl dX5_take_2 ?_
  refine wr_put (Z' := wset Z i (bput B (3 + n) 0 ((Z i2) (3 + n) 0))) (v := .int ((Z i2) (3 + n) 0)) hC hinRX5 tyX5 tyX5_ok nmX5 hW hS (vBs hi hn) (ce_bs hi hn) rfl 0 (by decide) hk0 rfl (tyX5_ok 0 (by decide)) rfl rfl (Nat.le_of_ble_eq_true rfl) wset_off (pu_bs_0 hi hn) dX5_take_5 (fun H locs hW hS => ?_)
  refine lv_aload_n hx hb dX5_take_8 rfl (lv_at hl 0 rfl) ?_
  refine lv_aload_n hx hb dX5_take_9 rfl (lv_at hl 1 rfl) ?_
  refine wr_get hC hinRX5 hW (vBs hi2 hn) ((ce_o hne).trans (ce_bs hi2 hn)) rfl 1 (by decide) hk1 rfl dX5_take_10 ?_
  refine wr_put (Z' := wset Z i (bput (bput B (3 + n) 0 ((Z i2) (3 + n) 0)) (3 + n) 1 ((Z i2) (3 + n) 1))) (v := .int ((Z i2) (3 + n) 1)) hC hinRX5 tyX5 tyX5_ok nmX5 hW hS (vBs hi hn) (ce_bs hi hn) rfl 1 (by decide) hk1 rfl (tyX5_ok 1 (by decide)) rfl rfl (Nat.le_of_ble_eq_true rfl) wset_off (pu_bs_1 hi hn) dX5_take_13 (fun H locs hW hS => ?_)
  refine lv_aload_n hx hb dX5_take_16 rfl (lv_at hl 0 rfl) ?_
  refine lv_aload_n hx hb dX5_take_17 rfl (lv_at hl 1 rfl) ?_
  refine wr_get hC hinRX5 hW (vBs hi2 hn) ((ce_o hne).trans (ce_bs hi2 hn)) rfl 2 (by decide) hk2 rfl dX5_take_18 ?_
  refine wr_put (Z' := wset Z i (bput (bput (bput B (3 + n) 0 ((Z i2) (3 + n) 0)) (3 + n) 1 ((Z i2) (3 + n) 1)) (3 + n) 2 ((Z i2) (3 + n) 2))) (v := .int ((Z i2) (3 + n) 2)) hC hinRX5 tyX5 tyX5_ok nmX5 hW hS (vBs hi hn) (ce_bs hi hn) rfl 2 (by decide) hk2 rfl (tyX5_ok 2 (by decide)) rfl rfl (Nat.le_of_ble_eq_true rfl) wset_off (pu_bs_2 hi hn) dX5_take_21 (fun H locs hW hS => ?_)
  refine lv_aload_n hx hb dX5_take_24 rfl (lv_at hl 0 rfl) ?_
  refine lv_aload_n hx hb dX5_take_25 rfl (lv_at hl 1 rfl) ?_
  refine wr_get hC hinRX5 hW (vBs hi2 hn) ((ce_o hne).trans (ce_bs hi2 hn)) rfl 3 (by decide) hk3 rfl dX5_take_26 ?_
  refine wr_put (Z' := wset Z i (bput (bput (bput (bput B (3 + n) 0 ((Z i2) (3 + n) 0)) (3 + n) 1 ((Z i2) (3 + n) 1)) (3 + n) 2 ((Z i2) (3 + n) 2)) (3 + n) 3 ((Z i2) (3 + n) 3))) (v := .int ((Z i2) (3 + n) 3)) hC hinRX5 tyX5 tyX5_ok nmX5 hW hS (vBs hi hn) (ce_bs hi hn) rfl 3 (by decide) hk3 rfl (tyX5_ok 3 (by decide)) rfl rfl (Nat.le_of_ble_eq_true rfl) wset_off (pu_bs_3 hi hn) dX5_take_29 (fun H locs hW hS => ?_)
  refine lv_aload_n hx hb dX5_take_32 rfl (lv_at hl 0 rfl) ?_
  refine lv_aload_n hx hb dX5_take_33 rfl (lv_at hl 1 rfl) ?_
  refine wr_get hC hinRX5 hW (vBs hi2 hn) ((ce_o hne).trans (ce_bs hi2 hn)) rfl 4 (by decide) hk4 rfl dX5_take_34 ?_
  refine wr_put (Z' := wset Z i (bput (bput (bput (bput (bput B (3 + n) 0 ((Z i2) (3 + n) 0)) (3 + n) 1 ((Z i2) (3 + n) 1)) (3 + n) 2 ((Z i2) (3 + n) 2)) (3 + n) 3 ((Z i2) (3 + n) 3)) (3 + n) 4 ((Z i2) (3 + n) 4))) (v := .int ((Z i2) (3 + n) 4)) hC hinRX5 tyX5 tyX5_ok nmX5 hW hS (vBs hi hn) (ce_bs hi hn) rfl 4 (by decide) hk4 rfl (tyX5_ok 4 (by decide)) rfl rfl (Nat.le_of_ble_eq_true rfl) wset_off (pu_bs_4 hi hn) dX5_take_37 (fun H locs hW hS => ?_)
  refine lv_aload_n hx hb dX5_take_40 rfl (lv_at hl 0 rfl) ?_
  refine lv_aload_n hx hb dX5_take_41 rfl (lv_at hl 1 rfl) ?_
  refine wr_get hC hinRX5 hW (vBs hi2 hn) ((ce_o hne).trans (ce_bs hi2 hn)) rfl 5 (by decide) hk5 rfl dX5_take_42 ?_
  refine wr_put (Z' := wset Z i (bput (bput (bput (bput (bput (bput B (3 + n) 0 ((Z i2) (3 + n) 0)) (3 + n) 1 ((Z i2) (3 + n) 1)) (3 + n) 2 ((Z i2) (3 + n) 2)) (3 + n) 3 ((Z i2) (3 + n) 3)) (3 + n) 4 ((Z i2) (3 + n) 4)) (3 + n) 5 ((Z i2) (3 + n) 5))) (v := .int ((Z i2) (3 + n) 5)) hC hinRX5 tyX5 tyX5_ok nmX5 hW hS (vBs hi hn) (ce_bs hi hn) rfl 5 (by decide) hk5 rfl (tyX5_ok 5 (by decide)) rfl rfl (Nat.le_of_ble_eq_true rfl) wset_off (pu_bs_5 hi hn) dX5_take_45 (fun H locs hW hS => ?_)
  refine lv_aload_n hx hb dX5_take_48 rfl (lv_at hl 0 rfl) ?_
  refine lv_aload_n hx hb dX5_take_49 rfl (lv_at hl 1 rfl) ?_
  refine wr_get hC hinRX5 hW (vBs hi2 hn) ((ce_o hne).trans (ce_bs hi2 hn)) rfl 6 (by decide) hk6 rfl dX5_take_50 ?_
  refine wr_put (Z' := wset Z i (bput (bput (bput (bput (bput (bput (bput B (3 + n) 0 ((Z i2) (3 + n) 0)) (3 + n) 1 ((Z i2) (3 + n) 1)) (3 + n) 2 ((Z i2) (3 + n) 2)) (3 + n) 3 ((Z i2) (3 + n) 3)) (3 + n) 4 ((Z i2) (3 + n) 4)) (3 + n) 5 ((Z i2) (3 + n) 5)) (3 + n) 6 ((Z i2) (3 + n) 6))) (v := .int ((Z i2) (3 + n) 6)) hC hinRX5 tyX5 tyX5_ok nmX5 hW hS (vBs hi hn) (ce_bs hi hn) rfl 6 (by decide) hk6 rfl (tyX5_ok 6 (by decide)) rfl rfl (Nat.le_of_ble_eq_true rfl) wset_off (pu_bs_6 hi hn) dX5_take_53 (fun H locs hW hS => ?_)
  refine lv_aload_n hx hb dX5_take_56 rfl (lv_at hl 0 rfl) ?_
  refine lv_aload_n hx hb dX5_take_57 rfl (lv_at hl 1 rfl) ?_
  refine wr_get hC hinRX5 hW (vBs hi2 hn) ((ce_o hne).trans (ce_bs hi2 hn)) rfl 7 (by decide) hk7 rfl dX5_take_58 ?_
  refine wr_put (Z' := wset Z i (bput (bput (bput (bput (bput (bput (bput (bput B (3 + n) 0 ((Z i2) (3 + n) 0)) (3 + n) 1 ((Z i2) (3 + n) 1)) (3 + n) 2 ((Z i2) (3 + n) 2)) (3 + n) 3 ((Z i2) (3 + n) 3)) (3 + n) 4 ((Z i2) (3 + n) 4)) (3 + n) 5 ((Z i2) (3 + n) 5)) (3 + n) 6 ((Z i2) (3 + n) 6)) (3 + n) 7 ((Z i2) (3 + n) 7))) (v := .int ((Z i2) (3 + n) 7)) hC hinRX5 tyX5 tyX5_ok nmX5 hW hS (vBs hi hn) (ce_bs hi hn) rfl 7 (by decide) hk7 rfl (tyX5_ok 7 (by decide)) rfl rfl (Nat.le_of_ble_eq_true rfl) wset_off (pu_bs_7 hi hn) dX5_take_61 (fun H locs hW hS => ?_)
  refine lv_aload_n hx hb dX5_take_64 rfl (lv_at hl 0 rfl) ?_
  refine lv_aload_n hx hb dX5_take_65 rfl (lv_at hl 1 rfl) ?_
  refine wr_get hC hinRX5 hW (vBs hi2 hn) ((ce_o hne).trans (ce_bs hi2 hn)) rfl 8 (by decide) hk8 rfl dX5_take_66 ?_
  refine wr_put (Z' := wset Z i (bput (bput (bput (bput (bput (bput (bput (bput (bput B (3 + n) 0 ((Z i2) (3 + n) 0)) (3 + n) 1 ((Z i2) (3 + n) 1)) (3 + n) 2 ((Z i2) (3 + n) 2)) (3 + n) 3 ((Z i2) (3 + n) 3)) (3 + n) 4 ((Z i2) (3 + n) 4)) (3 + n) 5 ((Z i2) (3 + n) 5)) (3 + n) 6 ((Z i2) (3 + n) 6)) (3 + n) 7 ((Z i2) (3 + n) 7)) (3 + n) 8 ((Z i2) (3 + n) 8))) (v := .int ((Z i2) (3 + n) 8)) hC hinRX5 tyX5 tyX5_ok nmX5 hW hS (vBs hi hn) (ce_bs hi hn) rfl 8 (by decide) hk8 rfl (tyX5_ok 8 (by decide)) rfl rfl (Nat.le_of_ble_eq_true rfl) wset_off (pu_bs_8 hi hn) dX5_take_69 (fun H locs hW hS => ?_)
  refine lv_aload_n hx hb dX5_take_72 rfl (lv_at hl 0 rfl) ?_
  refine lv_aload_n hx hb dX5_take_73 rfl (lv_at hl 1 rfl) ?_
  refine wr_get hC hinRX5 hW (vBs hi2 hn) ((ce_o hne).trans (ce_bs hi2 hn)) rfl 9 (by decide) hk9 rfl dX5_take_74 ?_
  refine wr_put (Z' := wset Z i (bput (bput (bput (bput (bput (bput (bput (bput (bput (bput B (3 + n) 0 ((Z i2) (3 + n) 0)) (3 + n) 1 ((Z i2) (3 + n) 1)) (3 + n) 2 ((Z i2) (3 + n) 2)) (3 + n) 3 ((Z i2) (3 + n) 3)) (3 + n) 4 ((Z i2) (3 + n) 4)) (3 + n) 5 ((Z i2) (3 + n) 5)) (3 + n) 6 ((Z i2) (3 + n) 6)) (3 + n) 7 ((Z i2) (3 + n) 7)) (3 + n) 8 ((Z i2) (3 + n) 8)) (3 + n) 9 ((Z i2) (3 + n) 9))) (v := .int ((Z i2) (3 + n) 9)) hC hinRX5 tyX5 tyX5_ok nmX5 hW hS (vBs hi hn) (ce_bs hi hn) rfl 9 (by decide) hk9 rfl (tyX5_ok 9 (by decide)) rfl rfl (Nat.le_of_ble_eq_true rfl) wset_off (pu_bs_9 hi hn) dX5_take_77 (fun H locs hW hS => ?_)
  refine lv_aload_n hx hb dX5_take_80 rfl (lv_at hl 0 rfl) ?_
  refine lv_aload_n hx hb dX5_take_81 rfl (lv_at hl 1 rfl) ?_
  refine wr_get hC hinRX5 hW (vBs hi2 hn) ((ce_o hne).trans (ce_bs hi2 hn)) rfl 10 (by decide) hk10 rfl dX5_take_82 ?_
  refine wr_put (Z' := wset Z i (bput (bput (bput (bput (bput (bput (bput (bput (bput (bput (bput B (3 + n) 0 ((Z i2) (3 + n) 0)) (3 + n) 1 ((Z i2) (3 + n) 1)) (3 + n) 2 ((Z i2) (3 + n) 2)) (3 + n) 3 ((Z i2) (3 + n) 3)) (3 + n) 4 ((Z i2) (3 + n) 4)) (3 + n) 5 ((Z i2) (3 + n) 5)) (3 + n) 6 ((Z i2) (3 + n) 6)) (3 + n) 7 ((Z i2) (3 + n) 7)) (3 + n) 8 ((Z i2) (3 + n) 8)) (3 + n) 9 ((Z i2) (3 + n) 9)) (3 + n) 10 ((Z i2) (3 + n) 10))) (v := .int ((Z i2) (3 + n) 10)) hC hinRX5 tyX5 tyX5_ok nmX5 hW hS (vBs hi hn) (ce_bs hi hn) rfl 10 (by decide) hk10 rfl (tyX5_ok 10 (by decide)) rfl rfl (Nat.le_of_ble_eq_true rfl) wset_off (pu_bs_10 hi hn) dX5_take_85 (fun H locs hW hS => ?_)
  refine lv_iconst (v := 0) hx hb dX5_take_88 (by decide) ?_
  refine lv_istore_n (lv' := [(2, .int 0), (0, .ref (G.2.2.1 i (3 + n))), (1, .ref (G.2.2.1 i2 (3 + n)))]) hx hb dX5_take_89 rfl hl (by decide) rfl (fun ls hl => ?_)
  refine lv_iload_n hx hb dX5_take_90 rfl (lv_at hl 0 rfl) ?_
  refine lv_iconst (v := 3) hx hb dX5_take_91 (by decide) ?_
  refine lv_icmp_ge (tgt := 113) hx hb dX5_take_92 (by decide) (fun c_1 => ?_) (fun c_1 => ?_)
  · exact absurd c_1 (by decide)
  · skip
    refine lv_aload_n hx hb dX5_take_95 rfl (lv_at hl 1 rfl) ?_
    refine wr_get hC hinRX5 hW (vBs hi hn) (ce_bs hi hn) rfl 11 (by decide) hk11 rfl dX5_take_96 ?_
    refine lv_iload_n hx hb dX5_take_99 rfl (lv_at hl 0 rfl) ?_
    refine lv_aload_n hx hb dX5_take_100 rfl (lv_at hl 2 rfl) ?_
    refine wr_get hC hinRX5 hW (vBs hi2 hn) ((ce_o hne).trans (ce_bs hi2 hn)) rfl 11 (by decide) hk11 rfl dX5_take_101 ?_
    refine lv_iload_n hx hb dX5_take_104 rfl (lv_at hl 0 rfl) ?_
    refine wr_ald (kA := 0) hC hW (vBw hi2 hn) ((ce_o hne).trans (ce_bw hi2 hn)) rfl (vp_in_iff.mpr (by decide)) dX5_take_105 ?_
    refine lv_re (y := (Z i2) (7 + n) 0) ((congrArg ((Z i2) (7 + n)) (show (0 : Int32).toNatClampNeg = 0 by decide))) ?_
    refine wr_ast (kA := 0) (Z' := wset Z i (bput (bput (bput (bput (bput (bput (bput (bput (bput (bput (bput (bput B (3 + n) 0 ((Z i2) (3 + n) 0)) (3 + n) 1 ((Z i2) (3 + n) 1)) (3 + n) 2 ((Z i2) (3 + n) 2)) (3 + n) 3 ((Z i2) (3 + n) 3)) (3 + n) 4 ((Z i2) (3 + n) 4)) (3 + n) 5 ((Z i2) (3 + n) 5)) (3 + n) 6 ((Z i2) (3 + n) 6)) (3 + n) 7 ((Z i2) (3 + n) 7)) (3 + n) 8 ((Z i2) (3 + n) 8)) (3 + n) 9 ((Z i2) (3 + n) 9)) (3 + n) 10 ((Z i2) (3 + n) 10)) (7 + n) (0 : Int32).toNatClampNeg ((Z i2) (7 + n) 0))) hC hW hS (vBw hi hn) (ce_bw hi hn) rfl (vp_in_iff.mpr (by decide)) wset_off (pu_bw hi hn) dX5_take_106 (fun H locs hW hS => ?_)
    have hW : wW G (wset Z i (bput (bput (bput (bput (bput (bput (bput (bput (bput (bput (bput (bput B (3 + n) 0 ((Z i2) (3 + n) 0)) (3 + n) 1 ((Z i2) (3 + n) 1)) (3 + n) 2 ((Z i2) (3 + n) 2)) (3 + n) 3 ((Z i2) (3 + n) 3)) (3 + n) 4 ((Z i2) (3 + n) 4)) (3 + n) 5 ((Z i2) (3 + n) 5)) (3 + n) 6 ((Z i2) (3 + n) 6)) (3 + n) 7 ((Z i2) (3 + n) 7)) (3 + n) 8 ((Z i2) (3 + n) 8)) (3 + n) 9 ((Z i2) (3 + n) 9)) (3 + n) 10 ((Z i2) (3 + n) 10)) (7 + n) 0 ((Z i2) (7 + n) 0))) H := hW
    refine lv_iinc (v := 1) (lv' := [(2, .int 1), (0, .ref (G.2.2.1 i (3 + n))), (1, .ref (G.2.2.1 i2 (3 + n)))]) hx hb dX5_take_107 hl (k := 0) rfl (by decide) (by decide) rfl (fun ls hl => ?_)
    refine lv_goto (tgt := 90) hx hb dX5_take_110 (by decide) ?_
    refine lv_iload_n hx hb dX5_take_90 rfl (lv_at hl 0 rfl) ?_
    refine lv_iconst (v := 3) hx hb dX5_take_91 (by decide) ?_
    refine lv_icmp_ge (tgt := 113) hx hb dX5_take_92 (by decide) (fun c_2 => ?_) (fun c_2 => ?_)
    · exact absurd c_2 (by decide)
    · skip
      refine lv_aload_n hx hb dX5_take_95 rfl (lv_at hl 1 rfl) ?_
      refine wr_get hC hinRX5 hW (vBs hi hn) (ce_bs hi hn) rfl 11 (by decide) hk11 rfl dX5_take_96 ?_
      refine lv_iload_n hx hb dX5_take_99 rfl (lv_at hl 0 rfl) ?_
      refine lv_aload_n hx hb dX5_take_100 rfl (lv_at hl 2 rfl) ?_
      refine wr_get hC hinRX5 hW (vBs hi2 hn) ((ce_o hne).trans (ce_bs hi2 hn)) rfl 11 (by decide) hk11 rfl dX5_take_101 ?_
      refine lv_iload_n hx hb dX5_take_104 rfl (lv_at hl 0 rfl) ?_
      refine wr_ald (kA := 0) hC hW (vBw hi2 hn) ((ce_o hne).trans (ce_bw hi2 hn)) rfl (vp_in_iff.mpr (by decide)) dX5_take_105 ?_
      refine lv_re (y := (Z i2) (7 + n) 1) ((congrArg ((Z i2) (7 + n)) (show (1 : Int32).toNatClampNeg = 1 by decide))) ?_
      refine wr_ast (kA := 0) (Z' := wset Z i (bput (bput (bput (bput (bput (bput (bput (bput (bput (bput (bput (bput (bput B (3 + n) 0 ((Z i2) (3 + n) 0)) (3 + n) 1 ((Z i2) (3 + n) 1)) (3 + n) 2 ((Z i2) (3 + n) 2)) (3 + n) 3 ((Z i2) (3 + n) 3)) (3 + n) 4 ((Z i2) (3 + n) 4)) (3 + n) 5 ((Z i2) (3 + n) 5)) (3 + n) 6 ((Z i2) (3 + n) 6)) (3 + n) 7 ((Z i2) (3 + n) 7)) (3 + n) 8 ((Z i2) (3 + n) 8)) (3 + n) 9 ((Z i2) (3 + n) 9)) (3 + n) 10 ((Z i2) (3 + n) 10)) (7 + n) 0 ((Z i2) (7 + n) 0)) (7 + n) (1 : Int32).toNatClampNeg ((Z i2) (7 + n) 1))) hC hW hS (vBw hi hn) (ce_bw hi hn) rfl (vp_in_iff.mpr (by decide)) wset_off (pu_bw hi hn) dX5_take_106 (fun H locs hW hS => ?_)
      have hW : wW G (wset Z i (bput (bput (bput (bput (bput (bput (bput (bput (bput (bput (bput (bput (bput B (3 + n) 0 ((Z i2) (3 + n) 0)) (3 + n) 1 ((Z i2) (3 + n) 1)) (3 + n) 2 ((Z i2) (3 + n) 2)) (3 + n) 3 ((Z i2) (3 + n) 3)) (3 + n) 4 ((Z i2) (3 + n) 4)) (3 + n) 5 ((Z i2) (3 + n) 5)) (3 + n) 6 ((Z i2) (3 + n) 6)) (3 + n) 7 ((Z i2) (3 + n) 7)) (3 + n) 8 ((Z i2) (3 + n) 8)) (3 + n) 9 ((Z i2) (3 + n) 9)) (3 + n) 10 ((Z i2) (3 + n) 10)) (7 + n) 0 ((Z i2) (7 + n) 0)) (7 + n) 1 ((Z i2) (7 + n) 1))) H := hW
      refine lv_iinc (v := 2) (lv' := [(2, .int 2), (0, .ref (G.2.2.1 i (3 + n))), (1, .ref (G.2.2.1 i2 (3 + n)))]) hx hb dX5_take_107 hl (k := 0) rfl (by decide) (by decide) rfl (fun ls hl => ?_)
      refine lv_goto (tgt := 90) hx hb dX5_take_110 (by decide) ?_
      refine lv_iload_n hx hb dX5_take_90 rfl (lv_at hl 0 rfl) ?_
      refine lv_iconst (v := 3) hx hb dX5_take_91 (by decide) ?_
      refine lv_icmp_ge (tgt := 113) hx hb dX5_take_92 (by decide) (fun c_3 => ?_) (fun c_3 => ?_)
      · exact absurd c_3 (by decide)
      · skip
        refine lv_aload_n hx hb dX5_take_95 rfl (lv_at hl 1 rfl) ?_
        refine wr_get hC hinRX5 hW (vBs hi hn) (ce_bs hi hn) rfl 11 (by decide) hk11 rfl dX5_take_96 ?_
        refine lv_iload_n hx hb dX5_take_99 rfl (lv_at hl 0 rfl) ?_
        refine lv_aload_n hx hb dX5_take_100 rfl (lv_at hl 2 rfl) ?_
        refine wr_get hC hinRX5 hW (vBs hi2 hn) ((ce_o hne).trans (ce_bs hi2 hn)) rfl 11 (by decide) hk11 rfl dX5_take_101 ?_
        refine lv_iload_n hx hb dX5_take_104 rfl (lv_at hl 0 rfl) ?_
        refine wr_ald (kA := 0) hC hW (vBw hi2 hn) ((ce_o hne).trans (ce_bw hi2 hn)) rfl (vp_in_iff.mpr (by decide)) dX5_take_105 ?_
        refine lv_re (y := (Z i2) (7 + n) 2) ((congrArg ((Z i2) (7 + n)) (show (2 : Int32).toNatClampNeg = 2 by decide))) ?_
        refine wr_ast (kA := 0) (Z' := wset Z i (bput (bput (bput (bput (bput (bput (bput (bput (bput (bput (bput (bput (bput (bput B (3 + n) 0 ((Z i2) (3 + n) 0)) (3 + n) 1 ((Z i2) (3 + n) 1)) (3 + n) 2 ((Z i2) (3 + n) 2)) (3 + n) 3 ((Z i2) (3 + n) 3)) (3 + n) 4 ((Z i2) (3 + n) 4)) (3 + n) 5 ((Z i2) (3 + n) 5)) (3 + n) 6 ((Z i2) (3 + n) 6)) (3 + n) 7 ((Z i2) (3 + n) 7)) (3 + n) 8 ((Z i2) (3 + n) 8)) (3 + n) 9 ((Z i2) (3 + n) 9)) (3 + n) 10 ((Z i2) (3 + n) 10)) (7 + n) 0 ((Z i2) (7 + n) 0)) (7 + n) 1 ((Z i2) (7 + n) 1)) (7 + n) (2 : Int32).toNatClampNeg ((Z i2) (7 + n) 2))) hC hW hS (vBw hi hn) (ce_bw hi hn) rfl (vp_in_iff.mpr (by decide)) wset_off (pu_bw hi hn) dX5_take_106 (fun H locs hW hS => ?_)
        have hW : wW G (wset Z i (bput (bput (bput (bput (bput (bput (bput (bput (bput (bput (bput (bput (bput (bput B (3 + n) 0 ((Z i2) (3 + n) 0)) (3 + n) 1 ((Z i2) (3 + n) 1)) (3 + n) 2 ((Z i2) (3 + n) 2)) (3 + n) 3 ((Z i2) (3 + n) 3)) (3 + n) 4 ((Z i2) (3 + n) 4)) (3 + n) 5 ((Z i2) (3 + n) 5)) (3 + n) 6 ((Z i2) (3 + n) 6)) (3 + n) 7 ((Z i2) (3 + n) 7)) (3 + n) 8 ((Z i2) (3 + n) 8)) (3 + n) 9 ((Z i2) (3 + n) 9)) (3 + n) 10 ((Z i2) (3 + n) 10)) (7 + n) 0 ((Z i2) (7 + n) 0)) (7 + n) 1 ((Z i2) (7 + n) 1)) (7 + n) 2 ((Z i2) (7 + n) 2))) H := hW
        refine lv_iinc (v := 3) (lv' := [(2, .int 3), (0, .ref (G.2.2.1 i (3 + n))), (1, .ref (G.2.2.1 i2 (3 + n)))]) hx hb dX5_take_107 hl (k := 0) rfl (by decide) (by decide) rfl (fun ls hl => ?_)
        refine lv_goto (tgt := 90) hx hb dX5_take_110 (by decide) ?_
        refine lv_iload_n hx hb dX5_take_90 rfl (lv_at hl 0 rfl) ?_
        refine lv_iconst (v := 3) hx hb dX5_take_91 (by decide) ?_
        refine lv_icmp_ge (tgt := 113) hx hb dX5_take_92 (by decide) (fun c_4 => ?_) (fun c_4 => ?_)
        · skip
          have hf : fX5_take n B (Z i2) = (bput (bput (bput (bput (bput (bput (bput (bput (bput (bput (bput (bput (bput (bput B (3 + n) 0 ((Z i2) (3 + n) 0)) (3 + n) 1 ((Z i2) (3 + n) 1)) (3 + n) 2 ((Z i2) (3 + n) 2)) (3 + n) 3 ((Z i2) (3 + n) 3)) (3 + n) 4 ((Z i2) (3 + n) 4)) (3 + n) 5 ((Z i2) (3 + n) 5)) (3 + n) 6 ((Z i2) (3 + n) 6)) (3 + n) 7 ((Z i2) (3 + n) 7)) (3 + n) 8 ((Z i2) (3 + n) 8)) (3 + n) 9 ((Z i2) (3 + n) 9)) (3 + n) 10 ((Z i2) (3 + n) 10)) (7 + n) 0 ((Z i2) (7 + n) 0)) (7 + n) 1 ((Z i2) (7 + n) 1)) (7 + n) 2 ((Z i2) (7 + n) 2)) := rfl
          exact we_v hC hr hlocks (congrArg (wset Z i) hf).symm hW hS dX5_take_113
        · exact absurd c_4 (by decide)
theorem arrV_c {cI : ClassId} {N : Nat} {f g : Nat → Value} (h : ∀ j, j < N → f j = g j) : arrV cI N f = arrV cI N g := by
  unfold arrV
  congr 1
  exact congrArg Array.ofFn (funext fun j => h j.val j.isLt)
/-- what counts of a bench -/
def bval (j q : Nat) : Prop := (j = 0 ∧ q < 3) ∨ (j = 1 ∧ q < 5) ∨ (3 ≤ j ∧ j < 7 ∧ q < 11) ∨ (7 ≤ j ∧ j < 11 ∧ q < 3) ∨ (11 ≤ j ∧ j < 14 ∧ q < 12)
theorem wW_ext {G : wG} {Z : wZ} {i : Nat} {B C : wB} {H : Heap} (hi : i < 11) (h : ∀ j q, bval j q → B j q = C j q) (hW : wW G (wset Z i B) H) : wW G (wset Z i C) H := by
  intro i' j' hV
  have h0 := hW i' j' hV
  by_cases e : i' = i
  · subst e
    have hj : j' < 14 := by unfold wV at hV; omega
    rw [wE_b hi] at h0 ⊢
    unfold bE at h0 ⊢
    by_cases e0 : j' = 0
    · subst e0
      rw [if_pos rfl] at h0 ⊢
      rw [← h 0 0 (by unfold bval; omega), ← h 0 1 (by unfold bval; omega), ← h 0 2 (by unfold bval; omega)]
      exact h0
    · rw [if_neg e0] at h0 ⊢
      by_cases e1 : j' = 1
      · subst e1
        rw [if_pos rfl] at h0 ⊢
        rw [← h 1 0 (by unfold bval; omega), ← h 1 1 (by unfold bval; omega), ← h 1 2 (by unfold bval; omega), ← h 1 3 (by unfold bval; omega), ← h 1 4 (by unfold bval; omega)]
        exact h0
      · rw [if_neg e1] at h0 ⊢
        by_cases e2 : j' = 2
        · rw [if_pos e2] at h0 ⊢
          exact h0
        · rw [if_neg e2] at h0 ⊢
          by_cases e3 : j' < 7
          · rw [if_pos e3] at h0 ⊢
            rw [← h j' 0 (by unfold bval; omega), ← h j' 1 (by unfold bval; omega), ← h j' 2 (by unfold bval; omega), ← h j' 3 (by unfold bval; omega), ← h j' 4 (by unfold bval; omega), ← h j' 5 (by unfold bval; omega), ← h j' 6 (by unfold bval; omega), ← h j' 7 (by unfold bval; omega), ← h j' 8 (by unfold bval; omega), ← h j' 9 (by unfold bval; omega), ← h j' 10 (by unfold bval; omega)]
            exact h0
          · rw [if_neg e3] at h0 ⊢
            by_cases e4 : j' < 11
            · rw [if_pos e4] at h0 ⊢
              show H[_]? = some (vp_cell _ _)
              rw [show H[_]? = some (vp_cell _ _) from h0, vp_cell_i, vp_cell_i]
              exact congrArg some (arrV_c fun q hq => by rw [h j' q (by unfold bval; omega)])
            · rw [if_neg e4] at h0 ⊢
              show H[_]? = some (vp_cell _ _)
              rw [show H[_]? = some (vp_cell _ _) from h0, vp_cell_i, vp_cell_i]
              exact congrArg some (arrV_c fun q hq => by rw [h j' q (by unfold bval; omega)])
  · rw [wE_c (show wset Z i C i' j' = wset Z i B i' j' by rw [wset_ne _ _ e, wset_ne _ _ e])]
    exact h0

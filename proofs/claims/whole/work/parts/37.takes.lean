def fX0_take (B C : wB) : wB :=
  let B_1 := fX3_take B C
  let B_3 := fX5_take 0 B_1 C
  let B_5 := fX5_take 1 B_3 C
  let B_7 := fX5_take 2 B_5 C
  let B_9 := fX5_take 3 B_7 C
  (bput (bput (bput (bput (bput (bput (bput (bput (bput (bput (bput (bput (bput (bput (bput (bput (bput (bput (bput (bput (bput (bput (bput (bput (bput (bput (bput (bput (bput (bput (bput (bput (bput (bput (bput (bput (bput (bput (bput B_9 11 0 (C 11 0)) 12 0 (C 12 0)) 13 0 (C 13 0)) 11 1 (C 11 1)) 12 1 (C 12 1)) 13 1 (C 13 1)) 11 2 (C 11 2)) 12 2 (C 12 2)) 13 2 (C 13 2)) 11 3 (C 11 3)) 12 3 (C 12 3)) 13 3 (C 13 3)) 11 4 (C 11 4)) 12 4 (C 12 4)) 13 4 (C 13 4)) 11 5 (C 11 5)) 12 5 (C 12 5)) 13 5 (C 13 5)) 11 6 (C 11 6)) 12 6 (C 12 6)) 13 6 (C 13 6)) 11 7 (C 11 7)) 12 7 (C 12 7)) 13 7 (C 13 7)) 11 8 (C 11 8)) 12 8 (C 12 8)) 13 8 (C 13 8)) 11 9 (C 11 9)) 12 9 (C 12 9)) 13 9 (C 13 9)) 11 10 (C 11 10)) 12 10 (C 12 10)) 13 10 (C 13 10)) 11 11 (C 11 11)) 12 11 (C 12 11)) 13 11 (C 13 11)) 0 0 (C 0 0)) 0 1 (C 0 1)) 0 2 (C 0 2))
set_option maxRecDepth 100000 in
theorem take_all {B C : wB} : ∀ j q, bval j q → fX0_take B C j q = C j q := by
  intro j q h
  unfold bval at h
  have hj : j = 0 ∨ j = 1 ∨ j = 3 ∨ j = 4 ∨ j = 5 ∨ j = 6 ∨ j = 7 ∨ j = 8 ∨ j = 9 ∨ j = 10 ∨ j = 11 ∨ j = 12 ∨ j = 13 := by omega
  have hq : q = 0 ∨ q = 1 ∨ q = 2 ∨ q = 3 ∨ q = 4 ∨ q = 5 ∨ q = 6 ∨ q = 7 ∨ q = 8 ∨ q = 9 ∨ q = 10 ∨ q = 11 := by omega
  rcases hj with rfl | rfl | rfl | rfl | rfl | rfl | rfl | rfl | rfl | rfl | rfl | rfl | rfl <;> rcases hq with rfl | rfl | rfl | rfl | rfl | rfl | rfl | rfl | rfl | rfl | rfl | rfl <;> first | (exfalso; omega) | rfl
abbrev rX0_take : Room := { frames := 1, cells := 0, slots := 0, locals := 22 }
set_option maxHeartbeats 4000000 in
set_option maxRecDepth 100000 in
theorem kX0_take (l : Launch) (G : wG) (Z : wZ) (i : Nat) (hi : i < 11) (i2 : Nat) (hi2 : i2 < 11) (hne : i2 ≠ i) (B : wB)   : mV l yX0_take wsX0_take rX0_take G [.ref (G.2.2.1 i 0), .ref (G.2.2.1 i2 0)] (wset Z i B) (wset Z i (Z i2)) := by
  refine Met.ofW (cc := cX0_take) (maxL := 3) (ret := none) (by decide) rfl ?_
  intro p e s m args below meth c s₁ B0 hml hv
  obtain ⟨rfl, hW, hK, hL⟩ := hv
  have hlocks := B0.notSynchronized
  have hr := B0.returns
  have hC : wX p s m c cX0_take _ wsX0_take RX0 G := ⟨B0.exec, B0.bytes, findClass_of_methodNamed B0.named, atoms_spec (ws := wsX0_take) B0.pre, hK, hL⟩
  have hx := hC.1
  have hb := hC.2.1
  have hts := hC.2.2.2.1
  have hinRX0 : ∀ w ∈ wsX00, w ∈ wsX0_take := by decide +kernel
  have hk0 := hts (.fieldLink RX0 12 "RampShafts$Bench" "ramp" "LRampShafts$Ramp;") (by decide +kernel)
  have hk1 := hts (.fieldLink RX0 20 "RampShafts$Bench" "shafts" "[LRampShafts$Shaft;") (by decide +kernel)
  have hk2 := hts (.fieldLink RX0 25 "RampShafts$Bench" "planTimes" "[I") (by decide +kernel)
  have hk3 := hts (.fieldLink RX0 29 "RampShafts$Bench" "planShafts" "[I") (by decide +kernel)
  have hk4 := hts (.fieldLink RX0 32 "RampShafts$Bench" "planPlaces" "[I") (by decide +kernel)
  have hk5 := hts (.fieldLink RX0 42 "RampShafts$Bench" "shaftCount" "I") (by decide +kernel)
  have hk6 := hts (.fieldLink RX0 46 "RampShafts$Bench" "planCount" "I") (by decide +kernel)
  have hk7 := hts (.fieldLink RX0 49 "RampShafts$Bench" "time" "I") (by decide +kernel)
  have hS : va_S (wA G) s.heap s.heap [] := va_S.rf
  have hl := lv_entry ([.ref (G.2.2.1 i 0), .ref (G.2.2.1 i2 0)]) (n := 3) (Nat.le_of_ble_eq_true rfl)
  rw [lg_entry_eq]
  generalize (lg_sl ([.ref (G.2.2.1 i 0), .ref (G.2.2.1 i2 0)]) ++ List.replicate (3 - (lg_sl ([.ref (G.2.2.1 i 0), .ref (G.2.2.1 i2 0)])).length) Slot.unset).toArray = ls at hl ⊢
  have hl : lv_has ls 3 [(0, .ref (G.2.2.1 i 0)), (1, .ref (G.2.2.1 i2 0))] := hl
  refine lv_aload_n hx hb dX0_take_0 rfl (lv_at hl 0 rfl) ?_
  refine wr_get hC hinRX0 hW (vB hi (by decide)) (ce_b0 hi) rfl 0 (by decide) hk0 rfl dX0_take_1 ?_
  refine lv_aload_n hx hb dX0_take_4 rfl (lv_at hl 1 rfl) ?_
  refine wr_get hC hinRX0 hW (vB hi2 (by decide)) ((ce_o hne).trans (ce_b0 hi2)) rfl 0 (by decide) hk0 rfl dX0_take_5 ?_
  refine wc_v hC hml (kX3_take l G Z i hi i2 hi2 hne B) (cwV 1 hts gX0_take_X3_take rfl rfl rfl (by decide +kernel) ⟨Nat.le_of_ble_eq_true rfl, Nat.le_of_ble_eq_true rfl⟩) hW hS (vB hi (by decide)) (ce_b1 hi) rfl rfl rfl rfl hl.1 (Nat.le_of_ble_eq_true rfl) dX0_take_8 (fun H locs hW hS => ?_)
  obtain ⟨B_1, eB_1⟩ : ∃ y, y = fX3_take B (Z i2) := ⟨_, rfl⟩
  rw [← eB_1] at hW
  refine lv_iconst (v := 0) hx hb dX0_take_11 (by decide) ?_
  refine lv_istore_n (lv' := [(2, .int 0), (0, .ref (G.2.2.1 i 0)), (1, .ref (G.2.2.1 i2 0))]) hx hb dX0_take_12 rfl hl (by decide) rfl (fun ls hl => ?_)
  refine lv_iload_n hx hb dX0_take_13 rfl (lv_at hl 0 rfl) ?_
  refine lv_iconst (v := 4) hx hb dX0_take_14 (by decide) ?_
  refine lv_icmp_ge (tgt := 39) hx hb dX0_take_15 (by decide) (fun c_2 => ?_) (fun c_2 => ?_)
  · exact absurd c_2 (by decide)
  · skip
    refine lv_aload_n hx hb dX0_take_18 rfl (lv_at hl 1 rfl) ?_
    refine wr_get hC hinRX0 hW (vB hi (by decide)) (ce_b0 hi) rfl 1 (by decide) hk1 rfl dX0_take_19 ?_
    refine lv_iload_n hx hb dX0_take_22 rfl (lv_at hl 0 rfl) ?_
    refine wr_aald (v := .ref (G.2.2.1 i (3 + 0))) (kA := 3) hC hW (vB hi (by decide)) (ce_b2 hi) rfl (vp_in_iff.mpr (by decide)) rfl dX0_take_23 ?_
    refine lv_aload_n hx hb dX0_take_24 rfl (lv_at hl 2 rfl) ?_
    refine wr_get hC hinRX0 hW (vB hi2 (by decide)) ((ce_o hne).trans (ce_b0 hi2)) rfl 1 (by decide) hk1 rfl dX0_take_25 ?_
    refine lv_iload_n hx hb dX0_take_28 rfl (lv_at hl 0 rfl) ?_
    refine wr_aald (v := .ref (G.2.2.1 i2 (3 + 0))) (kA := 3) hC hW (vB hi2 (by decide)) ((ce_o hne).trans (ce_b2 hi2)) rfl (vp_in_iff.mpr (by decide)) rfl dX0_take_29 ?_
    refine wc_v hC hml (kX5_take l G Z i hi i2 hi2 hne 0 (by decide) B_1) (cwV 1 hts gX0_take_X5_take rfl rfl rfl (by decide +kernel) ⟨Nat.le_of_ble_eq_true rfl, Nat.le_of_ble_eq_true rfl⟩) hW hS (vBs hi (by decide)) (ce_bs hi (by decide)) rfl rfl rfl rfl hl.1 (Nat.le_of_ble_eq_true rfl) dX0_take_30 (fun H locs hW hS => ?_)
    obtain ⟨B_3, eB_3⟩ : ∃ y, y = fX5_take 0 B_1 (Z i2) := ⟨_, rfl⟩
    rw [← eB_3] at hW
    refine lv_iinc (v := 1) (lv' := [(2, .int 1), (0, .ref (G.2.2.1 i 0)), (1, .ref (G.2.2.1 i2 0))]) hx hb dX0_take_33 hl (k := 0) rfl (by decide) (by decide) rfl (fun ls hl => ?_)
    refine lv_goto (tgt := 13) hx hb dX0_take_36 (by decide) ?_
    refine lv_iload_n hx hb dX0_take_13 rfl (lv_at hl 0 rfl) ?_
    refine lv_iconst (v := 4) hx hb dX0_take_14 (by decide) ?_
    refine lv_icmp_ge (tgt := 39) hx hb dX0_take_15 (by decide) (fun c_4 => ?_) (fun c_4 => ?_)
    · exact absurd c_4 (by decide)
    · skip
      refine lv_aload_n hx hb dX0_take_18 rfl (lv_at hl 1 rfl) ?_
      refine wr_get hC hinRX0 hW (vB hi (by decide)) (ce_b0 hi) rfl 1 (by decide) hk1 rfl dX0_take_19 ?_
      refine lv_iload_n hx hb dX0_take_22 rfl (lv_at hl 0 rfl) ?_
      refine wr_aald (v := .ref (G.2.2.1 i (3 + 1))) (kA := 3) hC hW (vB hi (by decide)) (ce_b2 hi) rfl (vp_in_iff.mpr (by decide)) rfl dX0_take_23 ?_
      refine lv_aload_n hx hb dX0_take_24 rfl (lv_at hl 2 rfl) ?_
      refine wr_get hC hinRX0 hW (vB hi2 (by decide)) ((ce_o hne).trans (ce_b0 hi2)) rfl 1 (by decide) hk1 rfl dX0_take_25 ?_
      refine lv_iload_n hx hb dX0_take_28 rfl (lv_at hl 0 rfl) ?_
      refine wr_aald (v := .ref (G.2.2.1 i2 (3 + 1))) (kA := 3) hC hW (vB hi2 (by decide)) ((ce_o hne).trans (ce_b2 hi2)) rfl (vp_in_iff.mpr (by decide)) rfl dX0_take_29 ?_
      refine wc_v hC hml (kX5_take l G Z i hi i2 hi2 hne 1 (by decide) B_3) (cwV 1 hts gX0_take_X5_take rfl rfl rfl (by decide +kernel) ⟨Nat.le_of_ble_eq_true rfl, Nat.le_of_ble_eq_true rfl⟩) hW hS (vBs hi (by decide)) (ce_bs hi (by decide)) rfl rfl rfl rfl hl.1 (Nat.le_of_ble_eq_true rfl) dX0_take_30 (fun H locs hW hS => ?_)
      obtain ⟨B_5, eB_5⟩ : ∃ y, y = fX5_take 1 B_3 (Z i2) := ⟨_, rfl⟩
      rw [← eB_5] at hW
      refine lv_iinc (v := 2) (lv' := [(2, .int 2), (0, .ref (G.2.2.1 i 0)), (1, .ref (G.2.2.1 i2 0))]) hx hb dX0_take_33 hl (k := 0) rfl (by decide) (by decide) rfl (fun ls hl => ?_)
      refine lv_goto (tgt := 13) hx hb dX0_take_36 (by decide) ?_
      refine lv_iload_n hx hb dX0_take_13 rfl (lv_at hl 0 rfl) ?_
      refine lv_iconst (v := 4) hx hb dX0_take_14 (by decide) ?_
      refine lv_icmp_ge (tgt := 39) hx hb dX0_take_15 (by decide) (fun c_6 => ?_) (fun c_6 => ?_)
      · exact absurd c_6 (by decide)
      · skip
        refine lv_aload_n hx hb dX0_take_18 rfl (lv_at hl 1 rfl) ?_
        refine wr_get hC hinRX0 hW (vB hi (by decide)) (ce_b0 hi) rfl 1 (by decide) hk1 rfl dX0_take_19 ?_
        refine lv_iload_n hx hb dX0_take_22 rfl (lv_at hl 0 rfl) ?_
        refine wr_aald (v := .ref (G.2.2.1 i (3 + 2))) (kA := 3) hC hW (vB hi (by decide)) (ce_b2 hi) rfl (vp_in_iff.mpr (by decide)) rfl dX0_take_23 ?_
        refine lv_aload_n hx hb dX0_take_24 rfl (lv_at hl 2 rfl) ?_
        refine wr_get hC hinRX0 hW (vB hi2 (by decide)) ((ce_o hne).trans (ce_b0 hi2)) rfl 1 (by decide) hk1 rfl dX0_take_25 ?_
        refine lv_iload_n hx hb dX0_take_28 rfl (lv_at hl 0 rfl) ?_
        refine wr_aald (v := .ref (G.2.2.1 i2 (3 + 2))) (kA := 3) hC hW (vB hi2 (by decide)) ((ce_o hne).trans (ce_b2 hi2)) rfl (vp_in_iff.mpr (by decide)) rfl dX0_take_29 ?_
        refine wc_v hC hml (kX5_take l G Z i hi i2 hi2 hne 2 (by decide) B_5) (cwV 1 hts gX0_take_X5_take rfl rfl rfl (by decide +kernel) ⟨Nat.le_of_ble_eq_true rfl, Nat.le_of_ble_eq_true rfl⟩) hW hS (vBs hi (by decide)) (ce_bs hi (by decide)) rfl rfl rfl rfl hl.1 (Nat.le_of_ble_eq_true rfl) dX0_take_30 (fun H locs hW hS => ?_)
        obtain ⟨B_7, eB_7⟩ : ∃ y, y = fX5_take 2 B_5 (Z i2) := ⟨_, rfl⟩
        rw [← eB_7] at hW
        refine lv_iinc (v := 3) (lv' := [(2, .int 3), (0, .ref (G.2.2.1 i 0)), (1, .ref (G.2.2.1 i2 0))]) hx hb dX0_take_33 hl (k := 0) rfl (by decide) (by decide) rfl (fun ls hl => ?_)
        refine lv_goto (tgt := 13) hx hb dX0_take_36 (by decide) ?_
        refine lv_iload_n hx hb dX0_take_13 rfl (lv_at hl 0 rfl) ?_
        refine lv_iconst (v := 4) hx hb dX0_take_14 (by decide) ?_
        refine lv_icmp_ge (tgt := 39) hx hb dX0_take_15 (by decide) (fun c_8 => ?_) (fun c_8 => ?_)
        · exact absurd c_8 (by decide)
        · skip
          refine lv_aload_n hx hb dX0_take_18 rfl (lv_at hl 1 rfl) ?_
          refine wr_get hC hinRX0 hW (vB hi (by decide)) (ce_b0 hi) rfl 1 (by decide) hk1 rfl dX0_take_19 ?_
          refine lv_iload_n hx hb dX0_take_22 rfl (lv_at hl 0 rfl) ?_
          refine wr_aald (v := .ref (G.2.2.1 i (3 + 3))) (kA := 3) hC hW (vB hi (by decide)) (ce_b2 hi) rfl (vp_in_iff.mpr (by decide)) rfl dX0_take_23 ?_
          refine lv_aload_n hx hb dX0_take_24 rfl (lv_at hl 2 rfl) ?_
          refine wr_get hC hinRX0 hW (vB hi2 (by decide)) ((ce_o hne).trans (ce_b0 hi2)) rfl 1 (by decide) hk1 rfl dX0_take_25 ?_
          refine lv_iload_n hx hb dX0_take_28 rfl (lv_at hl 0 rfl) ?_
          refine wr_aald (v := .ref (G.2.2.1 i2 (3 + 3))) (kA := 3) hC hW (vB hi2 (by decide)) ((ce_o hne).trans (ce_b2 hi2)) rfl (vp_in_iff.mpr (by decide)) rfl dX0_take_29 ?_
          refine wc_v hC hml (kX5_take l G Z i hi i2 hi2 hne 3 (by decide) B_7) (cwV 1 hts gX0_take_X5_take rfl rfl rfl (by decide +kernel) ⟨Nat.le_of_ble_eq_true rfl, Nat.le_of_ble_eq_true rfl⟩) hW hS (vBs hi (by decide)) (ce_bs hi (by decide)) rfl rfl rfl rfl hl.1 (Nat.le_of_ble_eq_true rfl) dX0_take_30 (fun H locs hW hS => ?_)
          obtain ⟨B_9, eB_9⟩ : ∃ y, y = fX5_take 3 B_7 (Z i2) := ⟨_, rfl⟩
          rw [← eB_9] at hW
          refine lv_iinc (v := 4) (lv' := [(2, .int 4), (0, .ref (G.2.2.1 i 0)), (1, .ref (G.2.2.1 i2 0))]) hx hb dX0_take_33 hl (k := 0) rfl (by decide) (by decide) rfl (fun ls hl => ?_)
          refine lv_goto (tgt := 13) hx hb dX0_take_36 (by decide) ?_
          refine lv_iload_n hx hb dX0_take_13 rfl (lv_at hl 0 rfl) ?_
          refine lv_iconst (v := 4) hx hb dX0_take_14 (by decide) ?_
          refine lv_icmp_ge (tgt := 39) hx hb dX0_take_15 (by decide) (fun c_10 => ?_) (fun c_10 => ?_)
          · skip
            refine lv_iconst (v := 0) hx hb dX0_take_39 (by decide) ?_
            refine lv_istore_n (lv' := [(2, .int 0), (0, .ref (G.2.2.1 i 0)), (1, .ref (G.2.2.1 i2 0))]) hx hb dX0_take_40 rfl hl (by decide) rfl (fun ls hl => ?_)
            refine lv_iload_n hx hb dX0_take_41 rfl (lv_at hl 0 rfl) ?_
            refine lv_bipush (v := 12) hx hb dX0_take_42 (by decide) ?_
            refine lv_icmp_ge (tgt := 89) hx hb dX0_take_44 (by decide) (fun c_11 => ?_) (fun c_11 => ?_)
            · exact absurd c_11 (by decide)
            · skip
              refine lv_aload_n hx hb dX0_take_47 rfl (lv_at hl 1 rfl) ?_
              refine wr_get hC hinRX0 hW (vB hi (by decide)) (ce_b0 hi) rfl 2 (by decide) hk2 rfl dX0_take_48 ?_
              refine lv_iload_n hx hb dX0_take_51 rfl (lv_at hl 0 rfl) ?_
              refine lv_aload_n hx hb dX0_take_52 rfl (lv_at hl 2 rfl) ?_
              refine wr_get hC hinRX0 hW (vB hi2 (by decide)) ((ce_o hne).trans (ce_b0 hi2)) rfl 2 (by decide) hk2 rfl dX0_take_53 ?_
              refine lv_iload_n hx hb dX0_take_56 rfl (lv_at hl 0 rfl) ?_
              refine wr_ald (kA := 0) hC hW (vB hi2 (by decide)) ((ce_o hne).trans (ce_bp hi2 (by decide))) rfl (vp_in_iff.mpr (by decide)) dX0_take_57 ?_
              refine lv_re (y := (Z i2) 11 0) ((congrArg ((Z i2) 11) (show (0 : Int32).toNatClampNeg = 0 by decide))) ?_
              refine wr_ast (kA := 0) (Z' := wset Z i (bput B_9 11 (0 : Int32).toNatClampNeg ((Z i2) 11 0))) hC hW hS (vB hi (by decide)) (ce_bp hi (by decide)) rfl (vp_in_iff.mpr (by decide)) wset_off (pu_bp hi (by decide)) dX0_take_58 (fun H locs hW hS => ?_)
              have hW : wW G (wset Z i (bput B_9 11 0 ((Z i2) 11 0))) H := hW
              refine lv_aload_n hx hb dX0_take_59 rfl (lv_at hl 1 rfl) ?_
              refine wr_get hC hinRX0 hW (vB hi (by decide)) (ce_b0 hi) rfl 3 (by decide) hk3 rfl dX0_take_60 ?_
              refine lv_iload_n hx hb dX0_take_63 rfl (lv_at hl 0 rfl) ?_
              refine lv_aload_n hx hb dX0_take_64 rfl (lv_at hl 2 rfl) ?_
              refine wr_get hC hinRX0 hW (vB hi2 (by decide)) ((ce_o hne).trans (ce_b0 hi2)) rfl 3 (by decide) hk3 rfl dX0_take_65 ?_
              refine lv_iload_n hx hb dX0_take_68 rfl (lv_at hl 0 rfl) ?_
              refine wr_ald (kA := 0) hC hW (vB hi2 (by decide)) ((ce_o hne).trans (ce_bp hi2 (by decide))) rfl (vp_in_iff.mpr (by decide)) dX0_take_69 ?_
              refine lv_re (y := (Z i2) 12 0) ((congrArg ((Z i2) 12) (show (0 : Int32).toNatClampNeg = 0 by decide))) ?_
              refine wr_ast (kA := 0) (Z' := wset Z i (bput (bput B_9 11 0 ((Z i2) 11 0)) 12 (0 : Int32).toNatClampNeg ((Z i2) 12 0))) hC hW hS (vB hi (by decide)) (ce_bp hi (by decide)) rfl (vp_in_iff.mpr (by decide)) wset_off (pu_bp hi (by decide)) dX0_take_70 (fun H locs hW hS => ?_)
              have hW : wW G (wset Z i (bput (bput B_9 11 0 ((Z i2) 11 0)) 12 0 ((Z i2) 12 0))) H := hW
              refine lv_aload_n hx hb dX0_take_71 rfl (lv_at hl 1 rfl) ?_
              refine wr_get hC hinRX0 hW (vB hi (by decide)) (ce_b0 hi) rfl 4 (by decide) hk4 rfl dX0_take_72 ?_
              refine lv_iload_n hx hb dX0_take_75 rfl (lv_at hl 0 rfl) ?_
              refine lv_aload_n hx hb dX0_take_76 rfl (lv_at hl 2 rfl) ?_
              refine wr_get hC hinRX0 hW (vB hi2 (by decide)) ((ce_o hne).trans (ce_b0 hi2)) rfl 4 (by decide) hk4 rfl dX0_take_77 ?_
              refine lv_iload_n hx hb dX0_take_80 rfl (lv_at hl 0 rfl) ?_
              refine wr_ald (kA := 0) hC hW (vB hi2 (by decide)) ((ce_o hne).trans (ce_bp hi2 (by decide))) rfl (vp_in_iff.mpr (by decide)) dX0_take_81 ?_
              refine lv_re (y := (Z i2) 13 0) ((congrArg ((Z i2) 13) (show (0 : Int32).toNatClampNeg = 0 by decide))) ?_
              refine wr_ast (kA := 0) (Z' := wset Z i (bput (bput (bput B_9 11 0 ((Z i2) 11 0)) 12 0 ((Z i2) 12 0)) 13 (0 : Int32).toNatClampNeg ((Z i2) 13 0))) hC hW hS (vB hi (by decide)) (ce_bp hi (by decide)) rfl (vp_in_iff.mpr (by decide)) wset_off (pu_bp hi (by decide)) dX0_take_82 (fun H locs hW hS => ?_)
              have hW : wW G (wset Z i (bput (bput (bput B_9 11 0 ((Z i2) 11 0)) 12 0 ((Z i2) 12 0)) 13 0 ((Z i2) 13 0))) H := hW
              refine lv_iinc (v := 1) (lv' := [(2, .int 1), (0, .ref (G.2.2.1 i 0)), (1, .ref (G.2.2.1 i2 0))]) hx hb dX0_take_83 hl (k := 0) rfl (by decide) (by decide) rfl (fun ls hl => ?_)
              refine lv_goto (tgt := 41) hx hb dX0_take_86 (by decide) ?_
              refine lv_iload_n hx hb dX0_take_41 rfl (lv_at hl 0 rfl) ?_
              refine lv_bipush (v := 12) hx hb dX0_take_42 (by decide) ?_
              refine lv_icmp_ge (tgt := 89) hx hb dX0_take_44 (by decide) (fun c_12 => ?_) (fun c_12 => ?_)
              · exact absurd c_12 (by decide)
              · skip
                refine lv_aload_n hx hb dX0_take_47 rfl (lv_at hl 1 rfl) ?_
                refine wr_get hC hinRX0 hW (vB hi (by decide)) (ce_b0 hi) rfl 2 (by decide) hk2 rfl dX0_take_48 ?_
                refine lv_iload_n hx hb dX0_take_51 rfl (lv_at hl 0 rfl) ?_
                refine lv_aload_n hx hb dX0_take_52 rfl (lv_at hl 2 rfl) ?_
                refine wr_get hC hinRX0 hW (vB hi2 (by decide)) ((ce_o hne).trans (ce_b0 hi2)) rfl 2 (by decide) hk2 rfl dX0_take_53 ?_
                refine lv_iload_n hx hb dX0_take_56 rfl (lv_at hl 0 rfl) ?_
                refine wr_ald (kA := 0) hC hW (vB hi2 (by decide)) ((ce_o hne).trans (ce_bp hi2 (by decide))) rfl (vp_in_iff.mpr (by decide)) dX0_take_57 ?_
                refine lv_re (y := (Z i2) 11 1) ((congrArg ((Z i2) 11) (show (1 : Int32).toNatClampNeg = 1 by decide))) ?_
                refine wr_ast (kA := 0) (Z' := wset Z i (bput (bput (bput (bput B_9 11 0 ((Z i2) 11 0)) 12 0 ((Z i2) 12 0)) 13 0 ((Z i2) 13 0)) 11 (1 : Int32).toNatClampNeg ((Z i2) 11 1))) hC hW hS (vB hi (by decide)) (ce_bp hi (by decide)) rfl (vp_in_iff.mpr (by decide)) wset_off (pu_bp hi (by decide)) dX0_take_58 (fun H locs hW hS => ?_)
                have hW : wW G (wset Z i (bput (bput (bput (bput B_9 11 0 ((Z i2) 11 0)) 12 0 ((Z i2) 12 0)) 13 0 ((Z i2) 13 0)) 11 1 ((Z i2) 11 1))) H := hW
                refine lv_aload_n hx hb dX0_take_59 rfl (lv_at hl 1 rfl) ?_
                refine wr_get hC hinRX0 hW (vB hi (by decide)) (ce_b0 hi) rfl 3 (by decide) hk3 rfl dX0_take_60 ?_
                refine lv_iload_n hx hb dX0_take_63 rfl (lv_at hl 0 rfl) ?_
                refine lv_aload_n hx hb dX0_take_64 rfl (lv_at hl 2 rfl) ?_
                refine wr_get hC hinRX0 hW (vB hi2 (by decide)) ((ce_o hne).trans (ce_b0 hi2)) rfl 3 (by decide) hk3 rfl dX0_take_65 ?_
                refine lv_iload_n hx hb dX0_take_68 rfl (lv_at hl 0 rfl) ?_
                refine wr_ald (kA := 0) hC hW (vB hi2 (by decide)) ((ce_o hne).trans (ce_bp hi2 (by decide))) rfl (vp_in_iff.mpr (by decide)) dX0_take_69 ?_
                refine lv_re (y := (Z i2) 12 1) ((congrArg ((Z i2) 12) (show (1 : Int32).toNatClampNeg = 1 by decide))) ?_
                refine wr_ast (kA := 0) (Z' := wset Z i (bput (bput (bput (bput (bput B_9 11 0 ((Z i2) 11 0)) 12 0 ((Z i2) 12 0)) 13 0 ((Z i2) 13 0)) 11 1 ((Z i2) 11 1)) 12 (1 : Int32).toNatClampNeg ((Z i2) 12 1))) hC hW hS (vB hi (by decide)) (ce_bp hi (by decide)) rfl (vp_in_iff.mpr (by decide)) wset_off (pu_bp hi (by decide)) dX0_take_70 (fun H locs hW hS => ?_)
                have hW : wW G (wset Z i (bput (bput (bput (bput (bput B_9 11 0 ((Z i2) 11 0)) 12 0 ((Z i2) 12 0)) 13 0 ((Z i2) 13 0)) 11 1 ((Z i2) 11 1)) 12 1 ((Z i2) 12 1))) H := hW
                refine lv_aload_n hx hb dX0_take_71 rfl (lv_at hl 1 rfl) ?_
                refine wr_get hC hinRX0 hW (vB hi (by decide)) (ce_b0 hi) rfl 4 (by decide) hk4 rfl dX0_take_72 ?_
                refine lv_iload_n hx hb dX0_take_75 rfl (lv_at hl 0 rfl) ?_
                refine lv_aload_n hx hb dX0_take_76 rfl (lv_at hl 2 rfl) ?_
                refine wr_get hC hinRX0 hW (vB hi2 (by decide)) ((ce_o hne).trans (ce_b0 hi2)) rfl 4 (by decide) hk4 rfl dX0_take_77 ?_
                refine lv_iload_n hx hb dX0_take_80 rfl (lv_at hl 0 rfl) ?_
                refine wr_ald (kA := 0) hC hW (vB hi2 (by decide)) ((ce_o hne).trans (ce_bp hi2 (by decide))) rfl (vp_in_iff.mpr (by decide)) dX0_take_81 ?_
                refine lv_re (y := (Z i2) 13 1) ((congrArg ((Z i2) 13) (show (1 : Int32).toNatClampNeg = 1 by decide))) ?_
                refine wr_ast (kA := 0) (Z' := wset Z i (bput (bput (bput (bput (bput (bput B_9 11 0 ((Z i2) 11 0)) 12 0 ((Z i2) 12 0)) 13 0 ((Z i2) 13 0)) 11 1 ((Z i2) 11 1)) 12 1 ((Z i2) 12 1)) 13 (1 : Int32).toNatClampNeg ((Z i2) 13 1))) hC hW hS (vB hi (by decide)) (ce_bp hi (by decide)) rfl (vp_in_iff.mpr (by decide)) wset_off (pu_bp hi (by decide)) dX0_take_82 (fun H locs hW hS => ?_)
                have hW : wW G (wset Z i (bput (bput (bput (bput (bput (bput B_9 11 0 ((Z i2) 11 0)) 12 0 ((Z i2) 12 0)) 13 0 ((Z i2) 13 0)) 11 1 ((Z i2) 11 1)) 12 1 ((Z i2) 12 1)) 13 1 ((Z i2) 13 1))) H := hW
                refine lv_iinc (v := 2) (lv' := [(2, .int 2), (0, .ref (G.2.2.1 i 0)), (1, .ref (G.2.2.1 i2 0))]) hx hb dX0_take_83 hl (k := 0) rfl (by decide) (by decide) rfl (fun ls hl => ?_)
                refine lv_goto (tgt := 41) hx hb dX0_take_86 (by decide) ?_
                refine lv_iload_n hx hb dX0_take_41 rfl (lv_at hl 0 rfl) ?_
                refine lv_bipush (v := 12) hx hb dX0_take_42 (by decide) ?_
                refine lv_icmp_ge (tgt := 89) hx hb dX0_take_44 (by decide) (fun c_13 => ?_) (fun c_13 => ?_)
                · exact absurd c_13 (by decide)
                · skip
                  refine lv_aload_n hx hb dX0_take_47 rfl (lv_at hl 1 rfl) ?_
                  refine wr_get hC hinRX0 hW (vB hi (by decide)) (ce_b0 hi) rfl 2 (by decide) hk2 rfl dX0_take_48 ?_
                  refine lv_iload_n hx hb dX0_take_51 rfl (lv_at hl 0 rfl) ?_
                  refine lv_aload_n hx hb dX0_take_52 rfl (lv_at hl 2 rfl) ?_
                  refine wr_get hC hinRX0 hW (vB hi2 (by decide)) ((ce_o hne).trans (ce_b0 hi2)) rfl 2 (by decide) hk2 rfl dX0_take_53 ?_
                  refine lv_iload_n hx hb dX0_take_56 rfl (lv_at hl 0 rfl) ?_
                  refine wr_ald (kA := 0) hC hW (vB hi2 (by decide)) ((ce_o hne).trans (ce_bp hi2 (by decide))) rfl (vp_in_iff.mpr (by decide)) dX0_take_57 ?_
                  refine lv_re (y := (Z i2) 11 2) ((congrArg ((Z i2) 11) (show (2 : Int32).toNatClampNeg = 2 by decide))) ?_
                  refine wr_ast (kA := 0) (Z' := wset Z i (bput (bput (bput (bput (bput (bput (bput B_9 11 0 ((Z i2) 11 0)) 12 0 ((Z i2) 12 0)) 13 0 ((Z i2) 13 0)) 11 1 ((Z i2) 11 1)) 12 1 ((Z i2) 12 1)) 13 1 ((Z i2) 13 1)) 11 (2 : Int32).toNatClampNeg ((Z i2) 11 2))) hC hW hS (vB hi (by decide)) (ce_bp hi (by decide)) rfl (vp_in_iff.mpr (by decide)) wset_off (pu_bp hi (by decide)) dX0_take_58 (fun H locs hW hS => ?_)
                  have hW : wW G (wset Z i (bput (bput (bput (bput (bput (bput (bput B_9 11 0 ((Z i2) 11 0)) 12 0 ((Z i2) 12 0)) 13 0 ((Z i2) 13 0)) 11 1 ((Z i2) 11 1)) 12 1 ((Z i2) 12 1)) 13 1 ((Z i2) 13 1)) 11 2 ((Z i2) 11 2))) H := hW
                  refine lv_aload_n hx hb dX0_take_59 rfl (lv_at hl 1 rfl) ?_
                  refine wr_get hC hinRX0 hW (vB hi (by decide)) (ce_b0 hi) rfl 3 (by decide) hk3 rfl dX0_take_60 ?_
                  refine lv_iload_n hx hb dX0_take_63 rfl (lv_at hl 0 rfl) ?_
                  refine lv_aload_n hx hb dX0_take_64 rfl (lv_at hl 2 rfl) ?_
                  refine wr_get hC hinRX0 hW (vB hi2 (by decide)) ((ce_o hne).trans (ce_b0 hi2)) rfl 3 (by decide) hk3 rfl dX0_take_65 ?_
                  refine lv_iload_n hx hb dX0_take_68 rfl (lv_at hl 0 rfl) ?_
                  refine wr_ald (kA := 0) hC hW (vB hi2 (by decide)) ((ce_o hne).trans (ce_bp hi2 (by decide))) rfl (vp_in_iff.mpr (by decide)) dX0_take_69 ?_
                  refine lv_re (y := (Z i2) 12 2) ((congrArg ((Z i2) 12) (show (2 : Int32).toNatClampNeg = 2 by decide))) ?_
                  refine wr_ast (kA := 0) (Z' := wset Z i (bput (bput (bput (bput (bput (bput (bput (bput B_9 11 0 ((Z i2) 11 0)) 12 0 ((Z i2) 12 0)) 13 0 ((Z i2) 13 0)) 11 1 ((Z i2) 11 1)) 12 1 ((Z i2) 12 1)) 13 1 ((Z i2) 13 1)) 11 2 ((Z i2) 11 2)) 12 (2 : Int32).toNatClampNeg ((Z i2) 12 2))) hC hW hS (vB hi (by decide)) (ce_bp hi (by decide)) rfl (vp_in_iff.mpr (by decide)) wset_off (pu_bp hi (by decide)) dX0_take_70 (fun H locs hW hS => ?_)
                  have hW : wW G (wset Z i (bput (bput (bput (bput (bput (bput (bput (bput B_9 11 0 ((Z i2) 11 0)) 12 0 ((Z i2) 12 0)) 13 0 ((Z i2) 13 0)) 11 1 ((Z i2) 11 1)) 12 1 ((Z i2) 12 1)) 13 1 ((Z i2) 13 1)) 11 2 ((Z i2) 11 2)) 12 2 ((Z i2) 12 2))) H := hW
                  refine lv_aload_n hx hb dX0_take_71 rfl (lv_at hl 1 rfl) ?_
                  refine wr_get hC hinRX0 hW (vB hi (by decide)) (ce_b0 hi) rfl 4 (by decide) hk4 rfl dX0_take_72 ?_
                  refine lv_iload_n hx hb dX0_take_75 rfl (lv_at hl 0 rfl) ?_
                  refine lv_aload_n hx hb dX0_take_76 rfl (lv_at hl 2 rfl) ?_
                  refine wr_get hC hinRX0 hW (vB hi2 (by decide)) ((ce_o hne).trans (ce_b0 hi2)) rfl 4 (by decide) hk4 rfl dX0_take_77 ?_
                  refine lv_iload_n hx hb dX0_take_80 rfl (lv_at hl 0 rfl) ?_
                  refine wr_ald (kA := 0) hC hW (vB hi2 (by decide)) ((ce_o hne).trans (ce_bp hi2 (by decide))) rfl (vp_in_iff.mpr (by decide)) dX0_take_81 ?_
                  refine lv_re (y := (Z i2) 13 2) ((congrArg ((Z i2) 13) (show (2 : Int32).toNatClampNeg = 2 by decide))) ?_
                  refine wr_ast (kA := 0) (Z' := wset Z i (bput (bput (bput (bput (bput (bput (bput (bput (bput B_9 11 0 ((Z i2) 11 0)) 12 0 ((Z i2) 12 0)) 13 0 ((Z i2) 13 0)) 11 1 ((Z i2) 11 1)) 12 1 ((Z i2) 12 1)) 13 1 ((Z i2) 13 1)) 11 2 ((Z i2) 11 2)) 12 2 ((Z i2) 12 2)) 13 (2 : Int32).toNatClampNeg ((Z i2) 13 2))) hC hW hS (vB hi (by decide)) (ce_bp hi (by decide)) rfl (vp_in_iff.mpr (by decide)) wset_off (pu_bp hi (by decide)) dX0_take_82 (fun H locs hW hS => ?_)
                  have hW : wW G (wset Z i (bput (bput (bput (bput (bput (bput (bput (bput (bput B_9 11 0 ((Z i2) 11 0)) 12 0 ((Z i2) 12 0)) 13 0 ((Z i2) 13 0)) 11 1 ((Z i2) 11 1)) 12 1 ((Z i2) 12 1)) 13 1 ((Z i2) 13 1)) 11 2 ((Z i2) 11 2)) 12 2 ((Z i2) 12 2)) 13 2 ((Z i2) 13 2))) H := hW
                  refine lv_iinc (v := 3) (lv' := [(2, .int 3), (0, .ref (G.2.2.1 i 0)), (1, .ref (G.2.2.1 i2 0))]) hx hb dX0_take_83 hl (k := 0) rfl (by decide) (by decide) rfl (fun ls hl => ?_)
                  refine lv_goto (tgt := 41) hx hb dX0_take_86 (by decide) ?_
                  refine lv_iload_n hx hb dX0_take_41 rfl (lv_at hl 0 rfl) ?_
                  refine lv_bipush (v := 12) hx hb dX0_take_42 (by decide) ?_
                  refine lv_icmp_ge (tgt := 89) hx hb dX0_take_44 (by decide) (fun c_14 => ?_) (fun c_14 => ?_)
                  · exact absurd c_14 (by decide)
                  · skip
                    refine lv_aload_n hx hb dX0_take_47 rfl (lv_at hl 1 rfl) ?_
                    refine wr_get hC hinRX0 hW (vB hi (by decide)) (ce_b0 hi) rfl 2 (by decide) hk2 rfl dX0_take_48 ?_
                    refine lv_iload_n hx hb dX0_take_51 rfl (lv_at hl 0 rfl) ?_
                    refine lv_aload_n hx hb dX0_take_52 rfl (lv_at hl 2 rfl) ?_
                    refine wr_get hC hinRX0 hW (vB hi2 (by decide)) ((ce_o hne).trans (ce_b0 hi2)) rfl 2 (by decide) hk2 rfl dX0_take_53 ?_
                    refine lv_iload_n hx hb dX0_take_56 rfl (lv_at hl 0 rfl) ?_
                    refine wr_ald (kA := 0) hC hW (vB hi2 (by decide)) ((ce_o hne).trans (ce_bp hi2 (by decide))) rfl (vp_in_iff.mpr (by decide)) dX0_take_57 ?_
                    refine lv_re (y := (Z i2) 11 3) ((congrArg ((Z i2) 11) (show (3 : Int32).toNatClampNeg = 3 by decide))) ?_
                    refine wr_ast (kA := 0) (Z' := wset Z i (bput (bput (bput (bput (bput (bput (bput (bput (bput (bput B_9 11 0 ((Z i2) 11 0)) 12 0 ((Z i2) 12 0)) 13 0 ((Z i2) 13 0)) 11 1 ((Z i2) 11 1)) 12 1 ((Z i2) 12 1)) 13 1 ((Z i2) 13 1)) 11 2 ((Z i2) 11 2)) 12 2 ((Z i2) 12 2)) 13 2 ((Z i2) 13 2)) 11 (3 : Int32).toNatClampNeg ((Z i2) 11 3))) hC hW hS (vB hi (by decide)) (ce_bp hi (by decide)) rfl (vp_in_iff.mpr (by decide)) wset_off (pu_bp hi (by decide)) dX0_take_58 (fun H locs hW hS => ?_)
                    have hW : wW G (wset Z i (bput (bput (bput (bput (bput (bput (bput (bput (bput (bput B_9 11 0 ((Z i2) 11 0)) 12 0 ((Z i2) 12 0)) 13 0 ((Z i2) 13 0)) 11 1 ((Z i2) 11 1)) 12 1 ((Z i2) 12 1)) 13 1 ((Z i2) 13 1)) 11 2 ((Z i2) 11 2)) 12 2 ((Z i2) 12 2)) 13 2 ((Z i2) 13 2)) 11 3 ((Z i2) 11 3))) H := hW
                    refine lv_aload_n hx hb dX0_take_59 rfl (lv_at hl 1 rfl) ?_
                    refine wr_get hC hinRX0 hW (vB hi (by decide)) (ce_b0 hi) rfl 3 (by decide) hk3 rfl dX0_take_60 ?_
                    refine lv_iload_n hx hb dX0_take_63 rfl (lv_at hl 0 rfl) ?_
                    refine lv_aload_n hx hb dX0_take_64 rfl (lv_at hl 2 rfl) ?_
                    refine wr_get hC hinRX0 hW (vB hi2 (by decide)) ((ce_o hne).trans (ce_b0 hi2)) rfl 3 (by decide) hk3 rfl dX0_take_65 ?_
                    refine lv_iload_n hx hb dX0_take_68 rfl (lv_at hl 0 rfl) ?_
                    refine wr_ald (kA := 0) hC hW (vB hi2 (by decide)) ((ce_o hne).trans (ce_bp hi2 (by decide))) rfl (vp_in_iff.mpr (by decide)) dX0_take_69 ?_
                    refine lv_re (y := (Z i2) 12 3) ((congrArg ((Z i2) 12) (show (3 : Int32).toNatClampNeg = 3 by decide))) ?_
                    refine wr_ast (kA := 0) (Z' := wset Z i (bput (bput (bput (bput (bput (bput (bput (bput (bput (bput (bput B_9 11 0 ((Z i2) 11 0)) 12 0 ((Z i2) 12 0)) 13 0 ((Z i2) 13 0)) 11 1 ((Z i2) 11 1)) 12 1 ((Z i2) 12 1)) 13 1 ((Z i2) 13 1)) 11 2 ((Z i2) 11 2)) 12 2 ((Z i2) 12 2)) 13 2 ((Z i2) 13 2)) 11 3 ((Z i2) 11 3)) 12 (3 : Int32).toNatClampNeg ((Z i2) 12 3))) hC hW hS (vB hi (by decide)) (ce_bp hi (by decide)) rfl (vp_in_iff.mpr (by decide)) wset_off (pu_bp hi (by decide)) dX0_take_70 (fun H locs hW hS => ?_)
                    have hW : wW G (wset Z i (bput (bput (bput (bput (bput (bput (bput (bput (bput (bput (bput B_9 11 0 ((Z i2) 11 0)) 12 0 ((Z i2) 12 0)) 13 0 ((Z i2) 13 0)) 11 1 ((Z i2) 11 1)) 12 1 ((Z i2) 12 1)) 13 1 ((Z i2) 13 1)) 11 2 ((Z i2) 11 2)) 12 2 ((Z i2) 12 2)) 13 2 ((Z i2) 13 2)) 11 3 ((Z i2) 11 3)) 12 3 ((Z i2) 12 3))) H := hW
                    refine lv_aload_n hx hb dX0_take_71 rfl (lv_at hl 1 rfl) ?_
                    refine wr_get hC hinRX0 hW (vB hi (by decide)) (ce_b0 hi) rfl 4 (by decide) hk4 rfl dX0_take_72 ?_
                    refine lv_iload_n hx hb dX0_take_75 rfl (lv_at hl 0 rfl) ?_
                    refine lv_aload_n hx hb dX0_take_76 rfl (lv_at hl 2 rfl) ?_
                    refine wr_get hC hinRX0 hW (vB hi2 (by decide)) ((ce_o hne).trans (ce_b0 hi2)) rfl 4 (by decide) hk4 rfl dX0_take_77 ?_
                    refine lv_iload_n hx hb dX0_take_80 rfl (lv_at hl 0 rfl) ?_
                    refine wr_ald (kA := 0) hC hW (vB hi2 (by decide)) ((ce_o hne).trans (ce_bp hi2 (by decide))) rfl (vp_in_iff.mpr (by decide)) dX0_take_81 ?_
                    refine lv_re (y := (Z i2) 13 3) ((congrArg ((Z i2) 13) (show (3 : Int32).toNatClampNeg = 3 by decide))) ?_
                    refine wr_ast (kA := 0) (Z' := wset Z i (bput (bput (bput (bput (bput (bput (bput (bput (bput (bput (bput (bput B_9 11 0 ((Z i2) 11 0)) 12 0 ((Z i2) 12 0)) 13 0 ((Z i2) 13 0)) 11 1 ((Z i2) 11 1)) 12 1 ((Z i2) 12 1)) 13 1 ((Z i2) 13 1)) 11 2 ((Z i2) 11 2)) 12 2 ((Z i2) 12 2)) 13 2 ((Z i2) 13 2)) 11 3 ((Z i2) 11 3)) 12 3 ((Z i2) 12 3)) 13 (3 : Int32).toNatClampNeg ((Z i2) 13 3))) hC hW hS (vB hi (by decide)) (ce_bp hi (by decide)) rfl (vp_in_iff.mpr (by decide)) wset_off (pu_bp hi (by decide)) dX0_take_82 (fun H locs hW hS => ?_)
                    have hW : wW G (wset Z i (bput (bput (bput (bput (bput (bput (bput (bput (bput (bput (bput (bput B_9 11 0 ((Z i2) 11 0)) 12 0 ((Z i2) 12 0)) 13 0 ((Z i2) 13 0)) 11 1 ((Z i2) 11 1)) 12 1 ((Z i2) 12 1)) 13 1 ((Z i2) 13 1)) 11 2 ((Z i2) 11 2)) 12 2 ((Z i2) 12 2)) 13 2 ((Z i2) 13 2)) 11 3 ((Z i2) 11 3)) 12 3 ((Z i2) 12 3)) 13 3 ((Z i2) 13 3))) H := hW
                    refine lv_iinc (v := 4) (lv' := [(2, .int 4), (0, .ref (G.2.2.1 i 0)), (1, .ref (G.2.2.1 i2 0))]) hx hb dX0_take_83 hl (k := 0) rfl (by decide) (by decide) rfl (fun ls hl => ?_)
                    refine lv_goto (tgt := 41) hx hb dX0_take_86 (by decide) ?_
                    refine lv_iload_n hx hb dX0_take_41 rfl (lv_at hl 0 rfl) ?_
                    refine lv_bipush (v := 12) hx hb dX0_take_42 (by decide) ?_
                    refine lv_icmp_ge (tgt := 89) hx hb dX0_take_44 (by decide) (fun c_15 => ?_) (fun c_15 => ?_)
                    · exact absurd c_15 (by decide)
                    · skip
                      refine lv_aload_n hx hb dX0_take_47 rfl (lv_at hl 1 rfl) ?_
                      refine wr_get hC hinRX0 hW (vB hi (by decide)) (ce_b0 hi) rfl 2 (by decide) hk2 rfl dX0_take_48 ?_
                      refine lv_iload_n hx hb dX0_take_51 rfl (lv_at hl 0 rfl) ?_
                      refine lv_aload_n hx hb dX0_take_52 rfl (lv_at hl 2 rfl) ?_
                      refine wr_get hC hinRX0 hW (vB hi2 (by decide)) ((ce_o hne).trans (ce_b0 hi2)) rfl 2 (by decide) hk2 rfl dX0_take_53 ?_
                      refine lv_iload_n hx hb dX0_take_56 rfl (lv_at hl 0 rfl) ?_
                      refine wr_ald (kA := 0) hC hW (vB hi2 (by decide)) ((ce_o hne).trans (ce_bp hi2 (by decide))) rfl (vp_in_iff.mpr (by decide)) dX0_take_57 ?_
                      refine lv_re (y := (Z i2) 11 4) ((congrArg ((Z i2) 11) (show (4 : Int32).toNatClampNeg = 4 by decide))) ?_
                      refine wr_ast (kA := 0) (Z' := wset Z i (bput (bput (bput (bput (bput (bput (bput (bput (bput (bput (bput (bput (bput B_9 11 0 ((Z i2) 11 0)) 12 0 ((Z i2) 12 0)) 13 0 ((Z i2) 13 0)) 11 1 ((Z i2) 11 1)) 12 1 ((Z i2) 12 1)) 13 1 ((Z i2) 13 1)) 11 2 ((Z i2) 11 2)) 12 2 ((Z i2) 12 2)) 13 2 ((Z i2) 13 2)) 11 3 ((Z i2) 11 3)) 12 3 ((Z i2) 12 3)) 13 3 ((Z i2) 13 3)) 11 (4 : Int32).toNatClampNeg ((Z i2) 11 4))) hC hW hS (vB hi (by decide)) (ce_bp hi (by decide)) rfl (vp_in_iff.mpr (by decide)) wset_off (pu_bp hi (by decide)) dX0_take_58 (fun H locs hW hS => ?_)
                      have hW : wW G (wset Z i (bput (bput (bput (bput (bput (bput (bput (bput (bput (bput (bput (bput (bput B_9 11 0 ((Z i2) 11 0)) 12 0 ((Z i2) 12 0)) 13 0 ((Z i2) 13 0)) 11 1 ((Z i2) 11 1)) 12 1 ((Z i2) 12 1)) 13 1 ((Z i2) 13 1)) 11 2 ((Z i2) 11 2)) 12 2 ((Z i2) 12 2)) 13 2 ((Z i2) 13 2)) 11 3 ((Z i2) 11 3)) 12 3 ((Z i2) 12 3)) 13 3 ((Z i2) 13 3)) 11 4 ((Z i2) 11 4))) H := hW
                      refine lv_aload_n hx hb dX0_take_59 rfl (lv_at hl 1 rfl) ?_
                      refine wr_get hC hinRX0 hW (vB hi (by decide)) (ce_b0 hi) rfl 3 (by decide) hk3 rfl dX0_take_60 ?_
                      refine lv_iload_n hx hb dX0_take_63 rfl (lv_at hl 0 rfl) ?_
                      refine lv_aload_n hx hb dX0_take_64 rfl (lv_at hl 2 rfl) ?_
                      refine wr_get hC hinRX0 hW (vB hi2 (by decide)) ((ce_o hne).trans (ce_b0 hi2)) rfl 3 (by decide) hk3 rfl dX0_take_65 ?_
                      refine lv_iload_n hx hb dX0_take_68 rfl (lv_at hl 0 rfl) ?_
                      refine wr_ald (kA := 0) hC hW (vB hi2 (by decide)) ((ce_o hne).trans (ce_bp hi2 (by decide))) rfl (vp_in_iff.mpr (by decide)) dX0_take_69 ?_
                      refine lv_re (y := (Z i2) 12 4) ((congrArg ((Z i2) 12) (show (4 : Int32).toNatClampNeg = 4 by decide))) ?_
                      refine wr_ast (kA := 0) (Z' := wset Z i (bput (bput (bput (bput (bput (bput (bput (bput (bput (bput (bput (bput (bput (bput B_9 11 0 ((Z i2) 11 0)) 12 0 ((Z i2) 12 0)) 13 0 ((Z i2) 13 0)) 11 1 ((Z i2) 11 1)) 12 1 ((Z i2) 12 1)) 13 1 ((Z i2) 13 1)) 11 2 ((Z i2) 11 2)) 12 2 ((Z i2) 12 2)) 13 2 ((Z i2) 13 2)) 11 3 ((Z i2) 11 3)) 12 3 ((Z i2) 12 3)) 13 3 ((Z i2) 13 3)) 11 4 ((Z i2) 11 4)) 12 (4 : Int32).toNatClampNeg ((Z i2) 12 4))) hC hW hS (vB hi (by decide)) (ce_bp hi (by decide)) rfl (vp_in_iff.mpr (by decide)) wset_off (pu_bp hi (by decide)) dX0_take_70 (fun H locs hW hS => ?_)
                      have hW : wW G (wset Z i (bput (bput (bput (bput (bput (bput (bput (bput (bput (bput (bput (bput (bput (bput B_9 11 0 ((Z i2) 11 0)) 12 0 ((Z i2) 12 0)) 13 0 ((Z i2) 13 0)) 11 1 ((Z i2) 11 1)) 12 1 ((Z i2) 12 1)) 13 1 ((Z i2) 13 1)) 11 2 ((Z i2) 11 2)) 12 2 ((Z i2) 12 2)) 13 2 ((Z i2) 13 2)) 11 3 ((Z i2) 11 3)) 12 3 ((Z i2) 12 3)) 13 3 ((Z i2) 13 3)) 11 4 ((Z i2) 11 4)) 12 4 ((Z i2) 12 4))) H := hW
                      refine lv_aload_n hx hb dX0_take_71 rfl (lv_at hl 1 rfl) ?_
                      refine wr_get hC hinRX0 hW (vB hi (by decide)) (ce_b0 hi) rfl 4 (by decide) hk4 rfl dX0_take_72 ?_
                      refine lv_iload_n hx hb dX0_take_75 rfl (lv_at hl 0 rfl) ?_
                      refine lv_aload_n hx hb dX0_take_76 rfl (lv_at hl 2 rfl) ?_
                      refine wr_get hC hinRX0 hW (vB hi2 (by decide)) ((ce_o hne).trans (ce_b0 hi2)) rfl 4 (by decide) hk4 rfl dX0_take_77 ?_
                      refine lv_iload_n hx hb dX0_take_80 rfl (lv_at hl 0 rfl) ?_
                      refine wr_ald (kA := 0) hC hW (vB hi2 (by decide)) ((ce_o hne).trans (ce_bp hi2 (by decide))) rfl (vp_in_iff.mpr (by decide)) dX0_take_81 ?_
                      refine lv_re (y := (Z i2) 13 4) ((congrArg ((Z i2) 13) (show (4 : Int32).toNatClampNeg = 4 by decide))) ?_
                      refine wr_ast (kA := 0) (Z' := wset Z i (bput (bput (bput (bput (bput (bput (bput (bput (bput (bput (bput (bput (bput (bput (bput B_9 11 0 ((Z i2) 11 0)) 12 0 ((Z i2) 12 0)) 13 0 ((Z i2) 13 0)) 11 1 ((Z i2) 11 1)) 12 1 ((Z i2) 12 1)) 13 1 ((Z i2) 13 1)) 11 2 ((Z i2) 11 2)) 12 2 ((Z i2) 12 2)) 13 2 ((Z i2) 13 2)) 11 3 ((Z i2) 11 3)) 12 3 ((Z i2) 12 3)) 13 3 ((Z i2) 13 3)) 11 4 ((Z i2) 11 4)) 12 4 ((Z i2) 12 4)) 13 (4 : Int32).toNatClampNeg ((Z i2) 13 4))) hC hW hS (vB hi (by decide)) (ce_bp hi (by decide)) rfl (vp_in_iff.mpr (by decide)) wset_off (pu_bp hi (by decide)) dX0_take_82 (fun H locs hW hS => ?_)
                      have hW : wW G (wset Z i (bput (bput (bput (bput (bput (bput (bput (bput (bput (bput (bput (bput (bput (bput (bput B_9 11 0 ((Z i2) 11 0)) 12 0 ((Z i2) 12 0)) 13 0 ((Z i2) 13 0)) 11 1 ((Z i2) 11 1)) 12 1 ((Z i2) 12 1)) 13 1 ((Z i2) 13 1)) 11 2 ((Z i2) 11 2)) 12 2 ((Z i2) 12 2)) 13 2 ((Z i2) 13 2)) 11 3 ((Z i2) 11 3)) 12 3 ((Z i2) 12 3)) 13 3 ((Z i2) 13 3)) 11 4 ((Z i2) 11 4)) 12 4 ((Z i2) 12 4)) 13 4 ((Z i2) 13 4))) H := hW
                      refine lv_iinc (v := 5) (lv' := [(2, .int 5), (0, .ref (G.2.2.1 i 0)), (1, .ref (G.2.2.1 i2 0))]) hx hb dX0_take_83 hl (k := 0) rfl (by decide) (by decide) rfl (fun ls hl => ?_)
                      refine lv_goto (tgt := 41) hx hb dX0_take_86 (by decide) ?_
                      refine lv_iload_n hx hb dX0_take_41 rfl (lv_at hl 0 rfl) ?_
                      refine lv_bipush (v := 12) hx hb dX0_take_42 (by decide) ?_
                      refine lv_icmp_ge (tgt := 89) hx hb dX0_take_44 (by decide) (fun c_16 => ?_) (fun c_16 => ?_)
                      · exact absurd c_16 (by decide)
                      · skip
                        refine lv_aload_n hx hb dX0_take_47 rfl (lv_at hl 1 rfl) ?_
                        refine wr_get hC hinRX0 hW (vB hi (by decide)) (ce_b0 hi) rfl 2 (by decide) hk2 rfl dX0_take_48 ?_
                        refine lv_iload_n hx hb dX0_take_51 rfl (lv_at hl 0 rfl) ?_
                        refine lv_aload_n hx hb dX0_take_52 rfl (lv_at hl 2 rfl) ?_
                        refine wr_get hC hinRX0 hW (vB hi2 (by decide)) ((ce_o hne).trans (ce_b0 hi2)) rfl 2 (by decide) hk2 rfl dX0_take_53 ?_
                        refine lv_iload_n hx hb dX0_take_56 rfl (lv_at hl 0 rfl) ?_
                        refine wr_ald (kA := 0) hC hW (vB hi2 (by decide)) ((ce_o hne).trans (ce_bp hi2 (by decide))) rfl (vp_in_iff.mpr (by decide)) dX0_take_57 ?_
                        refine lv_re (y := (Z i2) 11 5) ((congrArg ((Z i2) 11) (show (5 : Int32).toNatClampNeg = 5 by decide))) ?_
                        refine wr_ast (kA := 0) (Z' := wset Z i (bput (bput (bput (bput (bput (bput (bput (bput (bput (bput (bput (bput (bput (bput (bput (bput B_9 11 0 ((Z i2) 11 0)) 12 0 ((Z i2) 12 0)) 13 0 ((Z i2) 13 0)) 11 1 ((Z i2) 11 1)) 12 1 ((Z i2) 12 1)) 13 1 ((Z i2) 13 1)) 11 2 ((Z i2) 11 2)) 12 2 ((Z i2) 12 2)) 13 2 ((Z i2) 13 2)) 11 3 ((Z i2) 11 3)) 12 3 ((Z i2) 12 3)) 13 3 ((Z i2) 13 3)) 11 4 ((Z i2) 11 4)) 12 4 ((Z i2) 12 4)) 13 4 ((Z i2) 13 4)) 11 (5 : Int32).toNatClampNeg ((Z i2) 11 5))) hC hW hS (vB hi (by decide)) (ce_bp hi (by decide)) rfl (vp_in_iff.mpr (by decide)) wset_off (pu_bp hi (by decide)) dX0_take_58 (fun H locs hW hS => ?_)
                        have hW : wW G (wset Z i (bput (bput (bput (bput (bput (bput (bput (bput (bput (bput (bput (bput (bput (bput (bput (bput B_9 11 0 ((Z i2) 11 0)) 12 0 ((Z i2) 12 0)) 13 0 ((Z i2) 13 0)) 11 1 ((Z i2) 11 1)) 12 1 ((Z i2) 12 1)) 13 1 ((Z i2) 13 1)) 11 2 ((Z i2) 11 2)) 12 2 ((Z i2) 12 2)) 13 2 ((Z i2) 13 2)) 11 3 ((Z i2) 11 3)) 12 3 ((Z i2) 12 3)) 13 3 ((Z i2) 13 3)) 11 4 ((Z i2) 11 4)) 12 4 ((Z i2) 12 4)) 13 4 ((Z i2) 13 4)) 11 5 ((Z i2) 11 5))) H := hW
                        refine lv_aload_n hx hb dX0_take_59 rfl (lv_at hl 1 rfl) ?_
                        refine wr_get hC hinRX0 hW (vB hi (by decide)) (ce_b0 hi) rfl 3 (by decide) hk3 rfl dX0_take_60 ?_
                        refine lv_iload_n hx hb dX0_take_63 rfl (lv_at hl 0 rfl) ?_
                        refine lv_aload_n hx hb dX0_take_64 rfl (lv_at hl 2 rfl) ?_
                        refine wr_get hC hinRX0 hW (vB hi2 (by decide)) ((ce_o hne).trans (ce_b0 hi2)) rfl 3 (by decide) hk3 rfl dX0_take_65 ?_
                        refine lv_iload_n hx hb dX0_take_68 rfl (lv_at hl 0 rfl) ?_
                        refine wr_ald (kA := 0) hC hW (vB hi2 (by decide)) ((ce_o hne).trans (ce_bp hi2 (by decide))) rfl (vp_in_iff.mpr (by decide)) dX0_take_69 ?_
                        refine lv_re (y := (Z i2) 12 5) ((congrArg ((Z i2) 12) (show (5 : Int32).toNatClampNeg = 5 by decide))) ?_
                        refine wr_ast (kA := 0) (Z' := wset Z i (bput (bput (bput (bput (bput (bput (bput (bput (bput (bput (bput (bput (bput (bput (bput (bput (bput B_9 11 0 ((Z i2) 11 0)) 12 0 ((Z i2) 12 0)) 13 0 ((Z i2) 13 0)) 11 1 ((Z i2) 11 1)) 12 1 ((Z i2) 12 1)) 13 1 ((Z i2) 13 1)) 11 2 ((Z i2) 11 2)) 12 2 ((Z i2) 12 2)) 13 2 ((Z i2) 13 2)) 11 3 ((Z i2) 11 3)) 12 3 ((Z i2) 12 3)) 13 3 ((Z i2) 13 3)) 11 4 ((Z i2) 11 4)) 12 4 ((Z i2) 12 4)) 13 4 ((Z i2) 13 4)) 11 5 ((Z i2) 11 5)) 12 (5 : Int32).toNatClampNeg ((Z i2) 12 5))) hC hW hS (vB hi (by decide)) (ce_bp hi (by decide)) rfl (vp_in_iff.mpr (by decide)) wset_off (pu_bp hi (by decide)) dX0_take_70 (fun H locs hW hS => ?_)
                        have hW : wW G (wset Z i (bput (bput (bput (bput (bput (bput (bput (bput (bput (bput (bput (bput (bput (bput (bput (bput (bput B_9 11 0 ((Z i2) 11 0)) 12 0 ((Z i2) 12 0)) 13 0 ((Z i2) 13 0)) 11 1 ((Z i2) 11 1)) 12 1 ((Z i2) 12 1)) 13 1 ((Z i2) 13 1)) 11 2 ((Z i2) 11 2)) 12 2 ((Z i2) 12 2)) 13 2 ((Z i2) 13 2)) 11 3 ((Z i2) 11 3)) 12 3 ((Z i2) 12 3)) 13 3 ((Z i2) 13 3)) 11 4 ((Z i2) 11 4)) 12 4 ((Z i2) 12 4)) 13 4 ((Z i2) 13 4)) 11 5 ((Z i2) 11 5)) 12 5 ((Z i2) 12 5))) H := hW
                        refine lv_aload_n hx hb dX0_take_71 rfl (lv_at hl 1 rfl) ?_
                        refine wr_get hC hinRX0 hW (vB hi (by decide)) (ce_b0 hi) rfl 4 (by decide) hk4 rfl dX0_take_72 ?_
                        refine lv_iload_n hx hb dX0_take_75 rfl (lv_at hl 0 rfl) ?_
                        refine lv_aload_n hx hb dX0_take_76 rfl (lv_at hl 2 rfl) ?_
                        refine wr_get hC hinRX0 hW (vB hi2 (by decide)) ((ce_o hne).trans (ce_b0 hi2)) rfl 4 (by decide) hk4 rfl dX0_take_77 ?_
                        refine lv_iload_n hx hb dX0_take_80 rfl (lv_at hl 0 rfl) ?_
                        refine wr_ald (kA := 0) hC hW (vB hi2 (by decide)) ((ce_o hne).trans (ce_bp hi2 (by decide))) rfl (vp_in_iff.mpr (by decide)) dX0_take_81 ?_
                        refine lv_re (y := (Z i2) 13 5) ((congrArg ((Z i2) 13) (show (5 : Int32).toNatClampNeg = 5 by decide))) ?_
                        refine wr_ast (kA := 0) (Z' := wset Z i (bput (bput (bput (bput (bput (bput (bput (bput (bput (bput (bput (bput (bput (bput (bput (bput (bput (bput B_9 11 0 ((Z i2) 11 0)) 12 0 ((Z i2) 12 0)) 13 0 ((Z i2) 13 0)) 11 1 ((Z i2) 11 1)) 12 1 ((Z i2) 12 1)) 13 1 ((Z i2) 13 1)) 11 2 ((Z i2) 11 2)) 12 2 ((Z i2) 12 2)) 13 2 ((Z i2) 13 2)) 11 3 ((Z i2) 11 3)) 12 3 ((Z i2) 12 3)) 13 3 ((Z i2) 13 3)) 11 4 ((Z i2) 11 4)) 12 4 ((Z i2) 12 4)) 13 4 ((Z i2) 13 4)) 11 5 ((Z i2) 11 5)) 12 5 ((Z i2) 12 5)) 13 (5 : Int32).toNatClampNeg ((Z i2) 13 5))) hC hW hS (vB hi (by decide)) (ce_bp hi (by decide)) rfl (vp_in_iff.mpr (by decide)) wset_off (pu_bp hi (by decide)) dX0_take_82 (fun H locs hW hS => ?_)
                        have hW : wW G (wset Z i (bput (bput (bput (bput (bput (bput (bput (bput (bput (bput (bput (bput (bput (bput (bput (bput (bput (bput B_9 11 0 ((Z i2) 11 0)) 12 0 ((Z i2) 12 0)) 13 0 ((Z i2) 13 0)) 11 1 ((Z i2) 11 1)) 12 1 ((Z i2) 12 1)) 13 1 ((Z i2) 13 1)) 11 2 ((Z i2) 11 2)) 12 2 ((Z i2) 12 2)) 13 2 ((Z i2) 13 2)) 11 3 ((Z i2) 11 3)) 12 3 ((Z i2) 12 3)) 13 3 ((Z i2) 13 3)) 11 4 ((Z i2) 11 4)) 12 4 ((Z i2) 12 4)) 13 4 ((Z i2) 13 4)) 11 5 ((Z i2) 11 5)) 12 5 ((Z i2) 12 5)) 13 5 ((Z i2) 13 5))) H := hW
                        refine lv_iinc (v := 6) (lv' := [(2, .int 6), (0, .ref (G.2.2.1 i 0)), (1, .ref (G.2.2.1 i2 0))]) hx hb dX0_take_83 hl (k := 0) rfl (by decide) (by decide) rfl (fun ls hl => ?_)
                        refine lv_goto (tgt := 41) hx hb dX0_take_86 (by decide) ?_
                        refine lv_iload_n hx hb dX0_take_41 rfl (lv_at hl 0 rfl) ?_
                        refine lv_bipush (v := 12) hx hb dX0_take_42 (by decide) ?_
                        refine lv_icmp_ge (tgt := 89) hx hb dX0_take_44 (by decide) (fun c_17 => ?_) (fun c_17 => ?_)
                        · exact absurd c_17 (by decide)
                        · skip
                          refine lv_aload_n hx hb dX0_take_47 rfl (lv_at hl 1 rfl) ?_
                          refine wr_get hC hinRX0 hW (vB hi (by decide)) (ce_b0 hi) rfl 2 (by decide) hk2 rfl dX0_take_48 ?_
                          refine lv_iload_n hx hb dX0_take_51 rfl (lv_at hl 0 rfl) ?_
                          refine lv_aload_n hx hb dX0_take_52 rfl (lv_at hl 2 rfl) ?_
                          refine wr_get hC hinRX0 hW (vB hi2 (by decide)) ((ce_o hne).trans (ce_b0 hi2)) rfl 2 (by decide) hk2 rfl dX0_take_53 ?_
                          refine lv_iload_n hx hb dX0_take_56 rfl (lv_at hl 0 rfl) ?_
                          refine wr_ald (kA := 0) hC hW (vB hi2 (by decide)) ((ce_o hne).trans (ce_bp hi2 (by decide))) rfl (vp_in_iff.mpr (by decide)) dX0_take_57 ?_
                          refine lv_re (y := (Z i2) 11 6) ((congrArg ((Z i2) 11) (show (6 : Int32).toNatClampNeg = 6 by decide))) ?_
                          refine wr_ast (kA := 0) (Z' := wset Z i (bput (bput (bput (bput (bput (bput (bput (bput (bput (bput (bput (bput (bput (bput (bput (bput (bput (bput (bput B_9 11 0 ((Z i2) 11 0)) 12 0 ((Z i2) 12 0)) 13 0 ((Z i2) 13 0)) 11 1 ((Z i2) 11 1)) 12 1 ((Z i2) 12 1)) 13 1 ((Z i2) 13 1)) 11 2 ((Z i2) 11 2)) 12 2 ((Z i2) 12 2)) 13 2 ((Z i2) 13 2)) 11 3 ((Z i2) 11 3)) 12 3 ((Z i2) 12 3)) 13 3 ((Z i2) 13 3)) 11 4 ((Z i2) 11 4)) 12 4 ((Z i2) 12 4)) 13 4 ((Z i2) 13 4)) 11 5 ((Z i2) 11 5)) 12 5 ((Z i2) 12 5)) 13 5 ((Z i2) 13 5)) 11 (6 : Int32).toNatClampNeg ((Z i2) 11 6))) hC hW hS (vB hi (by decide)) (ce_bp hi (by decide)) rfl (vp_in_iff.mpr (by decide)) wset_off (pu_bp hi (by decide)) dX0_take_58 (fun H locs hW hS => ?_)
                          have hW : wW G (wset Z i (bput (bput (bput (bput (bput (bput (bput (bput (bput (bput (bput (bput (bput (bput (bput (bput (bput (bput (bput B_9 11 0 ((Z i2) 11 0)) 12 0 ((Z i2) 12 0)) 13 0 ((Z i2) 13 0)) 11 1 ((Z i2) 11 1)) 12 1 ((Z i2) 12 1)) 13 1 ((Z i2) 13 1)) 11 2 ((Z i2) 11 2)) 12 2 ((Z i2) 12 2)) 13 2 ((Z i2) 13 2)) 11 3 ((Z i2) 11 3)) 12 3 ((Z i2) 12 3)) 13 3 ((Z i2) 13 3)) 11 4 ((Z i2) 11 4)) 12 4 ((Z i2) 12 4)) 13 4 ((Z i2) 13 4)) 11 5 ((Z i2) 11 5)) 12 5 ((Z i2) 12 5)) 13 5 ((Z i2) 13 5)) 11 6 ((Z i2) 11 6))) H := hW
                          refine lv_aload_n hx hb dX0_take_59 rfl (lv_at hl 1 rfl) ?_
                          refine wr_get hC hinRX0 hW (vB hi (by decide)) (ce_b0 hi) rfl 3 (by decide) hk3 rfl dX0_take_60 ?_
                          refine lv_iload_n hx hb dX0_take_63 rfl (lv_at hl 0 rfl) ?_
                          refine lv_aload_n hx hb dX0_take_64 rfl (lv_at hl 2 rfl) ?_
                          refine wr_get hC hinRX0 hW (vB hi2 (by decide)) ((ce_o hne).trans (ce_b0 hi2)) rfl 3 (by decide) hk3 rfl dX0_take_65 ?_
                          refine lv_iload_n hx hb dX0_take_68 rfl (lv_at hl 0 rfl) ?_
                          refine wr_ald (kA := 0) hC hW (vB hi2 (by decide)) ((ce_o hne).trans (ce_bp hi2 (by decide))) rfl (vp_in_iff.mpr (by decide)) dX0_take_69 ?_
                          refine lv_re (y := (Z i2) 12 6) ((congrArg ((Z i2) 12) (show (6 : Int32).toNatClampNeg = 6 by decide))) ?_
                          refine wr_ast (kA := 0) (Z' := wset Z i (bput (bput (bput (bput (bput (bput (bput (bput (bput (bput (bput (bput (bput (bput (bput (bput (bput (bput (bput (bput B_9 11 0 ((Z i2) 11 0)) 12 0 ((Z i2) 12 0)) 13 0 ((Z i2) 13 0)) 11 1 ((Z i2) 11 1)) 12 1 ((Z i2) 12 1)) 13 1 ((Z i2) 13 1)) 11 2 ((Z i2) 11 2)) 12 2 ((Z i2) 12 2)) 13 2 ((Z i2) 13 2)) 11 3 ((Z i2) 11 3)) 12 3 ((Z i2) 12 3)) 13 3 ((Z i2) 13 3)) 11 4 ((Z i2) 11 4)) 12 4 ((Z i2) 12 4)) 13 4 ((Z i2) 13 4)) 11 5 ((Z i2) 11 5)) 12 5 ((Z i2) 12 5)) 13 5 ((Z i2) 13 5)) 11 6 ((Z i2) 11 6)) 12 (6 : Int32).toNatClampNeg ((Z i2) 12 6))) hC hW hS (vB hi (by decide)) (ce_bp hi (by decide)) rfl (vp_in_iff.mpr (by decide)) wset_off (pu_bp hi (by decide)) dX0_take_70 (fun H locs hW hS => ?_)
                          have hW : wW G (wset Z i (bput (bput (bput (bput (bput (bput (bput (bput (bput (bput (bput (bput (bput (bput (bput (bput (bput (bput (bput (bput B_9 11 0 ((Z i2) 11 0)) 12 0 ((Z i2) 12 0)) 13 0 ((Z i2) 13 0)) 11 1 ((Z i2) 11 1)) 12 1 ((Z i2) 12 1)) 13 1 ((Z i2) 13 1)) 11 2 ((Z i2) 11 2)) 12 2 ((Z i2) 12 2)) 13 2 ((Z i2) 13 2)) 11 3 ((Z i2) 11 3)) 12 3 ((Z i2) 12 3)) 13 3 ((Z i2) 13 3)) 11 4 ((Z i2) 11 4)) 12 4 ((Z i2) 12 4)) 13 4 ((Z i2) 13 4)) 11 5 ((Z i2) 11 5)) 12 5 ((Z i2) 12 5)) 13 5 ((Z i2) 13 5)) 11 6 ((Z i2) 11 6)) 12 6 ((Z i2) 12 6))) H := hW
                          refine lv_aload_n hx hb dX0_take_71 rfl (lv_at hl 1 rfl) ?_
                          refine wr_get hC hinRX0 hW (vB hi (by decide)) (ce_b0 hi) rfl 4 (by decide) hk4 rfl dX0_take_72 ?_
                          refine lv_iload_n hx hb dX0_take_75 rfl (lv_at hl 0 rfl) ?_
                          refine lv_aload_n hx hb dX0_take_76 rfl (lv_at hl 2 rfl) ?_
                          refine wr_get hC hinRX0 hW (vB hi2 (by decide)) ((ce_o hne).trans (ce_b0 hi2)) rfl 4 (by decide) hk4 rfl dX0_take_77 ?_
                          refine lv_iload_n hx hb dX0_take_80 rfl (lv_at hl 0 rfl) ?_
                          refine wr_ald (kA := 0) hC hW (vB hi2 (by decide)) ((ce_o hne).trans (ce_bp hi2 (by decide))) rfl (vp_in_iff.mpr (by decide)) dX0_take_81 ?_
                          refine lv_re (y := (Z i2) 13 6) ((congrArg ((Z i2) 13) (show (6 : Int32).toNatClampNeg = 6 by decide))) ?_
                          refine wr_ast (kA := 0) (Z' := wset Z i (bput (bput (bput (bput (bput (bput (bput (bput (bput (bput (bput (bput (bput (bput (bput (bput (bput (bput (bput (bput (bput B_9 11 0 ((Z i2) 11 0)) 12 0 ((Z i2) 12 0)) 13 0 ((Z i2) 13 0)) 11 1 ((Z i2) 11 1)) 12 1 ((Z i2) 12 1)) 13 1 ((Z i2) 13 1)) 11 2 ((Z i2) 11 2)) 12 2 ((Z i2) 12 2)) 13 2 ((Z i2) 13 2)) 11 3 ((Z i2) 11 3)) 12 3 ((Z i2) 12 3)) 13 3 ((Z i2) 13 3)) 11 4 ((Z i2) 11 4)) 12 4 ((Z i2) 12 4)) 13 4 ((Z i2) 13 4)) 11 5 ((Z i2) 11 5)) 12 5 ((Z i2) 12 5)) 13 5 ((Z i2) 13 5)) 11 6 ((Z i2) 11 6)) 12 6 ((Z i2) 12 6)) 13 (6 : Int32).toNatClampNeg ((Z i2) 13 6))) hC hW hS (vB hi (by decide)) (ce_bp hi (by decide)) rfl (vp_in_iff.mpr (by decide)) wset_off (pu_bp hi (by decide)) dX0_take_82 (fun H locs hW hS => ?_)
                          have hW : wW G (wset Z i (bput (bput (bput (bput (bput (bput (bput (bput (bput (bput (bput (bput (bput (bput (bput (bput (bput (bput (bput (bput (bput B_9 11 0 ((Z i2) 11 0)) 12 0 ((Z i2) 12 0)) 13 0 ((Z i2) 13 0)) 11 1 ((Z i2) 11 1)) 12 1 ((Z i2) 12 1)) 13 1 ((Z i2) 13 1)) 11 2 ((Z i2) 11 2)) 12 2 ((Z i2) 12 2)) 13 2 ((Z i2) 13 2)) 11 3 ((Z i2) 11 3)) 12 3 ((Z i2) 12 3)) 13 3 ((Z i2) 13 3)) 11 4 ((Z i2) 11 4)) 12 4 ((Z i2) 12 4)) 13 4 ((Z i2) 13 4)) 11 5 ((Z i2) 11 5)) 12 5 ((Z i2) 12 5)) 13 5 ((Z i2) 13 5)) 11 6 ((Z i2) 11 6)) 12 6 ((Z i2) 12 6)) 13 6 ((Z i2) 13 6))) H := hW
                          refine lv_iinc (v := 7) (lv' := [(2, .int 7), (0, .ref (G.2.2.1 i 0)), (1, .ref (G.2.2.1 i2 0))]) hx hb dX0_take_83 hl (k := 0) rfl (by decide) (by decide) rfl (fun ls hl => ?_)
                          refine lv_goto (tgt := 41) hx hb dX0_take_86 (by decide) ?_
                          refine lv_iload_n hx hb dX0_take_41 rfl (lv_at hl 0 rfl) ?_
                          refine lv_bipush (v := 12) hx hb dX0_take_42 (by decide) ?_
                          refine lv_icmp_ge (tgt := 89) hx hb dX0_take_44 (by decide) (fun c_18 => ?_) (fun c_18 => ?_)
                          · exact absurd c_18 (by decide)
                          · skip
                            refine lv_aload_n hx hb dX0_take_47 rfl (lv_at hl 1 rfl) ?_
                            refine wr_get hC hinRX0 hW (vB hi (by decide)) (ce_b0 hi) rfl 2 (by decide) hk2 rfl dX0_take_48 ?_
                            refine lv_iload_n hx hb dX0_take_51 rfl (lv_at hl 0 rfl) ?_
                            refine lv_aload_n hx hb dX0_take_52 rfl (lv_at hl 2 rfl) ?_
                            refine wr_get hC hinRX0 hW (vB hi2 (by decide)) ((ce_o hne).trans (ce_b0 hi2)) rfl 2 (by decide) hk2 rfl dX0_take_53 ?_
                            refine lv_iload_n hx hb dX0_take_56 rfl (lv_at hl 0 rfl) ?_
                            refine wr_ald (kA := 0) hC hW (vB hi2 (by decide)) ((ce_o hne).trans (ce_bp hi2 (by decide))) rfl (vp_in_iff.mpr (by decide)) dX0_take_57 ?_
                            refine lv_re (y := (Z i2) 11 7) ((congrArg ((Z i2) 11) (show (7 : Int32).toNatClampNeg = 7 by decide))) ?_
                            refine wr_ast (kA := 0) (Z' := wset Z i (bput (bput (bput (bput (bput (bput (bput (bput (bput (bput (bput (bput (bput (bput (bput (bput (bput (bput (bput (bput (bput (bput B_9 11 0 ((Z i2) 11 0)) 12 0 ((Z i2) 12 0)) 13 0 ((Z i2) 13 0)) 11 1 ((Z i2) 11 1)) 12 1 ((Z i2) 12 1)) 13 1 ((Z i2) 13 1)) 11 2 ((Z i2) 11 2)) 12 2 ((Z i2) 12 2)) 13 2 ((Z i2) 13 2)) 11 3 ((Z i2) 11 3)) 12 3 ((Z i2) 12 3)) 13 3 ((Z i2) 13 3)) 11 4 ((Z i2) 11 4)) 12 4 ((Z i2) 12 4)) 13 4 ((Z i2) 13 4)) 11 5 ((Z i2) 11 5)) 12 5 ((Z i2) 12 5)) 13 5 ((Z i2) 13 5)) 11 6 ((Z i2) 11 6)) 12 6 ((Z i2) 12 6)) 13 6 ((Z i2) 13 6)) 11 (7 : Int32).toNatClampNeg ((Z i2) 11 7))) hC hW hS (vB hi (by decide)) (ce_bp hi (by decide)) rfl (vp_in_iff.mpr (by decide)) wset_off (pu_bp hi (by decide)) dX0_take_58 (fun H locs hW hS => ?_)
                            have hW : wW G (wset Z i (bput (bput (bput (bput (bput (bput (bput (bput (bput (bput (bput (bput (bput (bput (bput (bput (bput (bput (bput (bput (bput (bput B_9 11 0 ((Z i2) 11 0)) 12 0 ((Z i2) 12 0)) 13 0 ((Z i2) 13 0)) 11 1 ((Z i2) 11 1)) 12 1 ((Z i2) 12 1)) 13 1 ((Z i2) 13 1)) 11 2 ((Z i2) 11 2)) 12 2 ((Z i2) 12 2)) 13 2 ((Z i2) 13 2)) 11 3 ((Z i2) 11 3)) 12 3 ((Z i2) 12 3)) 13 3 ((Z i2) 13 3)) 11 4 ((Z i2) 11 4)) 12 4 ((Z i2) 12 4)) 13 4 ((Z i2) 13 4)) 11 5 ((Z i2) 11 5)) 12 5 ((Z i2) 12 5)) 13 5 ((Z i2) 13 5)) 11 6 ((Z i2) 11 6)) 12 6 ((Z i2) 12 6)) 13 6 ((Z i2) 13 6)) 11 7 ((Z i2) 11 7))) H := hW
                            refine lv_aload_n hx hb dX0_take_59 rfl (lv_at hl 1 rfl) ?_
                            refine wr_get hC hinRX0 hW (vB hi (by decide)) (ce_b0 hi) rfl 3 (by decide) hk3 rfl dX0_take_60 ?_
                            refine lv_iload_n hx hb dX0_take_63 rfl (lv_at hl 0 rfl) ?_
                            refine lv_aload_n hx hb dX0_take_64 rfl (lv_at hl 2 rfl) ?_
                            refine wr_get hC hinRX0 hW (vB hi2 (by decide)) ((ce_o hne).trans (ce_b0 hi2)) rfl 3 (by decide) hk3 rfl dX0_take_65 ?_
                            refine lv_iload_n hx hb dX0_take_68 rfl (lv_at hl 0 rfl) ?_
                            refine wr_ald (kA := 0) hC hW (vB hi2 (by decide)) ((ce_o hne).trans (ce_bp hi2 (by decide))) rfl (vp_in_iff.mpr (by decide)) dX0_take_69 ?_
                            refine lv_re (y := (Z i2) 12 7) ((congrArg ((Z i2) 12) (show (7 : Int32).toNatClampNeg = 7 by decide))) ?_
                            refine wr_ast (kA := 0) (Z' := wset Z i (bput (bput (bput (bput (bput (bput (bput (bput (bput (bput (bput (bput (bput (bput (bput (bput (bput (bput (bput (bput (bput (bput (bput B_9 11 0 ((Z i2) 11 0)) 12 0 ((Z i2) 12 0)) 13 0 ((Z i2) 13 0)) 11 1 ((Z i2) 11 1)) 12 1 ((Z i2) 12 1)) 13 1 ((Z i2) 13 1)) 11 2 ((Z i2) 11 2)) 12 2 ((Z i2) 12 2)) 13 2 ((Z i2) 13 2)) 11 3 ((Z i2) 11 3)) 12 3 ((Z i2) 12 3)) 13 3 ((Z i2) 13 3)) 11 4 ((Z i2) 11 4)) 12 4 ((Z i2) 12 4)) 13 4 ((Z i2) 13 4)) 11 5 ((Z i2) 11 5)) 12 5 ((Z i2) 12 5)) 13 5 ((Z i2) 13 5)) 11 6 ((Z i2) 11 6)) 12 6 ((Z i2) 12 6)) 13 6 ((Z i2) 13 6)) 11 7 ((Z i2) 11 7)) 12 (7 : Int32).toNatClampNeg ((Z i2) 12 7))) hC hW hS (vB hi (by decide)) (ce_bp hi (by decide)) rfl (vp_in_iff.mpr (by decide)) wset_off (pu_bp hi (by decide)) dX0_take_70 (fun H locs hW hS => ?_)
                            have hW : wW G (wset Z i (bput (bput (bput (bput (bput (bput (bput (bput (bput (bput (bput (bput (bput (bput (bput (bput (bput (bput (bput (bput (bput (bput (bput B_9 11 0 ((Z i2) 11 0)) 12 0 ((Z i2) 12 0)) 13 0 ((Z i2) 13 0)) 11 1 ((Z i2) 11 1)) 12 1 ((Z i2) 12 1)) 13 1 ((Z i2) 13 1)) 11 2 ((Z i2) 11 2)) 12 2 ((Z i2) 12 2)) 13 2 ((Z i2) 13 2)) 11 3 ((Z i2) 11 3)) 12 3 ((Z i2) 12 3)) 13 3 ((Z i2) 13 3)) 11 4 ((Z i2) 11 4)) 12 4 ((Z i2) 12 4)) 13 4 ((Z i2) 13 4)) 11 5 ((Z i2) 11 5)) 12 5 ((Z i2) 12 5)) 13 5 ((Z i2) 13 5)) 11 6 ((Z i2) 11 6)) 12 6 ((Z i2) 12 6)) 13 6 ((Z i2) 13 6)) 11 7 ((Z i2) 11 7)) 12 7 ((Z i2) 12 7))) H := hW
                            refine lv_aload_n hx hb dX0_take_71 rfl (lv_at hl 1 rfl) ?_
                            refine wr_get hC hinRX0 hW (vB hi (by decide)) (ce_b0 hi) rfl 4 (by decide) hk4 rfl dX0_take_72 ?_
                            refine lv_iload_n hx hb dX0_take_75 rfl (lv_at hl 0 rfl) ?_
                            refine lv_aload_n hx hb dX0_take_76 rfl (lv_at hl 2 rfl) ?_
                            refine wr_get hC hinRX0 hW (vB hi2 (by decide)) ((ce_o hne).trans (ce_b0 hi2)) rfl 4 (by decide) hk4 rfl dX0_take_77 ?_
                            refine lv_iload_n hx hb dX0_take_80 rfl (lv_at hl 0 rfl) ?_
                            refine wr_ald (kA := 0) hC hW (vB hi2 (by decide)) ((ce_o hne).trans (ce_bp hi2 (by decide))) rfl (vp_in_iff.mpr (by decide)) dX0_take_81 ?_
                            refine lv_re (y := (Z i2) 13 7) ((congrArg ((Z i2) 13) (show (7 : Int32).toNatClampNeg = 7 by decide))) ?_
                            refine wr_ast (kA := 0) (Z' := wset Z i (bput (bput (bput (bput (bput (bput (bput (bput (bput (bput (bput (bput (bput (bput (bput (bput (bput (bput (bput (bput (bput (bput (bput (bput B_9 11 0 ((Z i2) 11 0)) 12 0 ((Z i2) 12 0)) 13 0 ((Z i2) 13 0)) 11 1 ((Z i2) 11 1)) 12 1 ((Z i2) 12 1)) 13 1 ((Z i2) 13 1)) 11 2 ((Z i2) 11 2)) 12 2 ((Z i2) 12 2)) 13 2 ((Z i2) 13 2)) 11 3 ((Z i2) 11 3)) 12 3 ((Z i2) 12 3)) 13 3 ((Z i2) 13 3)) 11 4 ((Z i2) 11 4)) 12 4 ((Z i2) 12 4)) 13 4 ((Z i2) 13 4)) 11 5 ((Z i2) 11 5)) 12 5 ((Z i2) 12 5)) 13 5 ((Z i2) 13 5)) 11 6 ((Z i2) 11 6)) 12 6 ((Z i2) 12 6)) 13 6 ((Z i2) 13 6)) 11 7 ((Z i2) 11 7)) 12 7 ((Z i2) 12 7)) 13 (7 : Int32).toNatClampNeg ((Z i2) 13 7))) hC hW hS (vB hi (by decide)) (ce_bp hi (by decide)) rfl (vp_in_iff.mpr (by decide)) wset_off (pu_bp hi (by decide)) dX0_take_82 (fun H locs hW hS => ?_)
                            have hW : wW G (wset Z i (bput (bput (bput (bput (bput (bput (bput (bput (bput (bput (bput (bput (bput (bput (bput (bput (bput (bput (bput (bput (bput (bput (bput (bput B_9 11 0 ((Z i2) 11 0)) 12 0 ((Z i2) 12 0)) 13 0 ((Z i2) 13 0)) 11 1 ((Z i2) 11 1)) 12 1 ((Z i2) 12 1)) 13 1 ((Z i2) 13 1)) 11 2 ((Z i2) 11 2)) 12 2 ((Z i2) 12 2)) 13 2 ((Z i2) 13 2)) 11 3 ((Z i2) 11 3)) 12 3 ((Z i2) 12 3)) 13 3 ((Z i2) 13 3)) 11 4 ((Z i2) 11 4)) 12 4 ((Z i2) 12 4)) 13 4 ((Z i2) 13 4)) 11 5 ((Z i2) 11 5)) 12 5 ((Z i2) 12 5)) 13 5 ((Z i2) 13 5)) 11 6 ((Z i2) 11 6)) 12 6 ((Z i2) 12 6)) 13 6 ((Z i2) 13 6)) 11 7 ((Z i2) 11 7)) 12 7 ((Z i2) 12 7)) 13 7 ((Z i2) 13 7))) H := hW
                            refine lv_iinc (v := 8) (lv' := [(2, .int 8), (0, .ref (G.2.2.1 i 0)), (1, .ref (G.2.2.1 i2 0))]) hx hb dX0_take_83 hl (k := 0) rfl (by decide) (by decide) rfl (fun ls hl => ?_)
                            refine lv_goto (tgt := 41) hx hb dX0_take_86 (by decide) ?_
                            refine lv_iload_n hx hb dX0_take_41 rfl (lv_at hl 0 rfl) ?_
                            refine lv_bipush (v := 12) hx hb dX0_take_42 (by decide) ?_
                            refine lv_icmp_ge (tgt := 89) hx hb dX0_take_44 (by decide) (fun c_19 => ?_) (fun c_19 => ?_)
                            · exact absurd c_19 (by decide)
                            · skip
                              refine lv_aload_n hx hb dX0_take_47 rfl (lv_at hl 1 rfl) ?_
                              refine wr_get hC hinRX0 hW (vB hi (by decide)) (ce_b0 hi) rfl 2 (by decide) hk2 rfl dX0_take_48 ?_
                              refine lv_iload_n hx hb dX0_take_51 rfl (lv_at hl 0 rfl) ?_
                              refine lv_aload_n hx hb dX0_take_52 rfl (lv_at hl 2 rfl) ?_
                              refine wr_get hC hinRX0 hW (vB hi2 (by decide)) ((ce_o hne).trans (ce_b0 hi2)) rfl 2 (by decide) hk2 rfl dX0_take_53 ?_
                              refine lv_iload_n hx hb dX0_take_56 rfl (lv_at hl 0 rfl) ?_
                              refine wr_ald (kA := 0) hC hW (vB hi2 (by decide)) ((ce_o hne).trans (ce_bp hi2 (by decide))) rfl (vp_in_iff.mpr (by decide)) dX0_take_57 ?_
                              refine lv_re (y := (Z i2) 11 8) ((congrArg ((Z i2) 11) (show (8 : Int32).toNatClampNeg = 8 by decide))) ?_
                              refine wr_ast (kA := 0) (Z' := wset Z i (bput (bput (bput (bput (bput (bput (bput (bput (bput (bput (bput (bput (bput (bput (bput (bput (bput (bput (bput (bput (bput (bput (bput (bput (bput B_9 11 0 ((Z i2) 11 0)) 12 0 ((Z i2) 12 0)) 13 0 ((Z i2) 13 0)) 11 1 ((Z i2) 11 1)) 12 1 ((Z i2) 12 1)) 13 1 ((Z i2) 13 1)) 11 2 ((Z i2) 11 2)) 12 2 ((Z i2) 12 2)) 13 2 ((Z i2) 13 2)) 11 3 ((Z i2) 11 3)) 12 3 ((Z i2) 12 3)) 13 3 ((Z i2) 13 3)) 11 4 ((Z i2) 11 4)) 12 4 ((Z i2) 12 4)) 13 4 ((Z i2) 13 4)) 11 5 ((Z i2) 11 5)) 12 5 ((Z i2) 12 5)) 13 5 ((Z i2) 13 5)) 11 6 ((Z i2) 11 6)) 12 6 ((Z i2) 12 6)) 13 6 ((Z i2) 13 6)) 11 7 ((Z i2) 11 7)) 12 7 ((Z i2) 12 7)) 13 7 ((Z i2) 13 7)) 11 (8 : Int32).toNatClampNeg ((Z i2) 11 8))) hC hW hS (vB hi (by decide)) (ce_bp hi (by decide)) rfl (vp_in_iff.mpr (by decide)) wset_off (pu_bp hi (by decide)) dX0_take_58 (fun H locs hW hS => ?_)
                              have hW : wW G (wset Z i (bput (bput (bput (bput (bput (bput (bput (bput (bput (bput (bput (bput (bput (bput (bput (bput (bput (bput (bput (bput (bput (bput (bput (bput (bput B_9 11 0 ((Z i2) 11 0)) 12 0 ((Z i2) 12 0)) 13 0 ((Z i2) 13 0)) 11 1 ((Z i2) 11 1)) 12 1 ((Z i2) 12 1)) 13 1 ((Z i2) 13 1)) 11 2 ((Z i2) 11 2)) 12 2 ((Z i2) 12 2)) 13 2 ((Z i2) 13 2)) 11 3 ((Z i2) 11 3)) 12 3 ((Z i2) 12 3)) 13 3 ((Z i2) 13 3)) 11 4 ((Z i2) 11 4)) 12 4 ((Z i2) 12 4)) 13 4 ((Z i2) 13 4)) 11 5 ((Z i2) 11 5)) 12 5 ((Z i2) 12 5)) 13 5 ((Z i2) 13 5)) 11 6 ((Z i2) 11 6)) 12 6 ((Z i2) 12 6)) 13 6 ((Z i2) 13 6)) 11 7 ((Z i2) 11 7)) 12 7 ((Z i2) 12 7)) 13 7 ((Z i2) 13 7)) 11 8 ((Z i2) 11 8))) H := hW
                              refine lv_aload_n hx hb dX0_take_59 rfl (lv_at hl 1 rfl) ?_
                              refine wr_get hC hinRX0 hW (vB hi (by decide)) (ce_b0 hi) rfl 3 (by decide) hk3 rfl dX0_take_60 ?_
                              refine lv_iload_n hx hb dX0_take_63 rfl (lv_at hl 0 rfl) ?_
                              refine lv_aload_n hx hb dX0_take_64 rfl (lv_at hl 2 rfl) ?_
                              refine wr_get hC hinRX0 hW (vB hi2 (by decide)) ((ce_o hne).trans (ce_b0 hi2)) rfl 3 (by decide) hk3 rfl dX0_take_65 ?_
                              refine lv_iload_n hx hb dX0_take_68 rfl (lv_at hl 0 rfl) ?_
                              refine wr_ald (kA := 0) hC hW (vB hi2 (by decide)) ((ce_o hne).trans (ce_bp hi2 (by decide))) rfl (vp_in_iff.mpr (by decide)) dX0_take_69 ?_
                              refine lv_re (y := (Z i2) 12 8) ((congrArg ((Z i2) 12) (show (8 : Int32).toNatClampNeg = 8 by decide))) ?_
                              refine wr_ast (kA := 0) (Z' := wset Z i (bput (bput (bput (bput (bput (bput (bput (bput (bput (bput (bput (bput (bput (bput (bput (bput (bput (bput (bput (bput (bput (bput (bput (bput (bput (bput B_9 11 0 ((Z i2) 11 0)) 12 0 ((Z i2) 12 0)) 13 0 ((Z i2) 13 0)) 11 1 ((Z i2) 11 1)) 12 1 ((Z i2) 12 1)) 13 1 ((Z i2) 13 1)) 11 2 ((Z i2) 11 2)) 12 2 ((Z i2) 12 2)) 13 2 ((Z i2) 13 2)) 11 3 ((Z i2) 11 3)) 12 3 ((Z i2) 12 3)) 13 3 ((Z i2) 13 3)) 11 4 ((Z i2) 11 4)) 12 4 ((Z i2) 12 4)) 13 4 ((Z i2) 13 4)) 11 5 ((Z i2) 11 5)) 12 5 ((Z i2) 12 5)) 13 5 ((Z i2) 13 5)) 11 6 ((Z i2) 11 6)) 12 6 ((Z i2) 12 6)) 13 6 ((Z i2) 13 6)) 11 7 ((Z i2) 11 7)) 12 7 ((Z i2) 12 7)) 13 7 ((Z i2) 13 7)) 11 8 ((Z i2) 11 8)) 12 (8 : Int32).toNatClampNeg ((Z i2) 12 8))) hC hW hS (vB hi (by decide)) (ce_bp hi (by decide)) rfl (vp_in_iff.mpr (by decide)) wset_off (pu_bp hi (by decide)) dX0_take_70 (fun H locs hW hS => ?_)
                              have hW : wW G (wset Z i (bput (bput (bput (bput (bput (bput (bput (bput (bput (bput (bput (bput (bput (bput (bput (bput (bput (bput (bput (bput (bput (bput (bput (bput (bput (bput B_9 11 0 ((Z i2) 11 0)) 12 0 ((Z i2) 12 0)) 13 0 ((Z i2) 13 0)) 11 1 ((Z i2) 11 1)) 12 1 ((Z i2) 12 1)) 13 1 ((Z i2) 13 1)) 11 2 ((Z i2) 11 2)) 12 2 ((Z i2) 12 2)) 13 2 ((Z i2) 13 2)) 11 3 ((Z i2) 11 3)) 12 3 ((Z i2) 12 3)) 13 3 ((Z i2) 13 3)) 11 4 ((Z i2) 11 4)) 12 4 ((Z i2) 12 4)) 13 4 ((Z i2) 13 4)) 11 5 ((Z i2) 11 5)) 12 5 ((Z i2) 12 5)) 13 5 ((Z i2) 13 5)) 11 6 ((Z i2) 11 6)) 12 6 ((Z i2) 12 6)) 13 6 ((Z i2) 13 6)) 11 7 ((Z i2) 11 7)) 12 7 ((Z i2) 12 7)) 13 7 ((Z i2) 13 7)) 11 8 ((Z i2) 11 8)) 12 8 ((Z i2) 12 8))) H := hW
                              refine lv_aload_n hx hb dX0_take_71 rfl (lv_at hl 1 rfl) ?_
                              refine wr_get hC hinRX0 hW (vB hi (by decide)) (ce_b0 hi) rfl 4 (by decide) hk4 rfl dX0_take_72 ?_
                              refine lv_iload_n hx hb dX0_take_75 rfl (lv_at hl 0 rfl) ?_
                              refine lv_aload_n hx hb dX0_take_76 rfl (lv_at hl 2 rfl) ?_
                              refine wr_get hC hinRX0 hW (vB hi2 (by decide)) ((ce_o hne).trans (ce_b0 hi2)) rfl 4 (by decide) hk4 rfl dX0_take_77 ?_
                              refine lv_iload_n hx hb dX0_take_80 rfl (lv_at hl 0 rfl) ?_
                              refine wr_ald (kA := 0) hC hW (vB hi2 (by decide)) ((ce_o hne).trans (ce_bp hi2 (by decide))) rfl (vp_in_iff.mpr (by decide)) dX0_take_81 ?_
                              refine lv_re (y := (Z i2) 13 8) ((congrArg ((Z i2) 13) (show (8 : Int32).toNatClampNeg = 8 by decide))) ?_
                              refine wr_ast (kA := 0) (Z' := wset Z i (bput (bput (bput (bput (bput (bput (bput (bput (bput (bput (bput (bput (bput (bput (bput (bput (bput (bput (bput (bput (bput (bput (bput (bput (bput (bput (bput B_9 11 0 ((Z i2) 11 0)) 12 0 ((Z i2) 12 0)) 13 0 ((Z i2) 13 0)) 11 1 ((Z i2) 11 1)) 12 1 ((Z i2) 12 1)) 13 1 ((Z i2) 13 1)) 11 2 ((Z i2) 11 2)) 12 2 ((Z i2) 12 2)) 13 2 ((Z i2) 13 2)) 11 3 ((Z i2) 11 3)) 12 3 ((Z i2) 12 3)) 13 3 ((Z i2) 13 3)) 11 4 ((Z i2) 11 4)) 12 4 ((Z i2) 12 4)) 13 4 ((Z i2) 13 4)) 11 5 ((Z i2) 11 5)) 12 5 ((Z i2) 12 5)) 13 5 ((Z i2) 13 5)) 11 6 ((Z i2) 11 6)) 12 6 ((Z i2) 12 6)) 13 6 ((Z i2) 13 6)) 11 7 ((Z i2) 11 7)) 12 7 ((Z i2) 12 7)) 13 7 ((Z i2) 13 7)) 11 8 ((Z i2) 11 8)) 12 8 ((Z i2) 12 8)) 13 (8 : Int32).toNatClampNeg ((Z i2) 13 8))) hC hW hS (vB hi (by decide)) (ce_bp hi (by decide)) rfl (vp_in_iff.mpr (by decide)) wset_off (pu_bp hi (by decide)) dX0_take_82 (fun H locs hW hS => ?_)
                              have hW : wW G (wset Z i (bput (bput (bput (bput (bput (bput (bput (bput (bput (bput (bput (bput (bput (bput (bput (bput (bput (bput (bput (bput (bput (bput (bput (bput (bput (bput (bput B_9 11 0 ((Z i2) 11 0)) 12 0 ((Z i2) 12 0)) 13 0 ((Z i2) 13 0)) 11 1 ((Z i2) 11 1)) 12 1 ((Z i2) 12 1)) 13 1 ((Z i2) 13 1)) 11 2 ((Z i2) 11 2)) 12 2 ((Z i2) 12 2)) 13 2 ((Z i2) 13 2)) 11 3 ((Z i2) 11 3)) 12 3 ((Z i2) 12 3)) 13 3 ((Z i2) 13 3)) 11 4 ((Z i2) 11 4)) 12 4 ((Z i2) 12 4)) 13 4 ((Z i2) 13 4)) 11 5 ((Z i2) 11 5)) 12 5 ((Z i2) 12 5)) 13 5 ((Z i2) 13 5)) 11 6 ((Z i2) 11 6)) 12 6 ((Z i2) 12 6)) 13 6 ((Z i2) 13 6)) 11 7 ((Z i2) 11 7)) 12 7 ((Z i2) 12 7)) 13 7 ((Z i2) 13 7)) 11 8 ((Z i2) 11 8)) 12 8 ((Z i2) 12 8)) 13 8 ((Z i2) 13 8))) H := hW
                              refine lv_iinc (v := 9) (lv' := [(2, .int 9), (0, .ref (G.2.2.1 i 0)), (1, .ref (G.2.2.1 i2 0))]) hx hb dX0_take_83 hl (k := 0) rfl (by decide) (by decide) rfl (fun ls hl => ?_)
                              refine lv_goto (tgt := 41) hx hb dX0_take_86 (by decide) ?_
                              refine lv_iload_n hx hb dX0_take_41 rfl (lv_at hl 0 rfl) ?_
                              refine lv_bipush (v := 12) hx hb dX0_take_42 (by decide) ?_
                              refine lv_icmp_ge (tgt := 89) hx hb dX0_take_44 (by decide) (fun c_20 => ?_) (fun c_20 => ?_)
                              · exact absurd c_20 (by decide)
                              · skip
                                refine lv_aload_n hx hb dX0_take_47 rfl (lv_at hl 1 rfl) ?_
                                refine wr_get hC hinRX0 hW (vB hi (by decide)) (ce_b0 hi) rfl 2 (by decide) hk2 rfl dX0_take_48 ?_
                                refine lv_iload_n hx hb dX0_take_51 rfl (lv_at hl 0 rfl) ?_
                                refine lv_aload_n hx hb dX0_take_52 rfl (lv_at hl 2 rfl) ?_
                                refine wr_get hC hinRX0 hW (vB hi2 (by decide)) ((ce_o hne).trans (ce_b0 hi2)) rfl 2 (by decide) hk2 rfl dX0_take_53 ?_
                                refine lv_iload_n hx hb dX0_take_56 rfl (lv_at hl 0 rfl) ?_
                                refine wr_ald (kA := 0) hC hW (vB hi2 (by decide)) ((ce_o hne).trans (ce_bp hi2 (by decide))) rfl (vp_in_iff.mpr (by decide)) dX0_take_57 ?_
                                refine lv_re (y := (Z i2) 11 9) ((congrArg ((Z i2) 11) (show (9 : Int32).toNatClampNeg = 9 by decide))) ?_
                                refine wr_ast (kA := 0) (Z' := wset Z i (bput (bput (bput (bput (bput (bput (bput (bput (bput (bput (bput (bput (bput (bput (bput (bput (bput (bput (bput (bput (bput (bput (bput (bput (bput (bput (bput (bput B_9 11 0 ((Z i2) 11 0)) 12 0 ((Z i2) 12 0)) 13 0 ((Z i2) 13 0)) 11 1 ((Z i2) 11 1)) 12 1 ((Z i2) 12 1)) 13 1 ((Z i2) 13 1)) 11 2 ((Z i2) 11 2)) 12 2 ((Z i2) 12 2)) 13 2 ((Z i2) 13 2)) 11 3 ((Z i2) 11 3)) 12 3 ((Z i2) 12 3)) 13 3 ((Z i2) 13 3)) 11 4 ((Z i2) 11 4)) 12 4 ((Z i2) 12 4)) 13 4 ((Z i2) 13 4)) 11 5 ((Z i2) 11 5)) 12 5 ((Z i2) 12 5)) 13 5 ((Z i2) 13 5)) 11 6 ((Z i2) 11 6)) 12 6 ((Z i2) 12 6)) 13 6 ((Z i2) 13 6)) 11 7 ((Z i2) 11 7)) 12 7 ((Z i2) 12 7)) 13 7 ((Z i2) 13 7)) 11 8 ((Z i2) 11 8)) 12 8 ((Z i2) 12 8)) 13 8 ((Z i2) 13 8)) 11 (9 : Int32).toNatClampNeg ((Z i2) 11 9))) hC hW hS (vB hi (by decide)) (ce_bp hi (by decide)) rfl (vp_in_iff.mpr (by decide)) wset_off (pu_bp hi (by decide)) dX0_take_58 (fun H locs hW hS => ?_)
                                have hW : wW G (wset Z i (bput (bput (bput (bput (bput (bput (bput (bput (bput (bput (bput (bput (bput (bput (bput (bput (bput (bput (bput (bput (bput (bput (bput (bput (bput (bput (bput (bput B_9 11 0 ((Z i2) 11 0)) 12 0 ((Z i2) 12 0)) 13 0 ((Z i2) 13 0)) 11 1 ((Z i2) 11 1)) 12 1 ((Z i2) 12 1)) 13 1 ((Z i2) 13 1)) 11 2 ((Z i2) 11 2)) 12 2 ((Z i2) 12 2)) 13 2 ((Z i2) 13 2)) 11 3 ((Z i2) 11 3)) 12 3 ((Z i2) 12 3)) 13 3 ((Z i2) 13 3)) 11 4 ((Z i2) 11 4)) 12 4 ((Z i2) 12 4)) 13 4 ((Z i2) 13 4)) 11 5 ((Z i2) 11 5)) 12 5 ((Z i2) 12 5)) 13 5 ((Z i2) 13 5)) 11 6 ((Z i2) 11 6)) 12 6 ((Z i2) 12 6)) 13 6 ((Z i2) 13 6)) 11 7 ((Z i2) 11 7)) 12 7 ((Z i2) 12 7)) 13 7 ((Z i2) 13 7)) 11 8 ((Z i2) 11 8)) 12 8 ((Z i2) 12 8)) 13 8 ((Z i2) 13 8)) 11 9 ((Z i2) 11 9))) H := hW
                                refine lv_aload_n hx hb dX0_take_59 rfl (lv_at hl 1 rfl) ?_
                                refine wr_get hC hinRX0 hW (vB hi (by decide)) (ce_b0 hi) rfl 3 (by decide) hk3 rfl dX0_take_60 ?_
                                refine lv_iload_n hx hb dX0_take_63 rfl (lv_at hl 0 rfl) ?_
                                refine lv_aload_n hx hb dX0_take_64 rfl (lv_at hl 2 rfl) ?_
                                refine wr_get hC hinRX0 hW (vB hi2 (by decide)) ((ce_o hne).trans (ce_b0 hi2)) rfl 3 (by decide) hk3 rfl dX0_take_65 ?_
                                refine lv_iload_n hx hb dX0_take_68 rfl (lv_at hl 0 rfl) ?_
                                refine wr_ald (kA := 0) hC hW (vB hi2 (by decide)) ((ce_o hne).trans (ce_bp hi2 (by decide))) rfl (vp_in_iff.mpr (by decide)) dX0_take_69 ?_
                                refine lv_re (y := (Z i2) 12 9) ((congrArg ((Z i2) 12) (show (9 : Int32).toNatClampNeg = 9 by decide))) ?_
                                refine wr_ast (kA := 0) (Z' := wset Z i (bput (bput (bput (bput (bput (bput (bput (bput (bput (bput (bput (bput (bput (bput (bput (bput (bput (bput (bput (bput (bput (bput (bput (bput (bput (bput (bput (bput (bput B_9 11 0 ((Z i2) 11 0)) 12 0 ((Z i2) 12 0)) 13 0 ((Z i2) 13 0)) 11 1 ((Z i2) 11 1)) 12 1 ((Z i2) 12 1)) 13 1 ((Z i2) 13 1)) 11 2 ((Z i2) 11 2)) 12 2 ((Z i2) 12 2)) 13 2 ((Z i2) 13 2)) 11 3 ((Z i2) 11 3)) 12 3 ((Z i2) 12 3)) 13 3 ((Z i2) 13 3)) 11 4 ((Z i2) 11 4)) 12 4 ((Z i2) 12 4)) 13 4 ((Z i2) 13 4)) 11 5 ((Z i2) 11 5)) 12 5 ((Z i2) 12 5)) 13 5 ((Z i2) 13 5)) 11 6 ((Z i2) 11 6)) 12 6 ((Z i2) 12 6)) 13 6 ((Z i2) 13 6)) 11 7 ((Z i2) 11 7)) 12 7 ((Z i2) 12 7)) 13 7 ((Z i2) 13 7)) 11 8 ((Z i2) 11 8)) 12 8 ((Z i2) 12 8)) 13 8 ((Z i2) 13 8)) 11 9 ((Z i2) 11 9)) 12 (9 : Int32).toNatClampNeg ((Z i2) 12 9))) hC hW hS (vB hi (by decide)) (ce_bp hi (by decide)) rfl (vp_in_iff.mpr (by decide)) wset_off (pu_bp hi (by decide)) dX0_take_70 (fun H locs hW hS => ?_)
                                have hW : wW G (wset Z i (bput (bput (bput (bput (bput (bput (bput (bput (bput (bput (bput (bput (bput (bput (bput (bput (bput (bput (bput (bput (bput (bput (bput (bput (bput (bput (bput (bput (bput B_9 11 0 ((Z i2) 11 0)) 12 0 ((Z i2) 12 0)) 13 0 ((Z i2) 13 0)) 11 1 ((Z i2) 11 1)) 12 1 ((Z i2) 12 1)) 13 1 ((Z i2) 13 1)) 11 2 ((Z i2) 11 2)) 12 2 ((Z i2) 12 2)) 13 2 ((Z i2) 13 2)) 11 3 ((Z i2) 11 3)) 12 3 ((Z i2) 12 3)) 13 3 ((Z i2) 13 3)) 11 4 ((Z i2) 11 4)) 12 4 ((Z i2) 12 4)) 13 4 ((Z i2) 13 4)) 11 5 ((Z i2) 11 5)) 12 5 ((Z i2) 12 5)) 13 5 ((Z i2) 13 5)) 11 6 ((Z i2) 11 6)) 12 6 ((Z i2) 12 6)) 13 6 ((Z i2) 13 6)) 11 7 ((Z i2) 11 7)) 12 7 ((Z i2) 12 7)) 13 7 ((Z i2) 13 7)) 11 8 ((Z i2) 11 8)) 12 8 ((Z i2) 12 8)) 13 8 ((Z i2) 13 8)) 11 9 ((Z i2) 11 9)) 12 9 ((Z i2) 12 9))) H := hW
                                refine lv_aload_n hx hb dX0_take_71 rfl (lv_at hl 1 rfl) ?_
                                refine wr_get hC hinRX0 hW (vB hi (by decide)) (ce_b0 hi) rfl 4 (by decide) hk4 rfl dX0_take_72 ?_
                                refine lv_iload_n hx hb dX0_take_75 rfl (lv_at hl 0 rfl) ?_
                                refine lv_aload_n hx hb dX0_take_76 rfl (lv_at hl 2 rfl) ?_
                                refine wr_get hC hinRX0 hW (vB hi2 (by decide)) ((ce_o hne).trans (ce_b0 hi2)) rfl 4 (by decide) hk4 rfl dX0_take_77 ?_
                                refine lv_iload_n hx hb dX0_take_80 rfl (lv_at hl 0 rfl) ?_
                                refine wr_ald (kA := 0) hC hW (vB hi2 (by decide)) ((ce_o hne).trans (ce_bp hi2 (by decide))) rfl (vp_in_iff.mpr (by decide)) dX0_take_81 ?_
                                refine lv_re (y := (Z i2) 13 9) ((congrArg ((Z i2) 13) (show (9 : Int32).toNatClampNeg = 9 by decide))) ?_
                                refine wr_ast (kA := 0) (Z' := wset Z i (bput (bput (bput (bput (bput (bput (bput (bput (bput (bput (bput (bput (bput (bput (bput (bput (bput (bput (bput (bput (bput (bput (bput (bput (bput (bput (bput (bput (bput (bput B_9 11 0 ((Z i2) 11 0)) 12 0 ((Z i2) 12 0)) 13 0 ((Z i2) 13 0)) 11 1 ((Z i2) 11 1)) 12 1 ((Z i2) 12 1)) 13 1 ((Z i2) 13 1)) 11 2 ((Z i2) 11 2)) 12 2 ((Z i2) 12 2)) 13 2 ((Z i2) 13 2)) 11 3 ((Z i2) 11 3)) 12 3 ((Z i2) 12 3)) 13 3 ((Z i2) 13 3)) 11 4 ((Z i2) 11 4)) 12 4 ((Z i2) 12 4)) 13 4 ((Z i2) 13 4)) 11 5 ((Z i2) 11 5)) 12 5 ((Z i2) 12 5)) 13 5 ((Z i2) 13 5)) 11 6 ((Z i2) 11 6)) 12 6 ((Z i2) 12 6)) 13 6 ((Z i2) 13 6)) 11 7 ((Z i2) 11 7)) 12 7 ((Z i2) 12 7)) 13 7 ((Z i2) 13 7)) 11 8 ((Z i2) 11 8)) 12 8 ((Z i2) 12 8)) 13 8 ((Z i2) 13 8)) 11 9 ((Z i2) 11 9)) 12 9 ((Z i2) 12 9)) 13 (9 : Int32).toNatClampNeg ((Z i2) 13 9))) hC hW hS (vB hi (by decide)) (ce_bp hi (by decide)) rfl (vp_in_iff.mpr (by decide)) wset_off (pu_bp hi (by decide)) dX0_take_82 (fun H locs hW hS => ?_)
                                have hW : wW G (wset Z i (bput (bput (bput (bput (bput (bput (bput (bput (bput (bput (bput (bput (bput (bput (bput (bput (bput (bput (bput (bput (bput (bput (bput (bput (bput (bput (bput (bput (bput (bput B_9 11 0 ((Z i2) 11 0)) 12 0 ((Z i2) 12 0)) 13 0 ((Z i2) 13 0)) 11 1 ((Z i2) 11 1)) 12 1 ((Z i2) 12 1)) 13 1 ((Z i2) 13 1)) 11 2 ((Z i2) 11 2)) 12 2 ((Z i2) 12 2)) 13 2 ((Z i2) 13 2)) 11 3 ((Z i2) 11 3)) 12 3 ((Z i2) 12 3)) 13 3 ((Z i2) 13 3)) 11 4 ((Z i2) 11 4)) 12 4 ((Z i2) 12 4)) 13 4 ((Z i2) 13 4)) 11 5 ((Z i2) 11 5)) 12 5 ((Z i2) 12 5)) 13 5 ((Z i2) 13 5)) 11 6 ((Z i2) 11 6)) 12 6 ((Z i2) 12 6)) 13 6 ((Z i2) 13 6)) 11 7 ((Z i2) 11 7)) 12 7 ((Z i2) 12 7)) 13 7 ((Z i2) 13 7)) 11 8 ((Z i2) 11 8)) 12 8 ((Z i2) 12 8)) 13 8 ((Z i2) 13 8)) 11 9 ((Z i2) 11 9)) 12 9 ((Z i2) 12 9)) 13 9 ((Z i2) 13 9))) H := hW
                                refine lv_iinc (v := 10) (lv' := [(2, .int 10), (0, .ref (G.2.2.1 i 0)), (1, .ref (G.2.2.1 i2 0))]) hx hb dX0_take_83 hl (k := 0) rfl (by decide) (by decide) rfl (fun ls hl => ?_)
                                refine lv_goto (tgt := 41) hx hb dX0_take_86 (by decide) ?_
                                refine lv_iload_n hx hb dX0_take_41 rfl (lv_at hl 0 rfl) ?_
                                refine lv_bipush (v := 12) hx hb dX0_take_42 (by decide) ?_
                                refine lv_icmp_ge (tgt := 89) hx hb dX0_take_44 (by decide) (fun c_21 => ?_) (fun c_21 => ?_)
                                · exact absurd c_21 (by decide)
                                · skip
                                  refine lv_aload_n hx hb dX0_take_47 rfl (lv_at hl 1 rfl) ?_
                                  refine wr_get hC hinRX0 hW (vB hi (by decide)) (ce_b0 hi) rfl 2 (by decide) hk2 rfl dX0_take_48 ?_
                                  refine lv_iload_n hx hb dX0_take_51 rfl (lv_at hl 0 rfl) ?_
                                  refine lv_aload_n hx hb dX0_take_52 rfl (lv_at hl 2 rfl) ?_
                                  refine wr_get hC hinRX0 hW (vB hi2 (by decide)) ((ce_o hne).trans (ce_b0 hi2)) rfl 2 (by decide) hk2 rfl dX0_take_53 ?_
                                  refine lv_iload_n hx hb dX0_take_56 rfl (lv_at hl 0 rfl) ?_
                                  refine wr_ald (kA := 0) hC hW (vB hi2 (by decide)) ((ce_o hne).trans (ce_bp hi2 (by decide))) rfl (vp_in_iff.mpr (by decide)) dX0_take_57 ?_
                                  refine lv_re (y := (Z i2) 11 10) ((congrArg ((Z i2) 11) (show (10 : Int32).toNatClampNeg = 10 by decide))) ?_
                                  refine wr_ast (kA := 0) (Z' := wset Z i (bput (bput (bput (bput (bput (bput (bput (bput (bput (bput (bput (bput (bput (bput (bput (bput (bput (bput (bput (bput (bput (bput (bput (bput (bput (bput (bput (bput (bput (bput (bput B_9 11 0 ((Z i2) 11 0)) 12 0 ((Z i2) 12 0)) 13 0 ((Z i2) 13 0)) 11 1 ((Z i2) 11 1)) 12 1 ((Z i2) 12 1)) 13 1 ((Z i2) 13 1)) 11 2 ((Z i2) 11 2)) 12 2 ((Z i2) 12 2)) 13 2 ((Z i2) 13 2)) 11 3 ((Z i2) 11 3)) 12 3 ((Z i2) 12 3)) 13 3 ((Z i2) 13 3)) 11 4 ((Z i2) 11 4)) 12 4 ((Z i2) 12 4)) 13 4 ((Z i2) 13 4)) 11 5 ((Z i2) 11 5)) 12 5 ((Z i2) 12 5)) 13 5 ((Z i2) 13 5)) 11 6 ((Z i2) 11 6)) 12 6 ((Z i2) 12 6)) 13 6 ((Z i2) 13 6)) 11 7 ((Z i2) 11 7)) 12 7 ((Z i2) 12 7)) 13 7 ((Z i2) 13 7)) 11 8 ((Z i2) 11 8)) 12 8 ((Z i2) 12 8)) 13 8 ((Z i2) 13 8)) 11 9 ((Z i2) 11 9)) 12 9 ((Z i2) 12 9)) 13 9 ((Z i2) 13 9)) 11 (10 : Int32).toNatClampNeg ((Z i2) 11 10))) hC hW hS (vB hi (by decide)) (ce_bp hi (by decide)) rfl (vp_in_iff.mpr (by decide)) wset_off (pu_bp hi (by decide)) dX0_take_58 (fun H locs hW hS => ?_)
                                  have hW : wW G (wset Z i (bput (bput (bput (bput (bput (bput (bput (bput (bput (bput (bput (bput (bput (bput (bput (bput (bput (bput (bput (bput (bput (bput (bput (bput (bput (bput (bput (bput (bput (bput (bput B_9 11 0 ((Z i2) 11 0)) 12 0 ((Z i2) 12 0)) 13 0 ((Z i2) 13 0)) 11 1 ((Z i2) 11 1)) 12 1 ((Z i2) 12 1)) 13 1 ((Z i2) 13 1)) 11 2 ((Z i2) 11 2)) 12 2 ((Z i2) 12 2)) 13 2 ((Z i2) 13 2)) 11 3 ((Z i2) 11 3)) 12 3 ((Z i2) 12 3)) 13 3 ((Z i2) 13 3)) 11 4 ((Z i2) 11 4)) 12 4 ((Z i2) 12 4)) 13 4 ((Z i2) 13 4)) 11 5 ((Z i2) 11 5)) 12 5 ((Z i2) 12 5)) 13 5 ((Z i2) 13 5)) 11 6 ((Z i2) 11 6)) 12 6 ((Z i2) 12 6)) 13 6 ((Z i2) 13 6)) 11 7 ((Z i2) 11 7)) 12 7 ((Z i2) 12 7)) 13 7 ((Z i2) 13 7)) 11 8 ((Z i2) 11 8)) 12 8 ((Z i2) 12 8)) 13 8 ((Z i2) 13 8)) 11 9 ((Z i2) 11 9)) 12 9 ((Z i2) 12 9)) 13 9 ((Z i2) 13 9)) 11 10 ((Z i2) 11 10))) H := hW
                                  refine lv_aload_n hx hb dX0_take_59 rfl (lv_at hl 1 rfl) ?_
                                  refine wr_get hC hinRX0 hW (vB hi (by decide)) (ce_b0 hi) rfl 3 (by decide) hk3 rfl dX0_take_60 ?_
                                  refine lv_iload_n hx hb dX0_take_63 rfl (lv_at hl 0 rfl) ?_
                                  refine lv_aload_n hx hb dX0_take_64 rfl (lv_at hl 2 rfl) ?_
                                  refine wr_get hC hinRX0 hW (vB hi2 (by decide)) ((ce_o hne).trans (ce_b0 hi2)) rfl 3 (by decide) hk3 rfl dX0_take_65 ?_
                                  refine lv_iload_n hx hb dX0_take_68 rfl (lv_at hl 0 rfl) ?_
                                  refine wr_ald (kA := 0) hC hW (vB hi2 (by decide)) ((ce_o hne).trans (ce_bp hi2 (by decide))) rfl (vp_in_iff.mpr (by decide)) dX0_take_69 ?_
                                  refine lv_re (y := (Z i2) 12 10) ((congrArg ((Z i2) 12) (show (10 : Int32).toNatClampNeg = 10 by decide))) ?_
                                  refine wr_ast (kA := 0) (Z' := wset Z i (bput (bput (bput (bput (bput (bput (bput (bput (bput (bput (bput (bput (bput (bput (bput (bput (bput (bput (bput (bput (bput (bput (bput (bput (bput (bput (bput (bput (bput (bput (bput (bput B_9 11 0 ((Z i2) 11 0)) 12 0 ((Z i2) 12 0)) 13 0 ((Z i2) 13 0)) 11 1 ((Z i2) 11 1)) 12 1 ((Z i2) 12 1)) 13 1 ((Z i2) 13 1)) 11 2 ((Z i2) 11 2)) 12 2 ((Z i2) 12 2)) 13 2 ((Z i2) 13 2)) 11 3 ((Z i2) 11 3)) 12 3 ((Z i2) 12 3)) 13 3 ((Z i2) 13 3)) 11 4 ((Z i2) 11 4)) 12 4 ((Z i2) 12 4)) 13 4 ((Z i2) 13 4)) 11 5 ((Z i2) 11 5)) 12 5 ((Z i2) 12 5)) 13 5 ((Z i2) 13 5)) 11 6 ((Z i2) 11 6)) 12 6 ((Z i2) 12 6)) 13 6 ((Z i2) 13 6)) 11 7 ((Z i2) 11 7)) 12 7 ((Z i2) 12 7)) 13 7 ((Z i2) 13 7)) 11 8 ((Z i2) 11 8)) 12 8 ((Z i2) 12 8)) 13 8 ((Z i2) 13 8)) 11 9 ((Z i2) 11 9)) 12 9 ((Z i2) 12 9)) 13 9 ((Z i2) 13 9)) 11 10 ((Z i2) 11 10)) 12 (10 : Int32).toNatClampNeg ((Z i2) 12 10))) hC hW hS (vB hi (by decide)) (ce_bp hi (by decide)) rfl (vp_in_iff.mpr (by decide)) wset_off (pu_bp hi (by decide)) dX0_take_70 (fun H locs hW hS => ?_)
                                  have hW : wW G (wset Z i (bput (bput (bput (bput (bput (bput (bput (bput (bput (bput (bput (bput (bput (bput (bput (bput (bput (bput (bput (bput (bput (bput (bput (bput (bput (bput (bput (bput (bput (bput (bput (bput B_9 11 0 ((Z i2) 11 0)) 12 0 ((Z i2) 12 0)) 13 0 ((Z i2) 13 0)) 11 1 ((Z i2) 11 1)) 12 1 ((Z i2) 12 1)) 13 1 ((Z i2) 13 1)) 11 2 ((Z i2) 11 2)) 12 2 ((Z i2) 12 2)) 13 2 ((Z i2) 13 2)) 11 3 ((Z i2) 11 3)) 12 3 ((Z i2) 12 3)) 13 3 ((Z i2) 13 3)) 11 4 ((Z i2) 11 4)) 12 4 ((Z i2) 12 4)) 13 4 ((Z i2) 13 4)) 11 5 ((Z i2) 11 5)) 12 5 ((Z i2) 12 5)) 13 5 ((Z i2) 13 5)) 11 6 ((Z i2) 11 6)) 12 6 ((Z i2) 12 6)) 13 6 ((Z i2) 13 6)) 11 7 ((Z i2) 11 7)) 12 7 ((Z i2) 12 7)) 13 7 ((Z i2) 13 7)) 11 8 ((Z i2) 11 8)) 12 8 ((Z i2) 12 8)) 13 8 ((Z i2) 13 8)) 11 9 ((Z i2) 11 9)) 12 9 ((Z i2) 12 9)) 13 9 ((Z i2) 13 9)) 11 10 ((Z i2) 11 10)) 12 10 ((Z i2) 12 10))) H := hW
                                  refine lv_aload_n hx hb dX0_take_71 rfl (lv_at hl 1 rfl) ?_
                                  refine wr_get hC hinRX0 hW (vB hi (by decide)) (ce_b0 hi) rfl 4 (by decide) hk4 rfl dX0_take_72 ?_
                                  refine lv_iload_n hx hb dX0_take_75 rfl (lv_at hl 0 rfl) ?_
                                  refine lv_aload_n hx hb dX0_take_76 rfl (lv_at hl 2 rfl) ?_
                                  refine wr_get hC hinRX0 hW (vB hi2 (by decide)) ((ce_o hne).trans (ce_b0 hi2)) rfl 4 (by decide) hk4 rfl dX0_take_77 ?_
                                  refine lv_iload_n hx hb dX0_take_80 rfl (lv_at hl 0 rfl) ?_
                                  refine wr_ald (kA := 0) hC hW (vB hi2 (by decide)) ((ce_o hne).trans (ce_bp hi2 (by decide))) rfl (vp_in_iff.mpr (by decide)) dX0_take_81 ?_
                                  refine lv_re (y := (Z i2) 13 10) ((congrArg ((Z i2) 13) (show (10 : Int32).toNatClampNeg = 10 by decide))) ?_
                                  refine wr_ast (kA := 0) (Z' := wset Z i (bput (bput (bput (bput (bput (bput (bput (bput (bput (bput (bput (bput (bput (bput (bput (bput (bput (bput (bput (bput (bput (bput (bput (bput (bput (bput (bput (bput (bput (bput (bput (bput (bput B_9 11 0 ((Z i2) 11 0)) 12 0 ((Z i2) 12 0)) 13 0 ((Z i2) 13 0)) 11 1 ((Z i2) 11 1)) 12 1 ((Z i2) 12 1)) 13 1 ((Z i2) 13 1)) 11 2 ((Z i2) 11 2)) 12 2 ((Z i2) 12 2)) 13 2 ((Z i2) 13 2)) 11 3 ((Z i2) 11 3)) 12 3 ((Z i2) 12 3)) 13 3 ((Z i2) 13 3)) 11 4 ((Z i2) 11 4)) 12 4 ((Z i2) 12 4)) 13 4 ((Z i2) 13 4)) 11 5 ((Z i2) 11 5)) 12 5 ((Z i2) 12 5)) 13 5 ((Z i2) 13 5)) 11 6 ((Z i2) 11 6)) 12 6 ((Z i2) 12 6)) 13 6 ((Z i2) 13 6)) 11 7 ((Z i2) 11 7)) 12 7 ((Z i2) 12 7)) 13 7 ((Z i2) 13 7)) 11 8 ((Z i2) 11 8)) 12 8 ((Z i2) 12 8)) 13 8 ((Z i2) 13 8)) 11 9 ((Z i2) 11 9)) 12 9 ((Z i2) 12 9)) 13 9 ((Z i2) 13 9)) 11 10 ((Z i2) 11 10)) 12 10 ((Z i2) 12 10)) 13 (10 : Int32).toNatClampNeg ((Z i2) 13 10))) hC hW hS (vB hi (by decide)) (ce_bp hi (by decide)) rfl (vp_in_iff.mpr (by decide)) wset_off (pu_bp hi (by decide)) dX0_take_82 (fun H locs hW hS => ?_)
                                  have hW : wW G (wset Z i (bput (bput (bput (bput (bput (bput (bput (bput (bput (bput (bput (bput (bput (bput (bput (bput (bput (bput (bput (bput (bput (bput (bput (bput (bput (bput (bput (bput (bput (bput (bput (bput (bput B_9 11 0 ((Z i2) 11 0)) 12 0 ((Z i2) 12 0)) 13 0 ((Z i2) 13 0)) 11 1 ((Z i2) 11 1)) 12 1 ((Z i2) 12 1)) 13 1 ((Z i2) 13 1)) 11 2 ((Z i2) 11 2)) 12 2 ((Z i2) 12 2)) 13 2 ((Z i2) 13 2)) 11 3 ((Z i2) 11 3)) 12 3 ((Z i2) 12 3)) 13 3 ((Z i2) 13 3)) 11 4 ((Z i2) 11 4)) 12 4 ((Z i2) 12 4)) 13 4 ((Z i2) 13 4)) 11 5 ((Z i2) 11 5)) 12 5 ((Z i2) 12 5)) 13 5 ((Z i2) 13 5)) 11 6 ((Z i2) 11 6)) 12 6 ((Z i2) 12 6)) 13 6 ((Z i2) 13 6)) 11 7 ((Z i2) 11 7)) 12 7 ((Z i2) 12 7)) 13 7 ((Z i2) 13 7)) 11 8 ((Z i2) 11 8)) 12 8 ((Z i2) 12 8)) 13 8 ((Z i2) 13 8)) 11 9 ((Z i2) 11 9)) 12 9 ((Z i2) 12 9)) 13 9 ((Z i2) 13 9)) 11 10 ((Z i2) 11 10)) 12 10 ((Z i2) 12 10)) 13 10 ((Z i2) 13 10))) H := hW
                                  refine lv_iinc (v := 11) (lv' := [(2, .int 11), (0, .ref (G.2.2.1 i 0)), (1, .ref (G.2.2.1 i2 0))]) hx hb dX0_take_83 hl (k := 0) rfl (by decide) (by decide) rfl (fun ls hl => ?_)
                                  refine lv_goto (tgt := 41) hx hb dX0_take_86 (by decide) ?_
                                  refine lv_iload_n hx hb dX0_take_41 rfl (lv_at hl 0 rfl) ?_
                                  refine lv_bipush (v := 12) hx hb dX0_take_42 (by decide) ?_
                                  refine lv_icmp_ge (tgt := 89) hx hb dX0_take_44 (by decide) (fun c_22 => ?_) (fun c_22 => ?_)
                                  · exact absurd c_22 (by decide)
                                  · skip
                                    refine lv_aload_n hx hb dX0_take_47 rfl (lv_at hl 1 rfl) ?_
                                    refine wr_get hC hinRX0 hW (vB hi (by decide)) (ce_b0 hi) rfl 2 (by decide) hk2 rfl dX0_take_48 ?_
                                    refine lv_iload_n hx hb dX0_take_51 rfl (lv_at hl 0 rfl) ?_
                                    refine lv_aload_n hx hb dX0_take_52 rfl (lv_at hl 2 rfl) ?_
                                    refine wr_get hC hinRX0 hW (vB hi2 (by decide)) ((ce_o hne).trans (ce_b0 hi2)) rfl 2 (by decide) hk2 rfl dX0_take_53 ?_
                                    refine lv_iload_n hx hb dX0_take_56 rfl (lv_at hl 0 rfl) ?_
                                    refine wr_ald (kA := 0) hC hW (vB hi2 (by decide)) ((ce_o hne).trans (ce_bp hi2 (by decide))) rfl (vp_in_iff.mpr (by decide)) dX0_take_57 ?_
                                    refine lv_re (y := (Z i2) 11 11) ((congrArg ((Z i2) 11) (show (11 : Int32).toNatClampNeg = 11 by decide))) ?_
                                    refine wr_ast (kA := 0) (Z' := wset Z i (bput (bput (bput (bput (bput (bput (bput (bput (bput (bput (bput (bput (bput (bput (bput (bput (bput (bput (bput (bput (bput (bput (bput (bput (bput (bput (bput (bput (bput (bput (bput (bput (bput (bput B_9 11 0 ((Z i2) 11 0)) 12 0 ((Z i2) 12 0)) 13 0 ((Z i2) 13 0)) 11 1 ((Z i2) 11 1)) 12 1 ((Z i2) 12 1)) 13 1 ((Z i2) 13 1)) 11 2 ((Z i2) 11 2)) 12 2 ((Z i2) 12 2)) 13 2 ((Z i2) 13 2)) 11 3 ((Z i2) 11 3)) 12 3 ((Z i2) 12 3)) 13 3 ((Z i2) 13 3)) 11 4 ((Z i2) 11 4)) 12 4 ((Z i2) 12 4)) 13 4 ((Z i2) 13 4)) 11 5 ((Z i2) 11 5)) 12 5 ((Z i2) 12 5)) 13 5 ((Z i2) 13 5)) 11 6 ((Z i2) 11 6)) 12 6 ((Z i2) 12 6)) 13 6 ((Z i2) 13 6)) 11 7 ((Z i2) 11 7)) 12 7 ((Z i2) 12 7)) 13 7 ((Z i2) 13 7)) 11 8 ((Z i2) 11 8)) 12 8 ((Z i2) 12 8)) 13 8 ((Z i2) 13 8)) 11 9 ((Z i2) 11 9)) 12 9 ((Z i2) 12 9)) 13 9 ((Z i2) 13 9)) 11 10 ((Z i2) 11 10)) 12 10 ((Z i2) 12 10)) 13 10 ((Z i2) 13 10)) 11 (11 : Int32).toNatClampNeg ((Z i2) 11 11))) hC hW hS (vB hi (by decide)) (ce_bp hi (by decide)) rfl (vp_in_iff.mpr (by decide)) wset_off (pu_bp hi (by decide)) dX0_take_58 (fun H locs hW hS => ?_)
                                    have hW : wW G (wset Z i (bput (bput (bput (bput (bput (bput (bput (bput (bput (bput (bput (bput (bput (bput (bput (bput (bput (bput (bput (bput (bput (bput (bput (bput (bput (bput (bput (bput (bput (bput (bput (bput (bput (bput B_9 11 0 ((Z i2) 11 0)) 12 0 ((Z i2) 12 0)) 13 0 ((Z i2) 13 0)) 11 1 ((Z i2) 11 1)) 12 1 ((Z i2) 12 1)) 13 1 ((Z i2) 13 1)) 11 2 ((Z i2) 11 2)) 12 2 ((Z i2) 12 2)) 13 2 ((Z i2) 13 2)) 11 3 ((Z i2) 11 3)) 12 3 ((Z i2) 12 3)) 13 3 ((Z i2) 13 3)) 11 4 ((Z i2) 11 4)) 12 4 ((Z i2) 12 4)) 13 4 ((Z i2) 13 4)) 11 5 ((Z i2) 11 5)) 12 5 ((Z i2) 12 5)) 13 5 ((Z i2) 13 5)) 11 6 ((Z i2) 11 6)) 12 6 ((Z i2) 12 6)) 13 6 ((Z i2) 13 6)) 11 7 ((Z i2) 11 7)) 12 7 ((Z i2) 12 7)) 13 7 ((Z i2) 13 7)) 11 8 ((Z i2) 11 8)) 12 8 ((Z i2) 12 8)) 13 8 ((Z i2) 13 8)) 11 9 ((Z i2) 11 9)) 12 9 ((Z i2) 12 9)) 13 9 ((Z i2) 13 9)) 11 10 ((Z i2) 11 10)) 12 10 ((Z i2) 12 10)) 13 10 ((Z i2) 13 10)) 11 11 ((Z i2) 11 11))) H := hW
                                    refine lv_aload_n hx hb dX0_take_59 rfl (lv_at hl 1 rfl) ?_
                                    refine wr_get hC hinRX0 hW (vB hi (by decide)) (ce_b0 hi) rfl 3 (by decide) hk3 rfl dX0_take_60 ?_
                                    refine lv_iload_n hx hb dX0_take_63 rfl (lv_at hl 0 rfl) ?_
                                    refine lv_aload_n hx hb dX0_take_64 rfl (lv_at hl 2 rfl) ?_
                                    refine wr_get hC hinRX0 hW (vB hi2 (by decide)) ((ce_o hne).trans (ce_b0 hi2)) rfl 3 (by decide) hk3 rfl dX0_take_65 ?_
                                    refine lv_iload_n hx hb dX0_take_68 rfl (lv_at hl 0 rfl) ?_
                                    refine wr_ald (kA := 0) hC hW (vB hi2 (by decide)) ((ce_o hne).trans (ce_bp hi2 (by decide))) rfl (vp_in_iff.mpr (by decide)) dX0_take_69 ?_
                                    refine lv_re (y := (Z i2) 12 11) ((congrArg ((Z i2) 12) (show (11 : Int32).toNatClampNeg = 11 by decide))) ?_
                                    refine wr_ast (kA := 0) (Z' := wset Z i (bput (bput (bput (bput (bput (bput (bput (bput (bput (bput (bput (bput (bput (bput (bput (bput (bput (bput (bput (bput (bput (bput (bput (bput (bput (bput (bput (bput (bput (bput (bput (bput (bput (bput (bput B_9 11 0 ((Z i2) 11 0)) 12 0 ((Z i2) 12 0)) 13 0 ((Z i2) 13 0)) 11 1 ((Z i2) 11 1)) 12 1 ((Z i2) 12 1)) 13 1 ((Z i2) 13 1)) 11 2 ((Z i2) 11 2)) 12 2 ((Z i2) 12 2)) 13 2 ((Z i2) 13 2)) 11 3 ((Z i2) 11 3)) 12 3 ((Z i2) 12 3)) 13 3 ((Z i2) 13 3)) 11 4 ((Z i2) 11 4)) 12 4 ((Z i2) 12 4)) 13 4 ((Z i2) 13 4)) 11 5 ((Z i2) 11 5)) 12 5 ((Z i2) 12 5)) 13 5 ((Z i2) 13 5)) 11 6 ((Z i2) 11 6)) 12 6 ((Z i2) 12 6)) 13 6 ((Z i2) 13 6)) 11 7 ((Z i2) 11 7)) 12 7 ((Z i2) 12 7)) 13 7 ((Z i2) 13 7)) 11 8 ((Z i2) 11 8)) 12 8 ((Z i2) 12 8)) 13 8 ((Z i2) 13 8)) 11 9 ((Z i2) 11 9)) 12 9 ((Z i2) 12 9)) 13 9 ((Z i2) 13 9)) 11 10 ((Z i2) 11 10)) 12 10 ((Z i2) 12 10)) 13 10 ((Z i2) 13 10)) 11 11 ((Z i2) 11 11)) 12 (11 : Int32).toNatClampNeg ((Z i2) 12 11))) hC hW hS (vB hi (by decide)) (ce_bp hi (by decide)) rfl (vp_in_iff.mpr (by decide)) wset_off (pu_bp hi (by decide)) dX0_take_70 (fun H locs hW hS => ?_)
                                    have hW : wW G (wset Z i (bput (bput (bput (bput (bput (bput (bput (bput (bput (bput (bput (bput (bput (bput (bput (bput (bput (bput (bput (bput (bput (bput (bput (bput (bput (bput (bput (bput (bput (bput (bput (bput (bput (bput (bput B_9 11 0 ((Z i2) 11 0)) 12 0 ((Z i2) 12 0)) 13 0 ((Z i2) 13 0)) 11 1 ((Z i2) 11 1)) 12 1 ((Z i2) 12 1)) 13 1 ((Z i2) 13 1)) 11 2 ((Z i2) 11 2)) 12 2 ((Z i2) 12 2)) 13 2 ((Z i2) 13 2)) 11 3 ((Z i2) 11 3)) 12 3 ((Z i2) 12 3)) 13 3 ((Z i2) 13 3)) 11 4 ((Z i2) 11 4)) 12 4 ((Z i2) 12 4)) 13 4 ((Z i2) 13 4)) 11 5 ((Z i2) 11 5)) 12 5 ((Z i2) 12 5)) 13 5 ((Z i2) 13 5)) 11 6 ((Z i2) 11 6)) 12 6 ((Z i2) 12 6)) 13 6 ((Z i2) 13 6)) 11 7 ((Z i2) 11 7)) 12 7 ((Z i2) 12 7)) 13 7 ((Z i2) 13 7)) 11 8 ((Z i2) 11 8)) 12 8 ((Z i2) 12 8)) 13 8 ((Z i2) 13 8)) 11 9 ((Z i2) 11 9)) 12 9 ((Z i2) 12 9)) 13 9 ((Z i2) 13 9)) 11 10 ((Z i2) 11 10)) 12 10 ((Z i2) 12 10)) 13 10 ((Z i2) 13 10)) 11 11 ((Z i2) 11 11)) 12 11 ((Z i2) 12 11))) H := hW
                                    refine lv_aload_n hx hb dX0_take_71 rfl (lv_at hl 1 rfl) ?_
                                    refine wr_get hC hinRX0 hW (vB hi (by decide)) (ce_b0 hi) rfl 4 (by decide) hk4 rfl dX0_take_72 ?_
                                    refine lv_iload_n hx hb dX0_take_75 rfl (lv_at hl 0 rfl) ?_
                                    refine lv_aload_n hx hb dX0_take_76 rfl (lv_at hl 2 rfl) ?_
                                    refine wr_get hC hinRX0 hW (vB hi2 (by decide)) ((ce_o hne).trans (ce_b0 hi2)) rfl 4 (by decide) hk4 rfl dX0_take_77 ?_
                                    refine lv_iload_n hx hb dX0_take_80 rfl (lv_at hl 0 rfl) ?_
                                    refine wr_ald (kA := 0) hC hW (vB hi2 (by decide)) ((ce_o hne).trans (ce_bp hi2 (by decide))) rfl (vp_in_iff.mpr (by decide)) dX0_take_81 ?_
                                    refine lv_re (y := (Z i2) 13 11) ((congrArg ((Z i2) 13) (show (11 : Int32).toNatClampNeg = 11 by decide))) ?_
                                    refine wr_ast (kA := 0) (Z' := wset Z i (bput (bput (bput (bput (bput (bput (bput (bput (bput (bput (bput (bput (bput (bput (bput (bput (bput (bput (bput (bput (bput (bput (bput (bput (bput (bput (bput (bput (bput (bput (bput (bput (bput (bput (bput (bput B_9 11 0 ((Z i2) 11 0)) 12 0 ((Z i2) 12 0)) 13 0 ((Z i2) 13 0)) 11 1 ((Z i2) 11 1)) 12 1 ((Z i2) 12 1)) 13 1 ((Z i2) 13 1)) 11 2 ((Z i2) 11 2)) 12 2 ((Z i2) 12 2)) 13 2 ((Z i2) 13 2)) 11 3 ((Z i2) 11 3)) 12 3 ((Z i2) 12 3)) 13 3 ((Z i2) 13 3)) 11 4 ((Z i2) 11 4)) 12 4 ((Z i2) 12 4)) 13 4 ((Z i2) 13 4)) 11 5 ((Z i2) 11 5)) 12 5 ((Z i2) 12 5)) 13 5 ((Z i2) 13 5)) 11 6 ((Z i2) 11 6)) 12 6 ((Z i2) 12 6)) 13 6 ((Z i2) 13 6)) 11 7 ((Z i2) 11 7)) 12 7 ((Z i2) 12 7)) 13 7 ((Z i2) 13 7)) 11 8 ((Z i2) 11 8)) 12 8 ((Z i2) 12 8)) 13 8 ((Z i2) 13 8)) 11 9 ((Z i2) 11 9)) 12 9 ((Z i2) 12 9)) 13 9 ((Z i2) 13 9)) 11 10 ((Z i2) 11 10)) 12 10 ((Z i2) 12 10)) 13 10 ((Z i2) 13 10)) 11 11 ((Z i2) 11 11)) 12 11 ((Z i2) 12 11)) 13 (11 : Int32).toNatClampNeg ((Z i2) 13 11))) hC hW hS (vB hi (by decide)) (ce_bp hi (by decide)) rfl (vp_in_iff.mpr (by decide)) wset_off (pu_bp hi (by decide)) dX0_take_82 (fun H locs hW hS => ?_)
                                    have hW : wW G (wset Z i (bput (bput (bput (bput (bput (bput (bput (bput (bput (bput (bput (bput (bput (bput (bput (bput (bput (bput (bput (bput (bput (bput (bput (bput (bput (bput (bput (bput (bput (bput (bput (bput (bput (bput (bput (bput B_9 11 0 ((Z i2) 11 0)) 12 0 ((Z i2) 12 0)) 13 0 ((Z i2) 13 0)) 11 1 ((Z i2) 11 1)) 12 1 ((Z i2) 12 1)) 13 1 ((Z i2) 13 1)) 11 2 ((Z i2) 11 2)) 12 2 ((Z i2) 12 2)) 13 2 ((Z i2) 13 2)) 11 3 ((Z i2) 11 3)) 12 3 ((Z i2) 12 3)) 13 3 ((Z i2) 13 3)) 11 4 ((Z i2) 11 4)) 12 4 ((Z i2) 12 4)) 13 4 ((Z i2) 13 4)) 11 5 ((Z i2) 11 5)) 12 5 ((Z i2) 12 5)) 13 5 ((Z i2) 13 5)) 11 6 ((Z i2) 11 6)) 12 6 ((Z i2) 12 6)) 13 6 ((Z i2) 13 6)) 11 7 ((Z i2) 11 7)) 12 7 ((Z i2) 12 7)) 13 7 ((Z i2) 13 7)) 11 8 ((Z i2) 11 8)) 12 8 ((Z i2) 12 8)) 13 8 ((Z i2) 13 8)) 11 9 ((Z i2) 11 9)) 12 9 ((Z i2) 12 9)) 13 9 ((Z i2) 13 9)) 11 10 ((Z i2) 11 10)) 12 10 ((Z i2) 12 10)) 13 10 ((Z i2) 13 10)) 11 11 ((Z i2) 11 11)) 12 11 ((Z i2) 12 11)) 13 11 ((Z i2) 13 11))) H := hW
                                    refine lv_iinc (v := 12) (lv' := [(2, .int 12), (0, .ref (G.2.2.1 i 0)), (1, .ref (G.2.2.1 i2 0))]) hx hb dX0_take_83 hl (k := 0) rfl (by decide) (by decide) rfl (fun ls hl => ?_)
                                    refine lv_goto (tgt := 41) hx hb dX0_take_86 (by decide) ?_
                                    refine lv_iload_n hx hb dX0_take_41 rfl (lv_at hl 0 rfl) ?_
                                    refine lv_bipush (v := 12) hx hb dX0_take_42 (by decide) ?_
                                    refine lv_icmp_ge (tgt := 89) hx hb dX0_take_44 (by decide) (fun c_23 => ?_) (fun c_23 => ?_)
                                    · skip
                                      refine lv_aload_n hx hb dX0_take_89 rfl (lv_at hl 1 rfl) ?_
                                      refine lv_aload_n hx hb dX0_take_90 rfl (lv_at hl 2 rfl) ?_
                                      refine wr_get hC hinRX0 hW (vB hi2 (by decide)) ((ce_o hne).trans (ce_b0 hi2)) rfl 5 (by decide) hk5 rfl dX0_take_91 ?_
                                      refine wr_put (Z' := wset Z i (bput (bput (bput (bput (bput (bput (bput (bput (bput (bput (bput (bput (bput (bput (bput (bput (bput (bput (bput (bput (bput (bput (bput (bput (bput (bput (bput (bput (bput (bput (bput (bput (bput (bput (bput (bput (bput B_9 11 0 ((Z i2) 11 0)) 12 0 ((Z i2) 12 0)) 13 0 ((Z i2) 13 0)) 11 1 ((Z i2) 11 1)) 12 1 ((Z i2) 12 1)) 13 1 ((Z i2) 13 1)) 11 2 ((Z i2) 11 2)) 12 2 ((Z i2) 12 2)) 13 2 ((Z i2) 13 2)) 11 3 ((Z i2) 11 3)) 12 3 ((Z i2) 12 3)) 13 3 ((Z i2) 13 3)) 11 4 ((Z i2) 11 4)) 12 4 ((Z i2) 12 4)) 13 4 ((Z i2) 13 4)) 11 5 ((Z i2) 11 5)) 12 5 ((Z i2) 12 5)) 13 5 ((Z i2) 13 5)) 11 6 ((Z i2) 11 6)) 12 6 ((Z i2) 12 6)) 13 6 ((Z i2) 13 6)) 11 7 ((Z i2) 11 7)) 12 7 ((Z i2) 12 7)) 13 7 ((Z i2) 13 7)) 11 8 ((Z i2) 11 8)) 12 8 ((Z i2) 12 8)) 13 8 ((Z i2) 13 8)) 11 9 ((Z i2) 11 9)) 12 9 ((Z i2) 12 9)) 13 9 ((Z i2) 13 9)) 11 10 ((Z i2) 11 10)) 12 10 ((Z i2) 12 10)) 13 10 ((Z i2) 13 10)) 11 11 ((Z i2) 11 11)) 12 11 ((Z i2) 12 11)) 13 11 ((Z i2) 13 11)) 0 0 ((Z i2) 0 0))) (v := .int ((Z i2) 0 0)) hC hinRX0 tyX0 tyX0_ok nmX0 hW hS (vB hi (by decide)) (ce_b0 hi) rfl 5 (by decide) hk5 rfl (tyX0_ok 5 (by decide)) rfl rfl (Nat.le_of_ble_eq_true rfl) wset_off (pu_b0_0 hi) dX0_take_94 (fun H locs hW hS => ?_)
                                      refine lv_aload_n hx hb dX0_take_97 rfl (lv_at hl 1 rfl) ?_
                                      refine lv_aload_n hx hb dX0_take_98 rfl (lv_at hl 2 rfl) ?_
                                      refine wr_get hC hinRX0 hW (vB hi2 (by decide)) ((ce_o hne).trans (ce_b0 hi2)) rfl 6 (by decide) hk6 rfl dX0_take_99 ?_
                                      refine wr_put (Z' := wset Z i (bput (bput (bput (bput (bput (bput (bput (bput (bput (bput (bput (bput (bput (bput (bput (bput (bput (bput (bput (bput (bput (bput (bput (bput (bput (bput (bput (bput (bput (bput (bput (bput (bput (bput (bput (bput (bput (bput B_9 11 0 ((Z i2) 11 0)) 12 0 ((Z i2) 12 0)) 13 0 ((Z i2) 13 0)) 11 1 ((Z i2) 11 1)) 12 1 ((Z i2) 12 1)) 13 1 ((Z i2) 13 1)) 11 2 ((Z i2) 11 2)) 12 2 ((Z i2) 12 2)) 13 2 ((Z i2) 13 2)) 11 3 ((Z i2) 11 3)) 12 3 ((Z i2) 12 3)) 13 3 ((Z i2) 13 3)) 11 4 ((Z i2) 11 4)) 12 4 ((Z i2) 12 4)) 13 4 ((Z i2) 13 4)) 11 5 ((Z i2) 11 5)) 12 5 ((Z i2) 12 5)) 13 5 ((Z i2) 13 5)) 11 6 ((Z i2) 11 6)) 12 6 ((Z i2) 12 6)) 13 6 ((Z i2) 13 6)) 11 7 ((Z i2) 11 7)) 12 7 ((Z i2) 12 7)) 13 7 ((Z i2) 13 7)) 11 8 ((Z i2) 11 8)) 12 8 ((Z i2) 12 8)) 13 8 ((Z i2) 13 8)) 11 9 ((Z i2) 11 9)) 12 9 ((Z i2) 12 9)) 13 9 ((Z i2) 13 9)) 11 10 ((Z i2) 11 10)) 12 10 ((Z i2) 12 10)) 13 10 ((Z i2) 13 10)) 11 11 ((Z i2) 11 11)) 12 11 ((Z i2) 12 11)) 13 11 ((Z i2) 13 11)) 0 0 ((Z i2) 0 0)) 0 1 ((Z i2) 0 1))) (v := .int ((Z i2) 0 1)) hC hinRX0 tyX0 tyX0_ok nmX0 hW hS (vB hi (by decide)) (ce_b0 hi) rfl 6 (by decide) hk6 rfl (tyX0_ok 6 (by decide)) rfl rfl (Nat.le_of_ble_eq_true rfl) wset_off (pu_b0_1 hi) dX0_take_102 (fun H locs hW hS => ?_)
                                      refine lv_aload_n hx hb dX0_take_105 rfl (lv_at hl 1 rfl) ?_
                                      refine lv_aload_n hx hb dX0_take_106 rfl (lv_at hl 2 rfl) ?_
                                      refine wr_get hC hinRX0 hW (vB hi2 (by decide)) ((ce_o hne).trans (ce_b0 hi2)) rfl 7 (by decide) hk7 rfl dX0_take_107 ?_
                                      refine wr_put (Z' := wset Z i (bput (bput (bput (bput (bput (bput (bput (bput (bput (bput (bput (bput (bput (bput (bput (bput (bput (bput (bput (bput (bput (bput (bput (bput (bput (bput (bput (bput (bput (bput (bput (bput (bput (bput (bput (bput (bput (bput (bput B_9 11 0 ((Z i2) 11 0)) 12 0 ((Z i2) 12 0)) 13 0 ((Z i2) 13 0)) 11 1 ((Z i2) 11 1)) 12 1 ((Z i2) 12 1)) 13 1 ((Z i2) 13 1)) 11 2 ((Z i2) 11 2)) 12 2 ((Z i2) 12 2)) 13 2 ((Z i2) 13 2)) 11 3 ((Z i2) 11 3)) 12 3 ((Z i2) 12 3)) 13 3 ((Z i2) 13 3)) 11 4 ((Z i2) 11 4)) 12 4 ((Z i2) 12 4)) 13 4 ((Z i2) 13 4)) 11 5 ((Z i2) 11 5)) 12 5 ((Z i2) 12 5)) 13 5 ((Z i2) 13 5)) 11 6 ((Z i2) 11 6)) 12 6 ((Z i2) 12 6)) 13 6 ((Z i2) 13 6)) 11 7 ((Z i2) 11 7)) 12 7 ((Z i2) 12 7)) 13 7 ((Z i2) 13 7)) 11 8 ((Z i2) 11 8)) 12 8 ((Z i2) 12 8)) 13 8 ((Z i2) 13 8)) 11 9 ((Z i2) 11 9)) 12 9 ((Z i2) 12 9)) 13 9 ((Z i2) 13 9)) 11 10 ((Z i2) 11 10)) 12 10 ((Z i2) 12 10)) 13 10 ((Z i2) 13 10)) 11 11 ((Z i2) 11 11)) 12 11 ((Z i2) 12 11)) 13 11 ((Z i2) 13 11)) 0 0 ((Z i2) 0 0)) 0 1 ((Z i2) 0 1)) 0 2 ((Z i2) 0 2))) (v := .int ((Z i2) 0 2)) hC hinRX0 tyX0 tyX0_ok nmX0 hW hS (vB hi (by decide)) (ce_b0 hi) rfl 7 (by decide) hk7 rfl (tyX0_ok 7 (by decide)) rfl rfl (Nat.le_of_ble_eq_true rfl) wset_off (pu_b0_2 hi) dX0_take_110 (fun H locs hW hS => ?_)
                                      have hf : fX0_take B (Z i2) = (bput (bput (bput (bput (bput (bput (bput (bput (bput (bput (bput (bput (bput (bput (bput (bput (bput (bput (bput (bput (bput (bput (bput (bput (bput (bput (bput (bput (bput (bput (bput (bput (bput (bput (bput (bput (bput (bput (bput B_9 11 0 ((Z i2) 11 0)) 12 0 ((Z i2) 12 0)) 13 0 ((Z i2) 13 0)) 11 1 ((Z i2) 11 1)) 12 1 ((Z i2) 12 1)) 13 1 ((Z i2) 13 1)) 11 2 ((Z i2) 11 2)) 12 2 ((Z i2) 12 2)) 13 2 ((Z i2) 13 2)) 11 3 ((Z i2) 11 3)) 12 3 ((Z i2) 12 3)) 13 3 ((Z i2) 13 3)) 11 4 ((Z i2) 11 4)) 12 4 ((Z i2) 12 4)) 13 4 ((Z i2) 13 4)) 11 5 ((Z i2) 11 5)) 12 5 ((Z i2) 12 5)) 13 5 ((Z i2) 13 5)) 11 6 ((Z i2) 11 6)) 12 6 ((Z i2) 12 6)) 13 6 ((Z i2) 13 6)) 11 7 ((Z i2) 11 7)) 12 7 ((Z i2) 12 7)) 13 7 ((Z i2) 13 7)) 11 8 ((Z i2) 11 8)) 12 8 ((Z i2) 12 8)) 13 8 ((Z i2) 13 8)) 11 9 ((Z i2) 11 9)) 12 9 ((Z i2) 12 9)) 13 9 ((Z i2) 13 9)) 11 10 ((Z i2) 11 10)) 12 10 ((Z i2) 12 10)) 13 10 ((Z i2) 13 10)) 11 11 ((Z i2) 11 11)) 12 11 ((Z i2) 12 11)) 13 11 ((Z i2) 13 11)) 0 0 ((Z i2) 0 0)) 0 1 ((Z i2) 0 1)) 0 2 ((Z i2) 0 2)) := by
                                        subst eB_9
                                        subst eB_7
                                        subst eB_5
                                        subst eB_3
                                        subst eB_1
                                        exact rfl
                                      rw [← hf] at hW
                                      have hW := wW_ext hi take_all hW
                                      exact we_v hC hr hlocks rfl hW hS dX0_take_113
                                    · exact absurd c_23 (by decide)
          · exact absurd c_10 (by decide)

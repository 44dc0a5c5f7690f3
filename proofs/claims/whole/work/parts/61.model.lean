def fX7_begins (B : wB) (k : Nat) (a2 : Int32) : wB :=
  let x_1 := a2 - (B 1 (7 + 14 * k + 2))
  let x_2 := fX7_size x_1
  let x_3 := x_2 / (B 1 (7 + 14 * k + 0))
  if x_3 = 0 then (bput (bput (bput (bput B 1 (7 + 14 * k + 5) x_3) 1 (7 + 14 * k + 4) 0) 1 (7 + 14 * k + 6) 0) 1 (7 + 14 * k + 7) 0)
  else if x_1 ≤ 0 then (let B_7 := (bput (bput (bput B 1 (7 + 14 * k + 5) x_3) 1 (7 + 14 * k + 4) (-1)) 1 (7 + 14 * k + 6) 0)
    let x_8 := fX7_intervalBy B_7 0 (B 1 2)
    (bput B_7 1 (7 + 14 * k + 7) ((B 1 5) + x_8)))
  else let B_10 := (bput (bput (bput B 1 (7 + 14 * k + 5) x_3) 1 (7 + 14 * k + 4) 1) 1 (7 + 14 * k + 6) 0)
  let x_11 := fX7_intervalBy B_10 0 (B 1 2)
  (bput B_10 1 (7 + 14 * k + 7) ((B 1 5) + x_11))
abbrev rX7_begins : Room := { frames := 1, cells := 0, slots := 0, locals := 23 }
set_option maxHeartbeats 4000000 in
set_option maxRecDepth 100000 in
theorem kX7_begins (l : Launch) (G : wG) (Z : wZ) (B : wB) (k : Nat) (a2 : Int32) (hk : k < 4) (hmi : ¬ B 1 (7 + 14 * k + 0) = 0) : mV l yX7_begins wsX7_begins rX7_begins G [.ref (G.2.2.1 12 0), .int (nI k), .int a2] (wset Z 12 B) (wset Z 12 (fX7_begins B k a2)) := by
  refine Met.ofW (cc := cX7_begins) (maxL := 5) (ret := none) (by decide) rfl ?_
  intro p e s m args below meth c s₁ B0 hml hv
  obtain ⟨rfl, hW, hK, hL⟩ := hv
  have hlocks := B0.notSynchronized
  have hr := B0.returns
  have hC : wX p s m c cX7_begins _ wsX7_begins RX7 G := ⟨B0.exec, B0.bytes, findClass_of_methodNamed B0.named, atoms_spec (ws := wsX7_begins) B0.pre, hK, hL⟩
  have hx := hC.1
  have hb := hC.2.1
  have hts := hC.2.2.2.1
  have hinRX7 : ∀ w ∈ wsX70, w ∈ wsX7_begins := by decide +kernel
  have hk0 := hts (.fieldLink RX7 7 "RampShaftsModel" "s" "[I") (by decide +kernel)
  have hS : va_S (wA G) s.heap s.heap [] := va_S.rf
  have hl := lv_entry ([.ref (G.2.2.1 12 0), .int (nI k), .int a2]) (n := 5) (Nat.le_of_ble_eq_true rfl)
  rw [lg_entry_eq]
  generalize (lg_sl ([.ref (G.2.2.1 12 0), .int (nI k), .int a2]) ++ List.replicate (5 - (lg_sl ([.ref (G.2.2.1 12 0), .int (nI k), .int a2])).length) Slot.unset).toArray = ls at hl ⊢
  have hl : lv_has ls 5 [(0, .ref (G.2.2.1 12 0)), (1, .int (nI k)), (2, .int a2)] := hl
  refine lv_iload_n hx hb dX7_begins_0 rfl (lv_at hl 2 rfl) ?_
  refine lv_aload_n hx hb dX7_begins_1 rfl (lv_at hl 0 rfl) ?_
  refine wr_get hC hinRX7 hW (vM (by decide)) ce_m0 rfl 0 (by decide) hk0 rfl dX7_begins_2 ?_
  refine lv_iload_n hx hb dX7_begins_5 rfl (lv_at hl 1 rfl) ?_
  refine lv_iconst (v := 2) hx hb dX7_begins_6 (by decide) ?_
  refine wc_s hC hml (kX7_at l G (wset Z 12 B) k 2) (cwS 2 hts gX7_begins_X7_at rfl rfl rfl (by decide +kernel) ⟨Nat.le_of_ble_eq_true rfl, Nat.le_of_ble_eq_true rfl⟩) hW hS rfl rfl hl.1 (Nat.le_of_ble_eq_true rfl) dX7_begins_7 (fun H locs hW hS => ?_)
  refine lv_re (y := nI (7 + 14 * k + 2)) rfl ?_
  refine wr_ald (kA := 0) hC hW (vM (by decide)) ce_m1 rfl (vp_in_nI (show (7 + 14 * k + 2) < 100 by omega) (by decide)) dX7_begins_10 ?_
  refine lv_re (y := B 1 (7 + 14 * k + 2)) ((congrArg (B 1) (nI_clamp (by omega)))) ?_
  refine lv_isub hx hb dX7_begins_11 ?_
  refine lv_topi (fun x_1 ex_1 => ?_)
  refine lv_istore_n (lv' := [(3, .int x_1), (0, .ref (G.2.2.1 12 0)), (1, .int (nI k)), (2, .int a2)]) hx hb dX7_begins_12 rfl hl (by decide) rfl (fun ls hl => ?_)
  refine lv_iload_n hx hb dX7_begins_13 rfl (lv_at hl 0 rfl) ?_
  refine wc_s hC hml (kX7_size l G (wset Z 12 B) x_1) (cwS 1 hts gX7_begins_X7_size rfl rfl rfl (by decide +kernel) ⟨Nat.le_of_ble_eq_true rfl, Nat.le_of_ble_eq_true rfl⟩) hW hS rfl rfl hl.1 (Nat.le_of_ble_eq_true rfl) dX7_begins_14 (fun H locs hW hS => ?_)
  refine lv_topi (fun x_2 ex_2 => ?_)
  refine lv_aload_n hx hb dX7_begins_17 rfl (lv_at hl 1 rfl) ?_
  refine wr_get hC hinRX7 hW (vM (by decide)) ce_m0 rfl 0 (by decide) hk0 rfl dX7_begins_18 ?_
  refine lv_iload_n hx hb dX7_begins_21 rfl (lv_at hl 2 rfl) ?_
  refine lv_iconst (v := 0) hx hb dX7_begins_22 (by decide) ?_
  refine wc_s hC hml (kX7_at l G (wset Z 12 B) k 0) (cwS 2 hts gX7_begins_X7_at rfl rfl rfl (by decide +kernel) ⟨Nat.le_of_ble_eq_true rfl, Nat.le_of_ble_eq_true rfl⟩) hW hS rfl rfl hl.1 (Nat.le_of_ble_eq_true rfl) dX7_begins_23 (fun H locs hW hS => ?_)
  refine lv_re (y := nI (7 + 14 * k + 0)) rfl ?_
  refine wr_ald (kA := 0) hC hW (vM (by decide)) ce_m1 rfl (vp_in_nI (show (7 + 14 * k + 0) < 100 by omega) (by decide)) dX7_begins_26 ?_
  refine lv_re (y := B 1 (7 + 14 * k + 0)) ((congrArg (B 1) (nI_clamp (by omega)))) ?_
  refine lv_idiv hx hb dX7_begins_27 (hmi) ?_
  refine lv_topi (fun x_3 ex_3 => ?_)
  refine lv_istore (lv' := [(4, .int x_3), (3, .int x_1), (0, .ref (G.2.2.1 12 0)), (1, .int (nI k)), (2, .int a2)]) hx hb dX7_begins_28 hl (by decide) rfl (fun ls hl => ?_)
  refine lv_aload_n hx hb dX7_begins_30 rfl (lv_at hl 2 rfl) ?_
  refine wr_get hC hinRX7 hW (vM (by decide)) ce_m0 rfl 0 (by decide) hk0 rfl dX7_begins_31 ?_
  refine lv_iload_n hx hb dX7_begins_34 rfl (lv_at hl 3 rfl) ?_
  refine lv_iconst (v := 5) hx hb dX7_begins_35 (by decide) ?_
  refine wc_s hC hml (kX7_at l G (wset Z 12 B) k 5) (cwS 2 hts gX7_begins_X7_at rfl rfl rfl (by decide +kernel) ⟨Nat.le_of_ble_eq_true rfl, Nat.le_of_ble_eq_true rfl⟩) hW hS rfl rfl hl.1 (Nat.le_of_ble_eq_true rfl) dX7_begins_36 (fun H locs hW hS => ?_)
  refine lv_re (y := nI (7 + 14 * k + 5)) rfl ?_
  refine lv_iload hx hb dX7_begins_39 (lv_at hl 0 rfl) ?_
  refine wr_ast (kA := 0) (Z' := wset Z 12 (bput B 1 (nI (7 + 14 * k + 5)).toNatClampNeg x_3)) hC hW hS (vM (by decide)) ce_m1 rfl (vp_in_nI (show (7 + 14 * k + 5) < 100 by omega) (by decide)) wset_off pu_m1 dX7_begins_41 (fun H locs hW hS => ?_)
  rw [nI_clamp (show (7 + 14 * k + 5) < 2 ^ 31 by omega)] at hW
  refine lv_aload_n hx hb dX7_begins_42 rfl (lv_at hl 2 rfl) ?_
  refine wr_get hC hinRX7 hW (vM (by decide)) ce_m0 rfl 0 (by decide) hk0 rfl dX7_begins_43 ?_
  refine lv_iload_n hx hb dX7_begins_46 rfl (lv_at hl 3 rfl) ?_
  refine lv_iconst (v := 4) hx hb dX7_begins_47 (by decide) ?_
  refine wc_s hC hml (kX7_at l G (wset Z 12 (bput B 1 (7 + 14 * k + 5) x_3)) k 4) (cwS 2 hts gX7_begins_X7_at rfl rfl rfl (by decide +kernel) ⟨Nat.le_of_ble_eq_true rfl, Nat.le_of_ble_eq_true rfl⟩) hW hS rfl rfl hl.1 (Nat.le_of_ble_eq_true rfl) dX7_begins_48 (fun H locs hW hS => ?_)
  refine lv_re (y := nI (7 + 14 * k + 4)) rfl ?_
  refine lv_iload hx hb dX7_begins_51 (lv_at hl 0 rfl) ?_
  refine lv_if_ne (tgt := 60) hx hb dX7_begins_53 (by decide) (fun c_4 => ?_) (fun c_4 => ?_)
  · skip
    refine lv_iload_n hx hb dX7_begins_60 rfl (lv_at hl 1 rfl) ?_
    refine lv_if_le (tgt := 68) hx hb dX7_begins_61 (by decide) (fun c_5 => ?_) (fun c_5 => ?_)
    · skip
      refine lv_iconst (v := (-1)) hx hb dX7_begins_68 (by decide) ?_
      refine wr_ast (kA := 0) (Z' := wset Z 12 (bput (bput B 1 (7 + 14 * k + 5) x_3) 1 (nI (7 + 14 * k + 4)).toNatClampNeg (-1))) hC hW hS (vM (by decide)) ce_m1 rfl (vp_in_nI (show (7 + 14 * k + 4) < 100 by omega) (by decide)) wset_off pu_m1 dX7_begins_69 (fun H locs hW hS => ?_)
      rw [nI_clamp (show (7 + 14 * k + 4) < 2 ^ 31 by omega)] at hW
      refine lv_aload_n hx hb dX7_begins_70 rfl (lv_at hl 2 rfl) ?_
      refine wr_get hC hinRX7 hW (vM (by decide)) ce_m0 rfl 0 (by decide) hk0 rfl dX7_begins_71 ?_
      refine lv_iload_n hx hb dX7_begins_74 rfl (lv_at hl 3 rfl) ?_
      refine lv_bipush (v := 6) hx hb dX7_begins_75 (by decide) ?_
      refine wc_s hC hml (kX7_at l G (wset Z 12 (bput (bput B 1 (7 + 14 * k + 5) x_3) 1 (7 + 14 * k + 4) (-1))) k 6) (cwS 2 hts gX7_begins_X7_at rfl rfl rfl (by decide +kernel) ⟨Nat.le_of_ble_eq_true rfl, Nat.le_of_ble_eq_true rfl⟩) hW hS rfl rfl hl.1 (Nat.le_of_ble_eq_true rfl) dX7_begins_77 (fun H locs hW hS => ?_)
      refine lv_re (y := nI (7 + 14 * k + 6)) rfl ?_
      refine lv_iconst (v := 0) hx hb dX7_begins_80 (by decide) ?_
      refine wr_ast (kA := 0) (Z' := wset Z 12 (bput (bput (bput B 1 (7 + 14 * k + 5) x_3) 1 (7 + 14 * k + 4) (-1)) 1 (nI (7 + 14 * k + 6)).toNatClampNeg 0)) hC hW hS (vM (by decide)) ce_m1 rfl (vp_in_nI (show (7 + 14 * k + 6) < 100 by omega) (by decide)) wset_off pu_m1 dX7_begins_81 (fun H locs hW hS => ?_)
      rw [nI_clamp (show (7 + 14 * k + 6) < 2 ^ 31 by omega)] at hW
      refine lv_aload_n hx hb dX7_begins_82 rfl (lv_at hl 2 rfl) ?_
      refine wr_get hC hinRX7 hW (vM (by decide)) ce_m0 rfl 0 (by decide) hk0 rfl dX7_begins_83 ?_
      refine lv_iload_n hx hb dX7_begins_86 rfl (lv_at hl 3 rfl) ?_
      refine lv_bipush (v := 7) hx hb dX7_begins_87 (by decide) ?_
      refine wc_s hC hml (kX7_at l G (wset Z 12 (bput (bput (bput B 1 (7 + 14 * k + 5) x_3) 1 (7 + 14 * k + 4) (-1)) 1 (7 + 14 * k + 6) 0)) k 7) (cwS 2 hts gX7_begins_X7_at rfl rfl rfl (by decide +kernel) ⟨Nat.le_of_ble_eq_true rfl, Nat.le_of_ble_eq_true rfl⟩) hW hS rfl rfl hl.1 (Nat.le_of_ble_eq_true rfl) dX7_begins_89 (fun H locs hW hS => ?_)
      refine lv_re (y := nI (7 + 14 * k + 7)) rfl ?_
      refine lv_iload hx hb dX7_begins_92 (lv_at hl 0 rfl) ?_
      refine lv_if_ne (tgt := 101) hx hb dX7_begins_94 (by decide) (fun c_6 => ?_) (fun c_6 => ?_)
      · skip
        refine lv_aload_n hx hb dX7_begins_101 rfl (lv_at hl 2 rfl) ?_
        refine wr_get hC hinRX7 hW (vM (by decide)) ce_m0 rfl 0 (by decide) hk0 rfl dX7_begins_102 ?_
        refine lv_iconst (v := 5) hx hb dX7_begins_105 (by decide) ?_
        refine wr_ald (kA := 0) hC hW (vM (by decide)) ce_m1 rfl (vp_in_iff.mpr (by decide)) dX7_begins_106 ?_
        refine lv_re (y := B 1 5) (((((congrArg ((bput (bput (bput B 1 (7 + 14 * k + 5) x_3) 1 (7 + 14 * k + 4) (-1)) 1 (7 + 14 * k + 6) 0) 1) (show (5 : Int32).toNatClampNeg = 5 by decide))).trans (bput_q (by omega))).trans (bput_q (by omega))).trans (bput_q (by omega))) ?_
        refine lv_aload_n hx hb dX7_begins_107 rfl (lv_at hl 2 rfl) ?_
        refine lv_iconst (v := 0) hx hb dX7_begins_108 (by decide) ?_
        refine lv_aload_n hx hb dX7_begins_109 rfl (lv_at hl 2 rfl) ?_
        refine wr_get hC hinRX7 hW (vM (by decide)) ce_m0 rfl 0 (by decide) hk0 rfl dX7_begins_110 ?_
        refine lv_iconst (v := 2) hx hb dX7_begins_113 (by decide) ?_
        refine wr_ald (kA := 0) hC hW (vM (by decide)) ce_m1 rfl (vp_in_iff.mpr (by decide)) dX7_begins_114 ?_
        refine lv_re (y := B 1 2) (((((congrArg ((bput (bput (bput B 1 (7 + 14 * k + 5) x_3) 1 (7 + 14 * k + 4) (-1)) 1 (7 + 14 * k + 6) 0) 1) (show (2 : Int32).toNatClampNeg = 2 by decide))).trans (bput_q (by omega))).trans (bput_q (by omega))).trans (bput_q (by omega))) ?_
        obtain ⟨B_7, eB_7⟩ : ∃ y, y = (bput (bput (bput B 1 (7 + 14 * k + 5) x_3) 1 (7 + 14 * k + 4) (-1)) 1 (7 + 14 * k + 6) 0) := ⟨_, rfl⟩
        rw [← eB_7] at hW
        refine wc_i hC hml (kX7_intervalBy l G Z B_7 0 (B 1 2)) (cwV 2 hts gX7_begins_X7_intervalBy rfl rfl rfl (by decide +kernel) ⟨Nat.le_of_ble_eq_true rfl, Nat.le_of_ble_eq_true rfl⟩) hW hS (vM (by decide)) ce_m0 rfl rfl rfl rfl hl.1 (Nat.le_of_ble_eq_true rfl) dX7_begins_115 (fun H locs hW hS => ?_)
        refine lv_topi (fun x_8 ex_8 => ?_)
        refine lv_iadd hx hb dX7_begins_118 ?_
        refine wr_ast (kA := 0) (Z' := wset Z 12 (bput B_7 1 (nI (7 + 14 * k + 7)).toNatClampNeg ((B 1 5) + x_8))) hC hW hS (vM (by decide)) ce_m1 rfl (vp_in_nI (show (7 + 14 * k + 7) < 100 by omega) (by decide)) wset_off pu_m1 dX7_begins_119 (fun H locs hW hS => ?_)
        rw [nI_clamp (show (7 + 14 * k + 7) < 2 ^ 31 by omega)] at hW
        have hf : fX7_begins B k a2 = (bput B_7 1 (7 + 14 * k + 7) ((B 1 5) + x_8)) := by
          subst ex_8
          subst eB_7
          subst ex_3
          subst ex_2
          subst ex_1
          exact (if_neg c_4).trans ((if_pos c_5).trans rfl)
        exact we_v hC hr hlocks (congrArg (wset Z 12) hf).symm hW hS dX7_begins_120
      · first | exact absurd c_4 c_6 | exact absurd c_6 c_4
    · skip
      refine lv_iconst (v := 1) hx hb dX7_begins_64 (by decide) ?_
      refine lv_goto (tgt := 69) hx hb dX7_begins_65 (by decide) ?_
      refine wr_ast (kA := 0) (Z' := wset Z 12 (bput (bput B 1 (7 + 14 * k + 5) x_3) 1 (nI (7 + 14 * k + 4)).toNatClampNeg 1)) hC hW hS (vM (by decide)) ce_m1 rfl (vp_in_nI (show (7 + 14 * k + 4) < 100 by omega) (by decide)) wset_off pu_m1 dX7_begins_69 (fun H locs hW hS => ?_)
      rw [nI_clamp (show (7 + 14 * k + 4) < 2 ^ 31 by omega)] at hW
      refine lv_aload_n hx hb dX7_begins_70 rfl (lv_at hl 2 rfl) ?_
      refine wr_get hC hinRX7 hW (vM (by decide)) ce_m0 rfl 0 (by decide) hk0 rfl dX7_begins_71 ?_
      refine lv_iload_n hx hb dX7_begins_74 rfl (lv_at hl 3 rfl) ?_
      refine lv_bipush (v := 6) hx hb dX7_begins_75 (by decide) ?_
      refine wc_s hC hml (kX7_at l G (wset Z 12 (bput (bput B 1 (7 + 14 * k + 5) x_3) 1 (7 + 14 * k + 4) 1)) k 6) (cwS 2 hts gX7_begins_X7_at rfl rfl rfl (by decide +kernel) ⟨Nat.le_of_ble_eq_true rfl, Nat.le_of_ble_eq_true rfl⟩) hW hS rfl rfl hl.1 (Nat.le_of_ble_eq_true rfl) dX7_begins_77 (fun H locs hW hS => ?_)
      refine lv_re (y := nI (7 + 14 * k + 6)) rfl ?_
      refine lv_iconst (v := 0) hx hb dX7_begins_80 (by decide) ?_
      refine wr_ast (kA := 0) (Z' := wset Z 12 (bput (bput (bput B 1 (7 + 14 * k + 5) x_3) 1 (7 + 14 * k + 4) 1) 1 (nI (7 + 14 * k + 6)).toNatClampNeg 0)) hC hW hS (vM (by decide)) ce_m1 rfl (vp_in_nI (show (7 + 14 * k + 6) < 100 by omega) (by decide)) wset_off pu_m1 dX7_begins_81 (fun H locs hW hS => ?_)
      rw [nI_clamp (show (7 + 14 * k + 6) < 2 ^ 31 by omega)] at hW
      refine lv_aload_n hx hb dX7_begins_82 rfl (lv_at hl 2 rfl) ?_
      refine wr_get hC hinRX7 hW (vM (by decide)) ce_m0 rfl 0 (by decide) hk0 rfl dX7_begins_83 ?_
      refine lv_iload_n hx hb dX7_begins_86 rfl (lv_at hl 3 rfl) ?_
      refine lv_bipush (v := 7) hx hb dX7_begins_87 (by decide) ?_
      refine wc_s hC hml (kX7_at l G (wset Z 12 (bput (bput (bput B 1 (7 + 14 * k + 5) x_3) 1 (7 + 14 * k + 4) 1) 1 (7 + 14 * k + 6) 0)) k 7) (cwS 2 hts gX7_begins_X7_at rfl rfl rfl (by decide +kernel) ⟨Nat.le_of_ble_eq_true rfl, Nat.le_of_ble_eq_true rfl⟩) hW hS rfl rfl hl.1 (Nat.le_of_ble_eq_true rfl) dX7_begins_89 (fun H locs hW hS => ?_)
      refine lv_re (y := nI (7 + 14 * k + 7)) rfl ?_
      refine lv_iload hx hb dX7_begins_92 (lv_at hl 0 rfl) ?_
      refine lv_if_ne (tgt := 101) hx hb dX7_begins_94 (by decide) (fun c_9 => ?_) (fun c_9 => ?_)
      · skip
        refine lv_aload_n hx hb dX7_begins_101 rfl (lv_at hl 2 rfl) ?_
        refine wr_get hC hinRX7 hW (vM (by decide)) ce_m0 rfl 0 (by decide) hk0 rfl dX7_begins_102 ?_
        refine lv_iconst (v := 5) hx hb dX7_begins_105 (by decide) ?_
        refine wr_ald (kA := 0) hC hW (vM (by decide)) ce_m1 rfl (vp_in_iff.mpr (by decide)) dX7_begins_106 ?_
        refine lv_re (y := B 1 5) (((((congrArg ((bput (bput (bput B 1 (7 + 14 * k + 5) x_3) 1 (7 + 14 * k + 4) 1) 1 (7 + 14 * k + 6) 0) 1) (show (5 : Int32).toNatClampNeg = 5 by decide))).trans (bput_q (by omega))).trans (bput_q (by omega))).trans (bput_q (by omega))) ?_
        refine lv_aload_n hx hb dX7_begins_107 rfl (lv_at hl 2 rfl) ?_
        refine lv_iconst (v := 0) hx hb dX7_begins_108 (by decide) ?_
        refine lv_aload_n hx hb dX7_begins_109 rfl (lv_at hl 2 rfl) ?_
        refine wr_get hC hinRX7 hW (vM (by decide)) ce_m0 rfl 0 (by decide) hk0 rfl dX7_begins_110 ?_
        refine lv_iconst (v := 2) hx hb dX7_begins_113 (by decide) ?_
        refine wr_ald (kA := 0) hC hW (vM (by decide)) ce_m1 rfl (vp_in_iff.mpr (by decide)) dX7_begins_114 ?_
        refine lv_re (y := B 1 2) (((((congrArg ((bput (bput (bput B 1 (7 + 14 * k + 5) x_3) 1 (7 + 14 * k + 4) 1) 1 (7 + 14 * k + 6) 0) 1) (show (2 : Int32).toNatClampNeg = 2 by decide))).trans (bput_q (by omega))).trans (bput_q (by omega))).trans (bput_q (by omega))) ?_
        obtain ⟨B_10, eB_10⟩ : ∃ y, y = (bput (bput (bput B 1 (7 + 14 * k + 5) x_3) 1 (7 + 14 * k + 4) 1) 1 (7 + 14 * k + 6) 0) := ⟨_, rfl⟩
        rw [← eB_10] at hW
        refine wc_i hC hml (kX7_intervalBy l G Z B_10 0 (B 1 2)) (cwV 2 hts gX7_begins_X7_intervalBy rfl rfl rfl (by decide +kernel) ⟨Nat.le_of_ble_eq_true rfl, Nat.le_of_ble_eq_true rfl⟩) hW hS (vM (by decide)) ce_m0 rfl rfl rfl rfl hl.1 (Nat.le_of_ble_eq_true rfl) dX7_begins_115 (fun H locs hW hS => ?_)
        refine lv_topi (fun x_11 ex_11 => ?_)
        refine lv_iadd hx hb dX7_begins_118 ?_
        refine wr_ast (kA := 0) (Z' := wset Z 12 (bput B_10 1 (nI (7 + 14 * k + 7)).toNatClampNeg ((B 1 5) + x_11))) hC hW hS (vM (by decide)) ce_m1 rfl (vp_in_nI (show (7 + 14 * k + 7) < 100 by omega) (by decide)) wset_off pu_m1 dX7_begins_119 (fun H locs hW hS => ?_)
        rw [nI_clamp (show (7 + 14 * k + 7) < 2 ^ 31 by omega)] at hW
        have hf : fX7_begins B k a2 = (bput B_10 1 (7 + 14 * k + 7) ((B 1 5) + x_11)) := by
          subst ex_11
          subst eB_10
          subst ex_3
          subst ex_2
          subst ex_1
          exact (if_neg c_4).trans ((if_neg c_5).trans rfl)
        exact we_v hC hr hlocks (congrArg (wset Z 12) hf).symm hW hS dX7_begins_120
      · first | exact absurd c_4 c_9 | exact absurd c_9 c_4
  · skip
    refine lv_iconst (v := 0) hx hb dX7_begins_56 (by decide) ?_
    refine lv_goto (tgt := 69) hx hb dX7_begins_57 (by decide) ?_
    refine wr_ast (kA := 0) (Z' := wset Z 12 (bput (bput B 1 (7 + 14 * k + 5) x_3) 1 (nI (7 + 14 * k + 4)).toNatClampNeg 0)) hC hW hS (vM (by decide)) ce_m1 rfl (vp_in_nI (show (7 + 14 * k + 4) < 100 by omega) (by decide)) wset_off pu_m1 dX7_begins_69 (fun H locs hW hS => ?_)
    rw [nI_clamp (show (7 + 14 * k + 4) < 2 ^ 31 by omega)] at hW
    refine lv_aload_n hx hb dX7_begins_70 rfl (lv_at hl 2 rfl) ?_
    refine wr_get hC hinRX7 hW (vM (by decide)) ce_m0 rfl 0 (by decide) hk0 rfl dX7_begins_71 ?_
    refine lv_iload_n hx hb dX7_begins_74 rfl (lv_at hl 3 rfl) ?_
    refine lv_bipush (v := 6) hx hb dX7_begins_75 (by decide) ?_
    refine wc_s hC hml (kX7_at l G (wset Z 12 (bput (bput B 1 (7 + 14 * k + 5) x_3) 1 (7 + 14 * k + 4) 0)) k 6) (cwS 2 hts gX7_begins_X7_at rfl rfl rfl (by decide +kernel) ⟨Nat.le_of_ble_eq_true rfl, Nat.le_of_ble_eq_true rfl⟩) hW hS rfl rfl hl.1 (Nat.le_of_ble_eq_true rfl) dX7_begins_77 (fun H locs hW hS => ?_)
    refine lv_re (y := nI (7 + 14 * k + 6)) rfl ?_
    refine lv_iconst (v := 0) hx hb dX7_begins_80 (by decide) ?_
    refine wr_ast (kA := 0) (Z' := wset Z 12 (bput (bput (bput B 1 (7 + 14 * k + 5) x_3) 1 (7 + 14 * k + 4) 0) 1 (nI (7 + 14 * k + 6)).toNatClampNeg 0)) hC hW hS (vM (by decide)) ce_m1 rfl (vp_in_nI (show (7 + 14 * k + 6) < 100 by omega) (by decide)) wset_off pu_m1 dX7_begins_81 (fun H locs hW hS => ?_)
    rw [nI_clamp (show (7 + 14 * k + 6) < 2 ^ 31 by omega)] at hW
    refine lv_aload_n hx hb dX7_begins_82 rfl (lv_at hl 2 rfl) ?_
    refine wr_get hC hinRX7 hW (vM (by decide)) ce_m0 rfl 0 (by decide) hk0 rfl dX7_begins_83 ?_
    refine lv_iload_n hx hb dX7_begins_86 rfl (lv_at hl 3 rfl) ?_
    refine lv_bipush (v := 7) hx hb dX7_begins_87 (by decide) ?_
    refine wc_s hC hml (kX7_at l G (wset Z 12 (bput (bput (bput B 1 (7 + 14 * k + 5) x_3) 1 (7 + 14 * k + 4) 0) 1 (7 + 14 * k + 6) 0)) k 7) (cwS 2 hts gX7_begins_X7_at rfl rfl rfl (by decide +kernel) ⟨Nat.le_of_ble_eq_true rfl, Nat.le_of_ble_eq_true rfl⟩) hW hS rfl rfl hl.1 (Nat.le_of_ble_eq_true rfl) dX7_begins_89 (fun H locs hW hS => ?_)
    refine lv_re (y := nI (7 + 14 * k + 7)) rfl ?_
    refine lv_iload hx hb dX7_begins_92 (lv_at hl 0 rfl) ?_
    refine lv_if_ne (tgt := 101) hx hb dX7_begins_94 (by decide) (fun c_12 => ?_) (fun c_12 => ?_)
    · first | exact absurd c_4 c_12 | exact absurd c_12 c_4
    · skip
      refine lv_iconst (v := 0) hx hb dX7_begins_97 (by decide) ?_
      refine lv_goto (tgt := 119) hx hb dX7_begins_98 (by decide) ?_
      refine wr_ast (kA := 0) (Z' := wset Z 12 (bput (bput (bput (bput B 1 (7 + 14 * k + 5) x_3) 1 (7 + 14 * k + 4) 0) 1 (7 + 14 * k + 6) 0) 1 (nI (7 + 14 * k + 7)).toNatClampNeg 0)) hC hW hS (vM (by decide)) ce_m1 rfl (vp_in_nI (show (7 + 14 * k + 7) < 100 by omega) (by decide)) wset_off pu_m1 dX7_begins_119 (fun H locs hW hS => ?_)
      rw [nI_clamp (show (7 + 14 * k + 7) < 2 ^ 31 by omega)] at hW
      have hf : fX7_begins B k a2 = (bput (bput (bput (bput B 1 (7 + 14 * k + 5) x_3) 1 (7 + 14 * k + 4) 0) 1 (7 + 14 * k + 6) 0) 1 (7 + 14 * k + 7) 0) := by
        subst ex_3
        subst ex_2
        subst ex_1
        exact (if_pos c_4).trans rfl
      exact we_v hC hr hlocks (congrArg (wset Z 12) hf).symm hW hS dX7_begins_120
def fX7_takesFirst (B : wB) (k : Nat) : wB × Int32 :=
  let x_1 := B 1 (7 + 14 * k + 9)
  ((bput (bput (bput (bput B 1 (7 + 14 * k + 9) (B 1 (7 + 14 * k + 10))) 1 (7 + 14 * k + 10) (B 1 (7 + 14 * k + 11))) 1 (7 + 14 * k + 11) 0) 1 (7 + 14 * k + 8) ((B 1 (7 + 14 * k + 8)) - 1)), x_1)
abbrev rX7_takesFirst : Room := { frames := 1, cells := 0, slots := 0, locals := 21 }
set_option maxHeartbeats 4000000 in
set_option maxRecDepth 100000 in
theorem kX7_takesFirst (l : Launch) (G : wG) (Z : wZ) (B : wB) (k : Nat) (hk : k < 4) : mI l yX7_takesFirst wsX7_takesFirst rX7_takesFirst G [.ref (G.2.2.1 12 0), .int (nI k)] (wset Z 12 B) (fX7_takesFirst B k).2 (wset Z 12 (fX7_takesFirst B k).1) := by
  refine Met.ofW (cc := cX7_takesFirst) (maxL := 3) (ret := (some .int)) (by decide) rfl ?_
  intro p e s m args below meth c s₁ B0 hml hv
  obtain ⟨rfl, hW, hK, hL⟩ := hv
  have hlocks := B0.notSynchronized
  have hr := B0.returns
  have hC : wX p s m c cX7_takesFirst _ wsX7_takesFirst RX7 G := ⟨B0.exec, B0.bytes, findClass_of_methodNamed B0.named, atoms_spec (ws := wsX7_takesFirst) B0.pre, hK, hL⟩
  have hx := hC.1
  have hb := hC.2.1
  have hts := hC.2.2.2.1
  have hinRX7 : ∀ w ∈ wsX70, w ∈ wsX7_takesFirst := by decide +kernel
  have hk0 := hts (.fieldLink RX7 7 "RampShaftsModel" "s" "[I") (by decide +kernel)
  have hS : va_S (wA G) s.heap s.heap [] := va_S.rf
  have hl := lv_entry ([.ref (G.2.2.1 12 0), .int (nI k)]) (n := 3) (Nat.le_of_ble_eq_true rfl)
  rw [lg_entry_eq]
  generalize (lg_sl ([.ref (G.2.2.1 12 0), .int (nI k)]) ++ List.replicate (3 - (lg_sl ([.ref (G.2.2.1 12 0), .int (nI k)])).length) Slot.unset).toArray = ls at hl ⊢
  have hl : lv_has ls 3 [(0, .ref (G.2.2.1 12 0)), (1, .int (nI k))] := hl
  refine lv_aload_n hx hb dX7_takesFirst_0 rfl (lv_at hl 0 rfl) ?_
  refine wr_get hC hinRX7 hW (vM (by decide)) ce_m0 rfl 0 (by decide) hk0 rfl dX7_takesFirst_1 ?_
  refine lv_iload_n hx hb dX7_takesFirst_4 rfl (lv_at hl 1 rfl) ?_
  refine lv_bipush (v := 9) hx hb dX7_takesFirst_5 (by decide) ?_
  refine wc_s hC hml (kX7_at l G (wset Z 12 B) k 9) (cwS 2 hts gX7_takesFirst_X7_at rfl rfl rfl (by decide +kernel) ⟨Nat.le_of_ble_eq_true rfl, Nat.le_of_ble_eq_true rfl⟩) hW hS rfl rfl hl.1 (Nat.le_of_ble_eq_true rfl) dX7_takesFirst_7 (fun H locs hW hS => ?_)
  refine lv_re (y := nI (7 + 14 * k + 9)) rfl ?_
  refine wr_ald (kA := 0) hC hW (vM (by decide)) ce_m1 rfl (vp_in_nI (show (7 + 14 * k + 9) < 100 by omega) (by decide)) dX7_takesFirst_10 ?_
  refine lv_re (y := B 1 (7 + 14 * k + 9)) ((congrArg (B 1) (nI_clamp (by omega)))) ?_
  refine lv_topi (fun x_1 ex_1 => ?_)
  refine lv_istore_n (lv' := [(2, .int x_1), (0, .ref (G.2.2.1 12 0)), (1, .int (nI k))]) hx hb dX7_takesFirst_11 rfl hl (by decide) rfl (fun ls hl => ?_)
  refine lv_aload_n hx hb dX7_takesFirst_12 rfl (lv_at hl 1 rfl) ?_
  refine wr_get hC hinRX7 hW (vM (by decide)) ce_m0 rfl 0 (by decide) hk0 rfl dX7_takesFirst_13 ?_
  refine lv_iload_n hx hb dX7_takesFirst_16 rfl (lv_at hl 2 rfl) ?_
  refine lv_bipush (v := 9) hx hb dX7_takesFirst_17 (by decide) ?_
  refine wc_s hC hml (kX7_at l G (wset Z 12 B) k 9) (cwS 2 hts gX7_takesFirst_X7_at rfl rfl rfl (by decide +kernel) ⟨Nat.le_of_ble_eq_true rfl, Nat.le_of_ble_eq_true rfl⟩) hW hS rfl rfl hl.1 (Nat.le_of_ble_eq_true rfl) dX7_takesFirst_19 (fun H locs hW hS => ?_)
  refine lv_re (y := nI (7 + 14 * k + 9)) rfl ?_
  refine lv_aload_n hx hb dX7_takesFirst_22 rfl (lv_at hl 1 rfl) ?_
  refine wr_get hC hinRX7 hW (vM (by decide)) ce_m0 rfl 0 (by decide) hk0 rfl dX7_takesFirst_23 ?_
  refine lv_iload_n hx hb dX7_takesFirst_26 rfl (lv_at hl 2 rfl) ?_
  refine lv_bipush (v := 10) hx hb dX7_takesFirst_27 (by decide) ?_
  refine wc_s hC hml (kX7_at l G (wset Z 12 B) k 10) (cwS 2 hts gX7_takesFirst_X7_at rfl rfl rfl (by decide +kernel) ⟨Nat.le_of_ble_eq_true rfl, Nat.le_of_ble_eq_true rfl⟩) hW hS rfl rfl hl.1 (Nat.le_of_ble_eq_true rfl) dX7_takesFirst_29 (fun H locs hW hS => ?_)
  refine lv_re (y := nI (7 + 14 * k + 10)) rfl ?_
  refine wr_ald (kA := 0) hC hW (vM (by decide)) ce_m1 rfl (vp_in_nI (show (7 + 14 * k + 10) < 100 by omega) (by decide)) dX7_takesFirst_32 ?_
  refine lv_re (y := B 1 (7 + 14 * k + 10)) ((congrArg (B 1) (nI_clamp (by omega)))) ?_
  refine wr_ast (kA := 0) (Z' := wset Z 12 (bput B 1 (nI (7 + 14 * k + 9)).toNatClampNeg (B 1 (7 + 14 * k + 10)))) hC hW hS (vM (by decide)) ce_m1 rfl (vp_in_nI (show (7 + 14 * k + 9) < 100 by omega) (by decide)) wset_off pu_m1 dX7_takesFirst_33 (fun H locs hW hS => ?_)
  rw [nI_clamp (show (7 + 14 * k + 9) < 2 ^ 31 by omega)] at hW
  refine lv_aload_n hx hb dX7_takesFirst_34 rfl (lv_at hl 1 rfl) ?_
  refine wr_get hC hinRX7 hW (vM (by decide)) ce_m0 rfl 0 (by decide) hk0 rfl dX7_takesFirst_35 ?_
  refine lv_iload_n hx hb dX7_takesFirst_38 rfl (lv_at hl 2 rfl) ?_
  refine lv_bipush (v := 10) hx hb dX7_takesFirst_39 (by decide) ?_
  refine wc_s hC hml (kX7_at l G (wset Z 12 (bput B 1 (7 + 14 * k + 9) (B 1 (7 + 14 * k + 10)))) k 10) (cwS 2 hts gX7_takesFirst_X7_at rfl rfl rfl (by decide +kernel) ⟨Nat.le_of_ble_eq_true rfl, Nat.le_of_ble_eq_true rfl⟩) hW hS rfl rfl hl.1 (Nat.le_of_ble_eq_true rfl) dX7_takesFirst_41 (fun H locs hW hS => ?_)
  refine lv_re (y := nI (7 + 14 * k + 10)) rfl ?_
  refine lv_aload_n hx hb dX7_takesFirst_44 rfl (lv_at hl 1 rfl) ?_
  refine wr_get hC hinRX7 hW (vM (by decide)) ce_m0 rfl 0 (by decide) hk0 rfl dX7_takesFirst_45 ?_
  refine lv_iload_n hx hb dX7_takesFirst_48 rfl (lv_at hl 2 rfl) ?_
  refine lv_bipush (v := 11) hx hb dX7_takesFirst_49 (by decide) ?_
  refine wc_s hC hml (kX7_at l G (wset Z 12 (bput B 1 (7 + 14 * k + 9) (B 1 (7 + 14 * k + 10)))) k 11) (cwS 2 hts gX7_takesFirst_X7_at rfl rfl rfl (by decide +kernel) ⟨Nat.le_of_ble_eq_true rfl, Nat.le_of_ble_eq_true rfl⟩) hW hS rfl rfl hl.1 (Nat.le_of_ble_eq_true rfl) dX7_takesFirst_51 (fun H locs hW hS => ?_)
  refine lv_re (y := nI (7 + 14 * k + 11)) rfl ?_
  refine wr_ald (kA := 0) hC hW (vM (by decide)) ce_m1 rfl (vp_in_nI (show (7 + 14 * k + 11) < 100 by omega) (by decide)) dX7_takesFirst_54 ?_
  refine lv_re (y := B 1 (7 + 14 * k + 11)) (((congrArg ((bput B 1 (7 + 14 * k + 9) (B 1 (7 + 14 * k + 10))) 1) (nI_clamp (by omega)))).trans (bput_q (by omega))) ?_
  refine wr_ast (kA := 0) (Z' := wset Z 12 (bput (bput B 1 (7 + 14 * k + 9) (B 1 (7 + 14 * k + 10))) 1 (nI (7 + 14 * k + 10)).toNatClampNeg (B 1 (7 + 14 * k + 11)))) hC hW hS (vM (by decide)) ce_m1 rfl (vp_in_nI (show (7 + 14 * k + 10) < 100 by omega) (by decide)) wset_off pu_m1 dX7_takesFirst_55 (fun H locs hW hS => ?_)
  rw [nI_clamp (show (7 + 14 * k + 10) < 2 ^ 31 by omega)] at hW
  refine lv_aload_n hx hb dX7_takesFirst_56 rfl (lv_at hl 1 rfl) ?_
  refine wr_get hC hinRX7 hW (vM (by decide)) ce_m0 rfl 0 (by decide) hk0 rfl dX7_takesFirst_57 ?_
  refine lv_iload_n hx hb dX7_takesFirst_60 rfl (lv_at hl 2 rfl) ?_
  refine lv_bipush (v := 11) hx hb dX7_takesFirst_61 (by decide) ?_
  refine wc_s hC hml (kX7_at l G (wset Z 12 (bput (bput B 1 (7 + 14 * k + 9) (B 1 (7 + 14 * k + 10))) 1 (7 + 14 * k + 10) (B 1 (7 + 14 * k + 11)))) k 11) (cwS 2 hts gX7_takesFirst_X7_at rfl rfl rfl (by decide +kernel) ⟨Nat.le_of_ble_eq_true rfl, Nat.le_of_ble_eq_true rfl⟩) hW hS rfl rfl hl.1 (Nat.le_of_ble_eq_true rfl) dX7_takesFirst_63 (fun H locs hW hS => ?_)
  refine lv_re (y := nI (7 + 14 * k + 11)) rfl ?_
  refine lv_iconst (v := 0) hx hb dX7_takesFirst_66 (by decide) ?_
  refine wr_ast (kA := 0) (Z' := wset Z 12 (bput (bput (bput B 1 (7 + 14 * k + 9) (B 1 (7 + 14 * k + 10))) 1 (7 + 14 * k + 10) (B 1 (7 + 14 * k + 11))) 1 (nI (7 + 14 * k + 11)).toNatClampNeg 0)) hC hW hS (vM (by decide)) ce_m1 rfl (vp_in_nI (show (7 + 14 * k + 11) < 100 by omega) (by decide)) wset_off pu_m1 dX7_takesFirst_67 (fun H locs hW hS => ?_)
  rw [nI_clamp (show (7 + 14 * k + 11) < 2 ^ 31 by omega)] at hW
  refine lv_aload_n hx hb dX7_takesFirst_68 rfl (lv_at hl 1 rfl) ?_
  refine wr_get hC hinRX7 hW (vM (by decide)) ce_m0 rfl 0 (by decide) hk0 rfl dX7_takesFirst_69 ?_
  refine lv_iload_n hx hb dX7_takesFirst_72 rfl (lv_at hl 2 rfl) ?_
  refine lv_bipush (v := 8) hx hb dX7_takesFirst_73 (by decide) ?_
  refine wc_s hC hml (kX7_at l G (wset Z 12 (bput (bput (bput B 1 (7 + 14 * k + 9) (B 1 (7 + 14 * k + 10))) 1 (7 + 14 * k + 10) (B 1 (7 + 14 * k + 11))) 1 (7 + 14 * k + 11) 0)) k 8) (cwS 2 hts gX7_takesFirst_X7_at rfl rfl rfl (by decide +kernel) ⟨Nat.le_of_ble_eq_true rfl, Nat.le_of_ble_eq_true rfl⟩) hW hS rfl rfl hl.1 (Nat.le_of_ble_eq_true rfl) dX7_takesFirst_75 (fun H locs hW hS => ?_)
  refine lv_re (y := nI (7 + 14 * k + 8)) rfl ?_
  refine lv_dup2_11 hx hb dX7_takesFirst_78 rfl rfl ?_
  refine wr_ald (kA := 0) hC hW (vM (by decide)) ce_m1 rfl (vp_in_nI (show (7 + 14 * k + 8) < 100 by omega) (by decide)) dX7_takesFirst_79 ?_
  refine lv_re (y := B 1 (7 + 14 * k + 8)) (((((congrArg ((bput (bput (bput B 1 (7 + 14 * k + 9) (B 1 (7 + 14 * k + 10))) 1 (7 + 14 * k + 10) (B 1 (7 + 14 * k + 11))) 1 (7 + 14 * k + 11) 0) 1) (nI_clamp (by omega)))).trans (bput_q (by omega))).trans (bput_q (by omega))).trans (bput_q (by omega))) ?_
  refine lv_iconst (v := 1) hx hb dX7_takesFirst_80 (by decide) ?_
  refine lv_isub hx hb dX7_takesFirst_81 ?_
  refine wr_ast (kA := 0) (Z' := wset Z 12 (bput (bput (bput (bput B 1 (7 + 14 * k + 9) (B 1 (7 + 14 * k + 10))) 1 (7 + 14 * k + 10) (B 1 (7 + 14 * k + 11))) 1 (7 + 14 * k + 11) 0) 1 (nI (7 + 14 * k + 8)).toNatClampNeg ((B 1 (7 + 14 * k + 8)) - 1))) hC hW hS (vM (by decide)) ce_m1 rfl (vp_in_nI (show (7 + 14 * k + 8) < 100 by omega) (by decide)) wset_off pu_m1 dX7_takesFirst_82 (fun H locs hW hS => ?_)
  rw [nI_clamp (show (7 + 14 * k + 8) < 2 ^ 31 by omega)] at hW
  refine lv_iload_n hx hb dX7_takesFirst_83 rfl (lv_at hl 0 rfl) ?_
  have hf : fX7_takesFirst B k = ((bput (bput (bput (bput B 1 (7 + 14 * k + 9) (B 1 (7 + 14 * k + 10))) 1 (7 + 14 * k + 10) (B 1 (7 + 14 * k + 11))) 1 (7 + 14 * k + 11) 0) 1 (7 + 14 * k + 8) ((B 1 (7 + 14 * k + 8)) - 1)), x_1) := by
    subst ex_1
    exact rfl
  exact we_i hC hr hlocks (congrArg Prod.snd hf).symm (congrArg (fun u => wset Z 12 u.1) hf).symm hW hS dX7_takesFirst_84
def fX7_comes (B : wB) (k : Nat) (a2 : Int32) : wB :=
  let x_1 := fX7_rests B k
  if x_1 = 0 then (if 3 ≤ (B 1 (7 + 14 * k + 8)) then B
    else (bput (bput B 1 (7 + 14 * k + (9 + (B 1 (7 + 14 * k + 8)).toNatClampNeg)) a2) 1 (7 + 14 * k + 8) (((bput B 1 (7 + 14 * k + (9 + (B 1 (7 + 14 * k + 8)).toNatClampNeg)) a2) 1 (7 + 14 * k + 8)) + 1)))
  else let B_4 := fX7_begins B k a2
  B_4
abbrev rX7_comes : Room := { frames := 2, cells := 0, slots := 0, locals := 47 }
set_option maxHeartbeats 4000000 in
set_option maxRecDepth 100000 in
theorem kX7_comes (l : Launch) (G : wG) (Z : wZ) (B : wB) (k : Nat) (a2 : Int32) (hk : k < 4) (hmi : ¬ B 1 (7 + 14 * k + 0) = 0) (hw0 : ¬ B 1 (7 + 14 * k + 8) < 0) : mV l yX7_comes wsX7_comes rX7_comes G [.ref (G.2.2.1 12 0), .int (nI k), .int a2] (wset Z 12 B) (wset Z 12 (fX7_comes B k a2)) := by
  refine Met.ofW (cc := cX7_comes) (maxL := 3) (ret := none) (by decide) rfl ?_
  intro p e s m args below meth c s₁ B0 hml hv
  obtain ⟨rfl, hW, hK, hL⟩ := hv
  have hlocks := B0.notSynchronized
  have hr := B0.returns
  have hC : wX p s m c cX7_comes _ wsX7_comes RX7 G := ⟨B0.exec, B0.bytes, findClass_of_methodNamed B0.named, atoms_spec (ws := wsX7_comes) B0.pre, hK, hL⟩
  have hx := hC.1
  have hb := hC.2.1
  have hts := hC.2.2.2.1
  have hinRX7 : ∀ w ∈ wsX70, w ∈ wsX7_comes := by decide +kernel
  have hk0 := hts (.fieldLink RX7 7 "RampShaftsModel" "s" "[I") (by decide +kernel)
  have hS : va_S (wA G) s.heap s.heap [] := va_S.rf
  have hl := lv_entry ([.ref (G.2.2.1 12 0), .int (nI k), .int a2]) (n := 3) (Nat.le_of_ble_eq_true rfl)
  rw [lg_entry_eq]
  generalize (lg_sl ([.ref (G.2.2.1 12 0), .int (nI k), .int a2]) ++ List.replicate (3 - (lg_sl ([.ref (G.2.2.1 12 0), .int (nI k), .int a2])).length) Slot.unset).toArray = ls at hl ⊢
  have hl : lv_has ls 3 [(0, .ref (G.2.2.1 12 0)), (1, .int (nI k)), (2, .int a2)] := hl
  refine lv_aload_n hx hb dX7_comes_0 rfl (lv_at hl 0 rfl) ?_
  refine lv_iload_n hx hb dX7_comes_1 rfl (lv_at hl 1 rfl) ?_
  refine wc_i hC hml (kX7_rests l G Z B k (by first | assumption | omega)) (cwV 1 hts gX7_comes_X7_rests rfl rfl rfl (by decide +kernel) ⟨Nat.le_of_ble_eq_true rfl, Nat.le_of_ble_eq_true rfl⟩) hW hS (vM (by decide)) ce_m0 rfl rfl rfl rfl hl.1 (Nat.le_of_ble_eq_true rfl) dX7_comes_2 (fun H locs hW hS => ?_)
  refine lv_topi (fun x_1 ex_1 => ?_)
  refine lv_if_eq (tgt := 17) hx hb dX7_comes_5 (by decide) (fun c_2 => ?_) (fun c_2 => ?_)
  · skip
    refine lv_aload_n hx hb dX7_comes_17 rfl (lv_at hl 0 rfl) ?_
    refine wr_get hC hinRX7 hW (vM (by decide)) ce_m0 rfl 0 (by decide) hk0 rfl dX7_comes_18 ?_
    refine lv_iload_n hx hb dX7_comes_21 rfl (lv_at hl 1 rfl) ?_
    refine lv_bipush (v := 8) hx hb dX7_comes_22 (by decide) ?_
    refine wc_s hC hml (kX7_at l G (wset Z 12 B) k 8) (cwS 2 hts gX7_comes_X7_at rfl rfl rfl (by decide +kernel) ⟨Nat.le_of_ble_eq_true rfl, Nat.le_of_ble_eq_true rfl⟩) hW hS rfl rfl hl.1 (Nat.le_of_ble_eq_true rfl) dX7_comes_24 (fun H locs hW hS => ?_)
    refine lv_re (y := nI (7 + 14 * k + 8)) rfl ?_
    refine wr_ald (kA := 0) hC hW (vM (by decide)) ce_m1 rfl (vp_in_nI (show (7 + 14 * k + 8) < 100 by omega) (by decide)) dX7_comes_27 ?_
    refine lv_re (y := B 1 (7 + 14 * k + 8)) ((congrArg (B 1) (nI_clamp (by omega)))) ?_
    refine lv_iconst (v := 3) hx hb dX7_comes_28 (by decide) ?_
    refine lv_icmp_ge (tgt := 71) hx hb dX7_comes_29 (by decide) (fun c_3 => ?_) (fun c_3 => ?_)
    · skip
      have hf : fX7_comes B k a2 = B := by
        subst ex_1
        exact (if_pos c_2).trans ((if_pos c_3).trans rfl)
      exact we_v hC hr hlocks (congrArg (wset Z 12) hf).symm hW hS dX7_comes_71
    · skip
      refine lv_aload_n hx hb dX7_comes_32 rfl (lv_at hl 0 rfl) ?_
      refine wr_get hC hinRX7 hW (vM (by decide)) ce_m0 rfl 0 (by decide) hk0 rfl dX7_comes_33 ?_
      refine lv_iload_n hx hb dX7_comes_36 rfl (lv_at hl 1 rfl) ?_
      refine lv_bipush (v := 9) hx hb dX7_comes_37 (by decide) ?_
      refine lv_aload_n hx hb dX7_comes_39 rfl (lv_at hl 0 rfl) ?_
      refine wr_get hC hinRX7 hW (vM (by decide)) ce_m0 rfl 0 (by decide) hk0 rfl dX7_comes_40 ?_
      refine lv_iload_n hx hb dX7_comes_43 rfl (lv_at hl 1 rfl) ?_
      refine lv_bipush (v := 8) hx hb dX7_comes_44 (by decide) ?_
      refine wc_s hC hml (kX7_at l G (wset Z 12 B) k 8) (cwS 2 hts gX7_comes_X7_at rfl rfl rfl (by decide +kernel) ⟨Nat.le_of_ble_eq_true rfl, Nat.le_of_ble_eq_true rfl⟩) hW hS rfl rfl hl.1 (Nat.le_of_ble_eq_true rfl) dX7_comes_46 (fun H locs hW hS => ?_)
      refine lv_re (y := nI (7 + 14 * k + 8)) rfl ?_
      refine wr_ald (kA := 0) hC hW (vM (by decide)) ce_m1 rfl (vp_in_nI (show (7 + 14 * k + 8) < 100 by omega) (by decide)) dX7_comes_49 ?_
      refine lv_re (y := B 1 (7 + 14 * k + 8)) ((congrArg (B 1) (nI_clamp (by omega)))) ?_
      have hw3 := vp_lt (in_ge (N := 3) (M := 3) (by decide) (by decide) hw0 c_3)
      refine lv_re (nI_self hw0) ?_
      refine lv_iadd hx hb dX7_comes_50 ?_
      refine lv_re (y := nI (9 + (B 1 (7 + 14 * k + 8)).toNatClampNeg)) (nI_add 9 (B 1 (7 + 14 * k + 8)).toNatClampNeg) ?_
      refine wc_s hC hml (kX7_at l G (wset Z 12 B) k (9 + (B 1 (7 + 14 * k + 8)).toNatClampNeg)) (cwS 2 hts gX7_comes_X7_at rfl rfl rfl (by decide +kernel) ⟨Nat.le_of_ble_eq_true rfl, Nat.le_of_ble_eq_true rfl⟩) hW hS rfl rfl hl.1 (Nat.le_of_ble_eq_true rfl) dX7_comes_51 (fun H locs hW hS => ?_)
      refine lv_re (y := nI (7 + 14 * k + (9 + (B 1 (7 + 14 * k + 8)).toNatClampNeg))) rfl ?_
      refine lv_iload_n hx hb dX7_comes_54 rfl (lv_at hl 2 rfl) ?_
      refine wr_ast (kA := 0) (Z' := wset Z 12 (bput B 1 (nI (7 + 14 * k + (9 + (B 1 (7 + 14 * k + 8)).toNatClampNeg))).toNatClampNeg a2)) hC hW hS (vM (by decide)) ce_m1 rfl (vp_in_nI (show (7 + 14 * k + (9 + (B 1 (7 + 14 * k + 8)).toNatClampNeg)) < 100 by omega) (by decide)) wset_off pu_m1 dX7_comes_55 (fun H locs hW hS => ?_)
      rw [nI_clamp (show (7 + 14 * k + (9 + (B 1 (7 + 14 * k + 8)).toNatClampNeg)) < 2 ^ 31 by omega)] at hW
      refine lv_aload_n hx hb dX7_comes_56 rfl (lv_at hl 0 rfl) ?_
      refine wr_get hC hinRX7 hW (vM (by decide)) ce_m0 rfl 0 (by decide) hk0 rfl dX7_comes_57 ?_
      refine lv_iload_n hx hb dX7_comes_60 rfl (lv_at hl 1 rfl) ?_
      refine lv_bipush (v := 8) hx hb dX7_comes_61 (by decide) ?_
      refine wc_s hC hml (kX7_at l G (wset Z 12 (bput B 1 (7 + 14 * k + (9 + (B 1 (7 + 14 * k + 8)).toNatClampNeg)) a2)) k 8) (cwS 2 hts gX7_comes_X7_at rfl rfl rfl (by decide +kernel) ⟨Nat.le_of_ble_eq_true rfl, Nat.le_of_ble_eq_true rfl⟩) hW hS rfl rfl hl.1 (Nat.le_of_ble_eq_true rfl) dX7_comes_63 (fun H locs hW hS => ?_)
      refine lv_re (y := nI (7 + 14 * k + 8)) rfl ?_
      refine lv_dup2_11 hx hb dX7_comes_66 rfl rfl ?_
      refine wr_ald (kA := 0) hC hW (vM (by decide)) ce_m1 rfl (vp_in_nI (show (7 + 14 * k + 8) < 100 by omega) (by decide)) dX7_comes_67 ?_
      refine lv_re (y := (bput B 1 (7 + 14 * k + (9 + (B 1 (7 + 14 * k + 8)).toNatClampNeg)) a2) 1 (7 + 14 * k + 8)) ((congrArg ((bput B 1 (7 + 14 * k + (9 + (B 1 (7 + 14 * k + 8)).toNatClampNeg)) a2) 1) (nI_clamp (by omega)))) ?_
      refine lv_iconst (v := 1) hx hb dX7_comes_68 (by decide) ?_
      refine lv_iadd hx hb dX7_comes_69 ?_
      refine wr_ast (kA := 0) (Z' := wset Z 12 (bput (bput B 1 (7 + 14 * k + (9 + (B 1 (7 + 14 * k + 8)).toNatClampNeg)) a2) 1 (nI (7 + 14 * k + 8)).toNatClampNeg (((bput B 1 (7 + 14 * k + (9 + (B 1 (7 + 14 * k + 8)).toNatClampNeg)) a2) 1 (7 + 14 * k + 8)) + 1))) hC hW hS (vM (by decide)) ce_m1 rfl (vp_in_nI (show (7 + 14 * k + 8) < 100 by omega) (by decide)) wset_off pu_m1 dX7_comes_70 (fun H locs hW hS => ?_)
      rw [nI_clamp (show (7 + 14 * k + 8) < 2 ^ 31 by omega)] at hW
      have hf : fX7_comes B k a2 = (bput (bput B 1 (7 + 14 * k + (9 + (B 1 (7 + 14 * k + 8)).toNatClampNeg)) a2) 1 (7 + 14 * k + 8) (((bput B 1 (7 + 14 * k + (9 + (B 1 (7 + 14 * k + 8)).toNatClampNeg)) a2) 1 (7 + 14 * k + 8)) + 1)) := by
        subst ex_1
        exact (if_pos c_2).trans ((if_neg c_3).trans rfl)
      exact we_v hC hr hlocks (congrArg (wset Z 12) hf).symm hW hS dX7_comes_71
  · skip
    refine lv_aload_n hx hb dX7_comes_8 rfl (lv_at hl 0 rfl) ?_
    refine lv_iload_n hx hb dX7_comes_9 rfl (lv_at hl 1 rfl) ?_
    refine lv_iload_n hx hb dX7_comes_10 rfl (lv_at hl 2 rfl) ?_
    refine wc_v hC hml (kX7_begins l G Z B k a2 (by omega) hmi) (cwV 2 hts gX7_comes_X7_begins rfl rfl rfl (by decide +kernel) ⟨Nat.le_of_ble_eq_true rfl, Nat.le_of_ble_eq_true rfl⟩) hW hS (vM (by decide)) ce_m0 rfl rfl rfl rfl hl.1 (Nat.le_of_ble_eq_true rfl) dX7_comes_11 (fun H locs hW hS => ?_)
    obtain ⟨B_4, eB_4⟩ : ∃ y, y = fX7_begins B k a2 := ⟨_, rfl⟩
    rw [← eB_4] at hW
    refine lv_goto (tgt := 71) hx hb dX7_comes_14 (by decide) ?_
    have hf : fX7_comes B k a2 = B_4 := by
      subst eB_4
      subst ex_1
      exact (if_neg c_2).trans rfl
    exact we_v hC hr hlocks (congrArg (wset Z 12) hf).symm hW hS dX7_comes_71

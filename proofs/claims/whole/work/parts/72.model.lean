theorem begins_j {B : wB} {k j q : Nat} {a : Int32} (h : j ≠ 1) : fX7_begins B k a j q = B j q := by
  simp only [fX7_begins]
  repeat' split
  all_goals rw [bput_j h, bput_j h, bput_j h, bput_j h]
theorem begins_k {B : wB} {k q : Nat} {a : Int32} (h : q < 7 + 14 * k + 4 ∨ 7 + 14 * k + 8 ≤ q) : fX7_begins B k a 1 q = B 1 q := by
  simp only [fX7_begins]
  repeat' split
  all_goals rw [bput_q (by omega), bput_q (by omega), bput_q (by omega), bput_q (by omega)]
theorem takes_k {B : wB} {k q : Nat} (h : q < 7 + 14 * k + 8 ∨ 7 + 14 * k + 12 ≤ q) : (fX7_takesFirst B k).1 1 q = B 1 q := by
  simp only [fX7_takesFirst]
  rw [bput_q (by omega), bput_q (by omega), bput_q (by omega), bput_q (by omega)]
theorem takes_j {B : wB} {k j q : Nat} (h : j ≠ 1) : (fX7_takesFirst B k).1 j q = B j q := by
  simp only [fX7_takesFirst]
  rw [bput_j h, bput_j h, bput_j h, bput_j h]
theorem takes_w {B : wB} {k : Nat} : (fX7_takesFirst B k).1 1 (7 + 14 * k + 8) = B 1 (7 + 14 * k + 8) - 1 := by
  simp only [fX7_takesFirst]
  rw [bput_h]
theorem sw_w {B : wB} {k : Nat} {a : Int32} (h1 : ¬ B 1 (7 + 14 * k + 8) ≤ 0) : (fX7_begins (fX7_takesFirst B k).1 k a 1 (7 + 14 * k + 8)).toInt = (B 1 (7 + 14 * k + 8)).toInt - 1 ∧ 0 < (B 1 (7 + 14 * k + 8)).toInt := by
  rw [begins_k (by omega), takes_w]
  rw [Int32.le_iff_toInt_le, t0] at h1
  have h2 := Int32.toInt_lt (B 1 (7 + 14 * k + 8))
  exact ⟨(ti_sub (by rw [t1]; omega) (by rw [t1]; omega)).trans (by rw [t1]), by omega⟩
def LX7_sw (k : Nat) : Nat → wB → wB
  | 0, B => B
  | u + 1, B => if fX7_rests B k = 0 then B else if B 1 (7 + 14 * k + 8) ≤ 0 then B else LX7_sw k u (fX7_begins (fX7_takesFirst B k).1 k (fX7_takesFirst B k).2)
def fX7_steps (B : wB) (k : Nat) : wB :=
  let x_10 := (B 1 (7 + 14 * k + 4)) * (B 1 (7 + 14 * k + 0))
  let x_11 := fX7_intervalBy B (B 1 (7 + 14 * k + 6)) (B 1 2)
  let x_12 := fX7_needs B (B 1 (7 + 14 * k + 1))
  if x_12 ≤ x_11 then (if (B 0 2) = 0 then (if 0 ≤ (B 0 2) then (let B_37 := (bput (bput (bput (bput (bput (bput (bput (bput B 0 3 (nI k)) 0 4 0) 0 2 ((B 0 2) - 1)) 1 (7 + 14 * k + 2) ((B 1 (7 + 14 * k + 2)) + x_10)) 1 (7 + 14 * k + 3) ((B 1 (7 + 14 * k + 3)) + x_10)) 1 (7 + 14 * k + 12) ((B 1 (7 + 14 * k + 12)) + 1)) 1 (7 + 14 * k + 13) ((B 1 (7 + 14 * k + 13)) + 0)) 1 (7 + 14 * k + 5) ((B 1 (7 + 14 * k + 5)) - 1))
        let x_38 := fX7_rests B_37 k
        if x_38 = 0 then (let x_40 := fX7_highestBy B_37 (B 1 2)
          let x_41 := fX7_nextLevel (B 1 (7 + 14 * k + 6)) ((B 1 (7 + 14 * k + 5)) - 1) x_40
          let B_42 := (bput B_37 1 (7 + 14 * k + 6) x_41)
          let x_43 := fX7_intervalBy B_42 x_41 (B 1 2)
          (bput B_42 1 (7 + 14 * k + 7) ((B 1 5) + x_43)))
        else LX7_sw k 3 (bput B_37 1 (7 + 14 * k + 6) 0))
      else let B_46 := (bput (bput (bput (bput (bput (bput (bput (bput B 0 3 (nI k)) 0 4 0) 0 2 ((B 0 2) - 0)) 1 (7 + 14 * k + 2) ((B 1 (7 + 14 * k + 2)) + x_10)) 1 (7 + 14 * k + 3) ((B 1 (7 + 14 * k + 3)) + x_10)) 1 (7 + 14 * k + 12) ((B 1 (7 + 14 * k + 12)) + 1)) 1 (7 + 14 * k + 13) ((B 1 (7 + 14 * k + 13)) + 0)) 1 (7 + 14 * k + 5) ((B 1 (7 + 14 * k + 5)) - 1))
      let x_47 := fX7_rests B_46 k
      if x_47 = 0 then (let x_49 := fX7_highestBy B_46 (B 1 2)
        let x_50 := fX7_nextLevel (B 1 (7 + 14 * k + 6)) ((B 1 (7 + 14 * k + 5)) - 1) x_49
        let B_51 := (bput B_46 1 (7 + 14 * k + 6) x_50)
        let x_52 := fX7_intervalBy B_51 x_50 (B 1 2)
        (bput B_51 1 (7 + 14 * k + 7) ((B 1 5) + x_52)))
      else LX7_sw k 3 (bput B_46 1 (7 + 14 * k + 6) 0))
    else if 0 ≤ (B 0 2) then (let B_18 := (bput (bput (bput (bput (bput (bput B 0 2 ((B 0 2) - 1)) 1 (7 + 14 * k + 2) ((B 1 (7 + 14 * k + 2)) + x_10)) 1 (7 + 14 * k + 3) ((B 1 (7 + 14 * k + 3)) + x_10)) 1 (7 + 14 * k + 12) ((B 1 (7 + 14 * k + 12)) + 1)) 1 (7 + 14 * k + 13) ((B 1 (7 + 14 * k + 13)) + 0)) 1 (7 + 14 * k + 5) ((B 1 (7 + 14 * k + 5)) - 1))
      let x_19 := fX7_rests B_18 k
      if x_19 = 0 then (let x_21 := fX7_highestBy B_18 (B 1 2)
        let x_22 := fX7_nextLevel (B 1 (7 + 14 * k + 6)) ((B 1 (7 + 14 * k + 5)) - 1) x_21
        let B_23 := (bput B_18 1 (7 + 14 * k + 6) x_22)
        let x_24 := fX7_intervalBy B_23 x_22 (B 1 2)
        (bput B_23 1 (7 + 14 * k + 7) ((B 1 5) + x_24)))
      else LX7_sw k 3 (bput B_18 1 (7 + 14 * k + 6) 0))
    else let B_27 := (bput (bput (bput (bput (bput (bput B 0 2 ((B 0 2) - 0)) 1 (7 + 14 * k + 2) ((B 1 (7 + 14 * k + 2)) + x_10)) 1 (7 + 14 * k + 3) ((B 1 (7 + 14 * k + 3)) + x_10)) 1 (7 + 14 * k + 12) ((B 1 (7 + 14 * k + 12)) + 1)) 1 (7 + 14 * k + 13) ((B 1 (7 + 14 * k + 13)) + 0)) 1 (7 + 14 * k + 5) ((B 1 (7 + 14 * k + 5)) - 1))
    let x_28 := fX7_rests B_27 k
    if x_28 = 0 then (let x_30 := fX7_highestBy B_27 (B 1 2)
      let x_31 := fX7_nextLevel (B 1 (7 + 14 * k + 6)) ((B 1 (7 + 14 * k + 5)) - 1) x_30
      let B_32 := (bput B_27 1 (7 + 14 * k + 6) x_31)
      let x_33 := fX7_intervalBy B_32 x_31 (B 1 2)
      (bput B_32 1 (7 + 14 * k + 7) ((B 1 5) + x_33)))
    else LX7_sw k 3 (bput B_27 1 (7 + 14 * k + 6) 0))
  else if (B 0 2) = 0 then (if 0 ≤ (B 0 2) then (let B_76 := (bput (bput (bput (bput (bput (bput (bput (bput B 0 3 (nI k)) 0 4 1) 0 2 ((B 0 2) - 1)) 1 (7 + 14 * k + 2) ((B 1 (7 + 14 * k + 2)) + x_10)) 1 (7 + 14 * k + 3) ((B 1 (7 + 14 * k + 3)) + 0)) 1 (7 + 14 * k + 12) ((B 1 (7 + 14 * k + 12)) + 1)) 1 (7 + 14 * k + 13) ((B 1 (7 + 14 * k + 13)) + 1)) 1 (7 + 14 * k + 5) ((B 1 (7 + 14 * k + 5)) - 1))
      let x_77 := fX7_rests B_76 k
      if x_77 = 0 then (let x_79 := fX7_highestBy B_76 (B 1 2)
        let x_80 := fX7_nextLevel (B 1 (7 + 14 * k + 6)) ((B 1 (7 + 14 * k + 5)) - 1) x_79
        let B_81 := (bput B_76 1 (7 + 14 * k + 6) x_80)
        let x_82 := fX7_intervalBy B_81 x_80 (B 1 2)
        (bput B_81 1 (7 + 14 * k + 7) ((B 1 5) + x_82)))
      else LX7_sw k 3 (bput B_76 1 (7 + 14 * k + 6) 0))
    else let B_85 := (bput (bput (bput (bput (bput (bput (bput (bput B 0 3 (nI k)) 0 4 1) 0 2 ((B 0 2) - 0)) 1 (7 + 14 * k + 2) ((B 1 (7 + 14 * k + 2)) + x_10)) 1 (7 + 14 * k + 3) ((B 1 (7 + 14 * k + 3)) + 0)) 1 (7 + 14 * k + 12) ((B 1 (7 + 14 * k + 12)) + 1)) 1 (7 + 14 * k + 13) ((B 1 (7 + 14 * k + 13)) + 1)) 1 (7 + 14 * k + 5) ((B 1 (7 + 14 * k + 5)) - 1))
    let x_86 := fX7_rests B_85 k
    if x_86 = 0 then (let x_88 := fX7_highestBy B_85 (B 1 2)
      let x_89 := fX7_nextLevel (B 1 (7 + 14 * k + 6)) ((B 1 (7 + 14 * k + 5)) - 1) x_88
      let B_90 := (bput B_85 1 (7 + 14 * k + 6) x_89)
      let x_91 := fX7_intervalBy B_90 x_89 (B 1 2)
      (bput B_90 1 (7 + 14 * k + 7) ((B 1 5) + x_91)))
    else LX7_sw k 3 (bput B_85 1 (7 + 14 * k + 6) 0))
  else if 0 ≤ (B 0 2) then (let B_57 := (bput (bput (bput (bput (bput (bput B 0 2 ((B 0 2) - 1)) 1 (7 + 14 * k + 2) ((B 1 (7 + 14 * k + 2)) + x_10)) 1 (7 + 14 * k + 3) ((B 1 (7 + 14 * k + 3)) + 0)) 1 (7 + 14 * k + 12) ((B 1 (7 + 14 * k + 12)) + 1)) 1 (7 + 14 * k + 13) ((B 1 (7 + 14 * k + 13)) + 1)) 1 (7 + 14 * k + 5) ((B 1 (7 + 14 * k + 5)) - 1))
    let x_58 := fX7_rests B_57 k
    if x_58 = 0 then (let x_60 := fX7_highestBy B_57 (B 1 2)
      let x_61 := fX7_nextLevel (B 1 (7 + 14 * k + 6)) ((B 1 (7 + 14 * k + 5)) - 1) x_60
      let B_62 := (bput B_57 1 (7 + 14 * k + 6) x_61)
      let x_63 := fX7_intervalBy B_62 x_61 (B 1 2)
      (bput B_62 1 (7 + 14 * k + 7) ((B 1 5) + x_63)))
    else LX7_sw k 3 (bput B_57 1 (7 + 14 * k + 6) 0))
  else let B_66 := (bput (bput (bput (bput (bput (bput B 0 2 ((B 0 2) - 0)) 1 (7 + 14 * k + 2) ((B 1 (7 + 14 * k + 2)) + x_10)) 1 (7 + 14 * k + 3) ((B 1 (7 + 14 * k + 3)) + 0)) 1 (7 + 14 * k + 12) ((B 1 (7 + 14 * k + 12)) + 1)) 1 (7 + 14 * k + 13) ((B 1 (7 + 14 * k + 13)) + 1)) 1 (7 + 14 * k + 5) ((B 1 (7 + 14 * k + 5)) - 1))
  let x_67 := fX7_rests B_66 k
  if x_67 = 0 then (let x_69 := fX7_highestBy B_66 (B 1 2)
    let x_70 := fX7_nextLevel (B 1 (7 + 14 * k + 6)) ((B 1 (7 + 14 * k + 5)) - 1) x_69
    let B_71 := (bput B_66 1 (7 + 14 * k + 6) x_70)
    let x_72 := fX7_intervalBy B_71 x_70 (B 1 2)
    (bput B_71 1 (7 + 14 * k + 7) ((B 1 5) + x_72)))
  else LX7_sw k 3 (bput B_66 1 (7 + 14 * k + 6) 0)
abbrev rX7_steps : Room := { frames := 2, cells := 0, slots := 0, locals := 47 }
set_option maxHeartbeats 4000000 in
set_option maxRecDepth 100000 in
theorem kX7_steps (l : Launch) (G : wG) (Z : wZ) (B : wB) (k : Nat) (hk : k < 4) (hmi : ¬ B 1 (7 + 14 * k + 0) = 0) (hw : 0 ≤ (B 1 (7 + 14 * k + 8)).toInt ∧ (B 1 (7 + 14 * k + 8)).toInt ≤ 3) (hg : ¬ B 1 2 = 0) : mV l yX7_steps wsX7_steps rX7_steps G [.ref (G.2.2.1 12 0), .int (nI k)] (wset Z 12 B) (wset Z 12 (fX7_steps B k)) := by
  refine Met.ofW (cc := cX7_steps) (maxL := 4) (ret := none) (by decide) rfl ?_
  intro p e s m args below meth c s₁ B0 hml hv
  obtain ⟨rfl, hW, hK, hL⟩ := hv
  have hlocks := B0.notSynchronized
  have hr := B0.returns
  have hC : wX p s m c cX7_steps _ wsX7_steps RX7 G := ⟨B0.exec, B0.bytes, findClass_of_methodNamed B0.named, atoms_spec (ws := wsX7_steps) B0.pre, hK, hL⟩
  have hx := hC.1
  have hb := hC.2.1
  have hts := hC.2.2.2.1
  have hinRX7 : ∀ w ∈ wsX70, w ∈ wsX7_steps := by decide +kernel
  have hk0 := hts (.fieldLink RX7 7 "RampShaftsModel" "s" "[I") (by decide +kernel)
  have hk1 := hts (.fieldLink RX7 29 "RampShaftsModel" "passed" "I") (by decide +kernel)
  have hk2 := hts (.fieldLink RX7 62 "RampShaftsModel" "metShaft" "I") (by decide +kernel)
  have hk3 := hts (.fieldLink RX7 65 "RampShaftsModel" "metLost" "Z") (by decide +kernel)
  have hS : va_S (wA G) s.heap s.heap [] := va_S.rf
  have hl := lv_entry ([.ref (G.2.2.1 12 0), .int (nI k)]) (n := 4) (Nat.le_of_ble_eq_true rfl)
  rw [lg_entry_eq]
  generalize (lg_sl ([.ref (G.2.2.1 12 0), .int (nI k)]) ++ List.replicate (4 - (lg_sl ([.ref (G.2.2.1 12 0), .int (nI k)])).length) Slot.unset).toArray = ls at hl ⊢
  have hl : lv_has ls 4 [(0, .ref (G.2.2.1 12 0)), (1, .int (nI k))] := hl
  have hlp_1 : ∀ (u : Nat) (C : wB), (hmi : ¬ C 1 (7 + 14 * k + 0) = 0) → (hwu : 0 ≤ (C 1 (7 + 14 * k + 8)).toInt ∧ (C 1 (7 + 14 * k + 8)).toInt ≤ u) → fX7_steps B k = LX7_sw k u C → ∀ (H : Heap) (locs : List Loc) (ls : Array Slot), wW G (wset Z 12 C) H → va_S (wA G) s.heap H locs → lv_has ls 4 [(0, .ref (G.2.2.1 12 0)), (1, .int (nI k))] → W p l e (headSpec wsX7_steps rX7_steps).room s m ([.ref (G.2.2.1 12 0), .int (nI k)] : List Value).toArray below meth c H locs 0 0 (qV below ([.ref (G.2.2.1 12 0), .int (nI k)] : List Value).toArray s G (wset Z 12 (fX7_steps B k))) (F0 m 212 ls []) := by
    intro u
    induction u with
    | zero =>
      intro C hmi hwu hR H locs ls hW hS hl
      simp only [LX7_sw] at hR
      refine lv_aload_n hx hb dX7_steps_212 rfl (lv_at hl 0 rfl) ?_
      refine lv_iload_n hx hb dX7_steps_213 rfl (lv_at hl 1 rfl) ?_
      refine wc_i hC hml (kX7_rests l G Z C k (by first | assumption | omega)) (cwV 1 hts gX7_steps_X7_rests rfl rfl rfl (by decide +kernel) ⟨Nat.le_of_ble_eq_true rfl, Nat.le_of_ble_eq_true rfl⟩) hW hS (vM (by decide)) ce_m0 rfl rfl rfl rfl hl.1 (Nat.le_of_ble_eq_true rfl) dX7_steps_214 (fun H locs hW hS => ?_)
      refine lv_topi (fun x_2 ex_2 => ?_)
      try rw [← ex_2] at hR
      refine lv_if_eq (tgt := 331) hx hb dX7_steps_217 (by decide) (fun c_3 => ?_) (fun c_3 => ?_)
      · skip
        try rw [if_pos c_3] at hR
        exact we_v hC hr hlocks (congrArg (wset Z 12) hR).symm hW hS dX7_steps_331
      · skip
        try rw [if_neg c_3] at hR
        refine lv_aload_n hx hb dX7_steps_220 rfl (lv_at hl 0 rfl) ?_
        refine wr_get hC hinRX7 hW (vM (by decide)) ce_m0 rfl 0 (by decide) hk0 rfl dX7_steps_221 ?_
        refine lv_iload_n hx hb dX7_steps_224 rfl (lv_at hl 1 rfl) ?_
        refine lv_bipush (v := 8) hx hb dX7_steps_225 (by decide) ?_
        refine wc_s hC hml (kX7_at l G (wset Z 12 C) k 8) (cwS 2 hts gX7_steps_X7_at rfl rfl rfl (by decide +kernel) ⟨Nat.le_of_ble_eq_true rfl, Nat.le_of_ble_eq_true rfl⟩) hW hS rfl rfl hl.1 (Nat.le_of_ble_eq_true rfl) dX7_steps_227 (fun H locs hW hS => ?_)
        refine lv_re (y := nI (7 + 14 * k + 8)) rfl ?_
        refine wr_ald (kA := 0) hC hW (vM (by decide)) ce_m1 rfl (vp_in_nI (show (7 + 14 * k + 8) < 100 by omega) (by decide)) dX7_steps_230 ?_
        refine lv_re (y := C 1 (7 + 14 * k + 8)) ((congrArg (C 1) (nI_clamp (by omega)))) ?_
        refine lv_if_le (tgt := 331) hx hb dX7_steps_231 (by decide) (fun c_4 => ?_) (fun c_4 => ?_)
        · skip
          exact we_v hC hr hlocks (congrArg (wset Z 12) hR).symm hW hS dX7_steps_331
        · exact absurd (show C 1 (7 + 14 * k + 8) ≤ 0 by rw [Int32.le_iff_toInt_le, t0]; omega) c_4
    | succ u ih =>
      intro C hmi hwu hR H locs ls hW hS hl
      simp only [LX7_sw] at hR
      refine lv_aload_n hx hb dX7_steps_212 rfl (lv_at hl 0 rfl) ?_
      refine lv_iload_n hx hb dX7_steps_213 rfl (lv_at hl 1 rfl) ?_
      refine wc_i hC hml (kX7_rests l G Z C k (by first | assumption | omega)) (cwV 1 hts gX7_steps_X7_rests rfl rfl rfl (by decide +kernel) ⟨Nat.le_of_ble_eq_true rfl, Nat.le_of_ble_eq_true rfl⟩) hW hS (vM (by decide)) ce_m0 rfl rfl rfl rfl hl.1 (Nat.le_of_ble_eq_true rfl) dX7_steps_214 (fun H locs hW hS => ?_)
      refine lv_topi (fun x_5 ex_5 => ?_)
      try rw [← ex_5] at hR
      refine lv_if_eq (tgt := 331) hx hb dX7_steps_217 (by decide) (fun c_6 => ?_) (fun c_6 => ?_)
      · skip
        try rw [if_pos c_6] at hR
        exact we_v hC hr hlocks (congrArg (wset Z 12) hR).symm hW hS dX7_steps_331
      · skip
        try rw [if_neg c_6] at hR
        refine lv_aload_n hx hb dX7_steps_220 rfl (lv_at hl 0 rfl) ?_
        refine wr_get hC hinRX7 hW (vM (by decide)) ce_m0 rfl 0 (by decide) hk0 rfl dX7_steps_221 ?_
        refine lv_iload_n hx hb dX7_steps_224 rfl (lv_at hl 1 rfl) ?_
        refine lv_bipush (v := 8) hx hb dX7_steps_225 (by decide) ?_
        refine wc_s hC hml (kX7_at l G (wset Z 12 C) k 8) (cwS 2 hts gX7_steps_X7_at rfl rfl rfl (by decide +kernel) ⟨Nat.le_of_ble_eq_true rfl, Nat.le_of_ble_eq_true rfl⟩) hW hS rfl rfl hl.1 (Nat.le_of_ble_eq_true rfl) dX7_steps_227 (fun H locs hW hS => ?_)
        refine lv_re (y := nI (7 + 14 * k + 8)) rfl ?_
        refine wr_ald (kA := 0) hC hW (vM (by decide)) ce_m1 rfl (vp_in_nI (show (7 + 14 * k + 8) < 100 by omega) (by decide)) dX7_steps_230 ?_
        refine lv_re (y := C 1 (7 + 14 * k + 8)) ((congrArg (C 1) (nI_clamp (by omega)))) ?_
        refine lv_if_le (tgt := 331) hx hb dX7_steps_231 (by decide) (fun c_7 => ?_) (fun c_7 => ?_)
        · skip
          try rw [if_pos c_7] at hR
          exact we_v hC hr hlocks (congrArg (wset Z 12) hR).symm hW hS dX7_steps_331
        · skip
          try rw [if_neg c_7] at hR
          refine lv_aload_n hx hb dX7_steps_234 rfl (lv_at hl 0 rfl) ?_
          refine lv_iload_n hx hb dX7_steps_235 rfl (lv_at hl 1 rfl) ?_
          refine lv_aload_n hx hb dX7_steps_236 rfl (lv_at hl 0 rfl) ?_
          refine lv_iload_n hx hb dX7_steps_237 rfl (lv_at hl 1 rfl) ?_
          refine wc_i hC hml (kX7_takesFirst l G Z C k (by first | assumption | omega)) (cwV 1 hts gX7_steps_X7_takesFirst rfl rfl rfl (by decide +kernel) ⟨Nat.le_of_ble_eq_true rfl, Nat.le_of_ble_eq_true rfl⟩) hW hS (vM (by decide)) ce_m0 rfl rfl rfl rfl hl.1 (Nat.le_of_ble_eq_true rfl) dX7_steps_238 (fun H locs hW hS => ?_)
          obtain ⟨P_8, eP_8⟩ : ∃ y, y = fX7_takesFirst C k := ⟨_, rfl⟩
          rw [← eP_8] at hW ⊢
          try rw [← eP_8] at hR
          refine wc_v hC hml (kX7_begins l G Z P_8.1 k P_8.2 hk (by rw [eP_8, takes_k (by omega)]; exact hmi)) (cwV 2 hts gX7_steps_X7_begins rfl rfl rfl (by decide +kernel) ⟨Nat.le_of_ble_eq_true rfl, Nat.le_of_ble_eq_true rfl⟩) hW hS (vM (by decide)) ce_m0 rfl rfl rfl rfl hl.1 (Nat.le_of_ble_eq_true rfl) dX7_steps_241 (fun H locs hW hS => ?_)
          obtain ⟨B_9, eB_9⟩ : ∃ y, y = fX7_begins P_8.1 k P_8.2 := ⟨_, rfl⟩
          rw [← eB_9] at hW
          try rw [← eB_9] at hR
          refine lv_goto (tgt := 212) hx hb dX7_steps_244 (by decide) ?_
          exact ih B_9 (by rw [eB_9, eP_8, begins_k (by omega), takes_k (by omega)]; exact hmi) (by have h9 := sw_w (k := k) (a := (fX7_takesFirst C k).2) c_7; rw [eB_9, eP_8]; omega) hR _ _ _ hW hS (lv_sub hl [0, 1] rfl)
  refine lv_aload_n hx hb dX7_steps_0 rfl (lv_at hl 0 rfl) ?_
  refine wr_get hC hinRX7 hW (vM (by decide)) ce_m0 rfl 0 (by decide) hk0 rfl dX7_steps_1 ?_
  refine lv_iload_n hx hb dX7_steps_4 rfl (lv_at hl 1 rfl) ?_
  refine lv_iconst (v := 4) hx hb dX7_steps_5 (by decide) ?_
  refine wc_s hC hml (kX7_at l G (wset Z 12 B) k 4) (cwS 2 hts gX7_steps_X7_at rfl rfl rfl (by decide +kernel) ⟨Nat.le_of_ble_eq_true rfl, Nat.le_of_ble_eq_true rfl⟩) hW hS rfl rfl hl.1 (Nat.le_of_ble_eq_true rfl) dX7_steps_6 (fun H locs hW hS => ?_)
  refine lv_re (y := nI (7 + 14 * k + 4)) rfl ?_
  refine wr_ald (kA := 0) hC hW (vM (by decide)) ce_m1 rfl (vp_in_nI (show (7 + 14 * k + 4) < 100 by omega) (by decide)) dX7_steps_9 ?_
  refine lv_re (y := B 1 (7 + 14 * k + 4)) ((congrArg (B 1) (nI_clamp (by omega)))) ?_
  refine lv_aload_n hx hb dX7_steps_10 rfl (lv_at hl 0 rfl) ?_
  refine wr_get hC hinRX7 hW (vM (by decide)) ce_m0 rfl 0 (by decide) hk0 rfl dX7_steps_11 ?_
  refine lv_iload_n hx hb dX7_steps_14 rfl (lv_at hl 1 rfl) ?_
  refine lv_iconst (v := 0) hx hb dX7_steps_15 (by decide) ?_
  refine wc_s hC hml (kX7_at l G (wset Z 12 B) k 0) (cwS 2 hts gX7_steps_X7_at rfl rfl rfl (by decide +kernel) ⟨Nat.le_of_ble_eq_true rfl, Nat.le_of_ble_eq_true rfl⟩) hW hS rfl rfl hl.1 (Nat.le_of_ble_eq_true rfl) dX7_steps_16 (fun H locs hW hS => ?_)
  refine lv_re (y := nI (7 + 14 * k + 0)) rfl ?_
  refine wr_ald (kA := 0) hC hW (vM (by decide)) ce_m1 rfl (vp_in_nI (show (7 + 14 * k + 0) < 100 by omega) (by decide)) dX7_steps_19 ?_
  refine lv_re (y := B 1 (7 + 14 * k + 0)) ((congrArg (B 1) (nI_clamp (by omega)))) ?_
  refine lv_imul hx hb dX7_steps_20 ?_
  refine lv_topi (fun x_10 ex_10 => ?_)
  refine lv_istore_n (lv' := [(2, .int x_10), (0, .ref (G.2.2.1 12 0)), (1, .int (nI k))]) hx hb dX7_steps_21 rfl hl (by decide) rfl (fun ls hl => ?_)
  refine lv_aload_n hx hb dX7_steps_22 rfl (lv_at hl 1 rfl) ?_
  refine lv_aload_n hx hb dX7_steps_23 rfl (lv_at hl 1 rfl) ?_
  refine wr_get hC hinRX7 hW (vM (by decide)) ce_m0 rfl 0 (by decide) hk0 rfl dX7_steps_24 ?_
  refine lv_iload_n hx hb dX7_steps_27 rfl (lv_at hl 2 rfl) ?_
  refine lv_bipush (v := 6) hx hb dX7_steps_28 (by decide) ?_
  refine wc_s hC hml (kX7_at l G (wset Z 12 B) k 6) (cwS 2 hts gX7_steps_X7_at rfl rfl rfl (by decide +kernel) ⟨Nat.le_of_ble_eq_true rfl, Nat.le_of_ble_eq_true rfl⟩) hW hS rfl rfl hl.1 (Nat.le_of_ble_eq_true rfl) dX7_steps_30 (fun H locs hW hS => ?_)
  refine lv_re (y := nI (7 + 14 * k + 6)) rfl ?_
  refine wr_ald (kA := 0) hC hW (vM (by decide)) ce_m1 rfl (vp_in_nI (show (7 + 14 * k + 6) < 100 by omega) (by decide)) dX7_steps_33 ?_
  refine lv_re (y := B 1 (7 + 14 * k + 6)) ((congrArg (B 1) (nI_clamp (by omega)))) ?_
  refine lv_aload_n hx hb dX7_steps_34 rfl (lv_at hl 1 rfl) ?_
  refine wr_get hC hinRX7 hW (vM (by decide)) ce_m0 rfl 0 (by decide) hk0 rfl dX7_steps_35 ?_
  refine lv_iconst (v := 2) hx hb dX7_steps_38 (by decide) ?_
  refine wr_ald (kA := 0) hC hW (vM (by decide)) ce_m1 rfl (vp_in_iff.mpr (by decide)) dX7_steps_39 ?_
  refine lv_re (y := B 1 2) ((congrArg (B 1) (show (2 : Int32).toNatClampNeg = 2 by decide))) ?_
  refine wc_i hC hml (kX7_intervalBy l G Z B (B 1 (7 + 14 * k + 6)) (B 1 2)) (cwV 2 hts gX7_steps_X7_intervalBy rfl rfl rfl (by decide +kernel) ⟨Nat.le_of_ble_eq_true rfl, Nat.le_of_ble_eq_true rfl⟩) hW hS (vM (by decide)) ce_m0 rfl rfl rfl rfl hl.1 (Nat.le_of_ble_eq_true rfl) dX7_steps_40 (fun H locs hW hS => ?_)
  refine lv_topi (fun x_11 ex_11 => ?_)
  refine lv_aload_n hx hb dX7_steps_43 rfl (lv_at hl 1 rfl) ?_
  refine lv_aload_n hx hb dX7_steps_44 rfl (lv_at hl 1 rfl) ?_
  refine wr_get hC hinRX7 hW (vM (by decide)) ce_m0 rfl 0 (by decide) hk0 rfl dX7_steps_45 ?_
  refine lv_iload_n hx hb dX7_steps_48 rfl (lv_at hl 2 rfl) ?_
  refine lv_iconst (v := 1) hx hb dX7_steps_49 (by decide) ?_
  refine wc_s hC hml (kX7_at l G (wset Z 12 B) k 1) (cwS 2 hts gX7_steps_X7_at rfl rfl rfl (by decide +kernel) ⟨Nat.le_of_ble_eq_true rfl, Nat.le_of_ble_eq_true rfl⟩) hW hS rfl rfl hl.1 (Nat.le_of_ble_eq_true rfl) dX7_steps_50 (fun H locs hW hS => ?_)
  refine lv_re (y := nI (7 + 14 * k + 1)) rfl ?_
  refine wr_ald (kA := 0) hC hW (vM (by decide)) ce_m1 rfl (vp_in_nI (show (7 + 14 * k + 1) < 100 by omega) (by decide)) dX7_steps_53 ?_
  refine lv_re (y := B 1 (7 + 14 * k + 1)) ((congrArg (B 1) (nI_clamp (by omega)))) ?_
  refine wc_i hC hml (kX7_needs l G Z B (B 1 (7 + 14 * k + 1))) (cwV 1 hts gX7_steps_X7_needs rfl rfl rfl (by decide +kernel) ⟨Nat.le_of_ble_eq_true rfl, Nat.le_of_ble_eq_true rfl⟩) hW hS (vM (by decide)) ce_m0 rfl rfl rfl rfl hl.1 (Nat.le_of_ble_eq_true rfl) dX7_steps_54 (fun H locs hW hS => ?_)
  refine lv_topi (fun x_12 ex_12 => ?_)
  refine lv_icmp_ge (tgt := 64) hx hb dX7_steps_57 (by decide) (fun c_13 => ?_) (fun c_13 => ?_)
  · skip
    refine lv_iconst (v := 0) hx hb dX7_steps_64 (by decide) ?_
    refine lv_istore_n (lv' := [(3, .int 0), (2, .int x_10), (0, .ref (G.2.2.1 12 0)), (1, .int (nI k))]) hx hb dX7_steps_65 rfl hl (by decide) rfl (fun ls hl => ?_)
    refine lv_aload_n hx hb dX7_steps_66 rfl (lv_at hl 2 rfl) ?_
    refine wr_get hC hinRX7 hW (vM (by decide)) ce_m0 rfl 8 (by decide) hk1 rfl dX7_steps_67 ?_
    refine lv_if_ne (tgt := 83) hx hb dX7_steps_70 (by decide) (fun c_14 => ?_) (fun c_14 => ?_)
    · skip
      refine lv_aload_n hx hb dX7_steps_83 rfl (lv_at hl 2 rfl) ?_
      refine lv_dup hx hb dX7_steps_84 rfl ?_
      refine wr_get hC hinRX7 hW (vM (by decide)) ce_m0 rfl 8 (by decide) hk1 rfl dX7_steps_85 ?_
      refine lv_aload_n hx hb dX7_steps_88 rfl (lv_at hl 2 rfl) ?_
      refine wr_get hC hinRX7 hW (vM (by decide)) ce_m0 rfl 8 (by decide) hk1 rfl dX7_steps_89 ?_
      refine lv_if_ge (tgt := 99) hx hb dX7_steps_92 (by decide) (fun c_15 => ?_) (fun c_15 => ?_)
      · skip
        refine lv_iconst (v := 1) hx hb dX7_steps_99 (by decide) ?_
        refine lv_isub hx hb dX7_steps_100 ?_
        refine wr_put (Z' := wset Z 12 (bput B 0 2 ((B 0 2) - 1))) (v := .int ((B 0 2) - 1)) hC hinRX7 tyX7 tyX7_ok nmX7 hW hS (vM (by decide)) ce_m0 rfl 8 (by decide) hk1 rfl (tyX7_ok 8 (by decide)) rfl rfl (Nat.le_of_ble_eq_true rfl) wset_off pu_m0_2 dX7_steps_101 (fun H locs hW hS => ?_)
        refine lv_aload_n hx hb dX7_steps_104 rfl (lv_at hl 2 rfl) ?_
        refine wr_get hC hinRX7 hW (vM (by decide)) ce_m0 rfl 0 (by decide) hk0 rfl dX7_steps_105 ?_
        refine lv_iload_n hx hb dX7_steps_108 rfl (lv_at hl 3 rfl) ?_
        refine lv_iconst (v := 2) hx hb dX7_steps_109 (by decide) ?_
        refine wc_s hC hml (kX7_at l G (wset Z 12 (bput B 0 2 ((B 0 2) - 1))) k 2) (cwS 2 hts gX7_steps_X7_at rfl rfl rfl (by decide +kernel) ⟨Nat.le_of_ble_eq_true rfl, Nat.le_of_ble_eq_true rfl⟩) hW hS rfl rfl hl.1 (Nat.le_of_ble_eq_true rfl) dX7_steps_110 (fun H locs hW hS => ?_)
        refine lv_re (y := nI (7 + 14 * k + 2)) rfl ?_
        refine lv_dup2_11 hx hb dX7_steps_113 rfl rfl ?_
        refine wr_ald (kA := 0) hC hW (vM (by decide)) ce_m1 rfl (vp_in_nI (show (7 + 14 * k + 2) < 100 by omega) (by decide)) dX7_steps_114 ?_
        refine lv_re (y := B 1 (7 + 14 * k + 2)) (((congrArg ((bput B 0 2 ((B 0 2) - 1)) 1) (nI_clamp (by omega)))).trans (bput_j (by omega))) ?_
        refine lv_iload_n hx hb dX7_steps_115 rfl (lv_at hl 1 rfl) ?_
        refine lv_iadd hx hb dX7_steps_116 ?_
        refine wr_ast (kA := 0) (Z' := wset Z 12 (bput (bput B 0 2 ((B 0 2) - 1)) 1 (nI (7 + 14 * k + 2)).toNatClampNeg ((B 1 (7 + 14 * k + 2)) + x_10))) hC hW hS (vM (by decide)) ce_m1 rfl (vp_in_nI (show (7 + 14 * k + 2) < 100 by omega) (by decide)) wset_off pu_m1 dX7_steps_117 (fun H locs hW hS => ?_)
        rw [nI_clamp (show (7 + 14 * k + 2) < 2 ^ 31 by omega)] at hW
        refine lv_aload_n hx hb dX7_steps_118 rfl (lv_at hl 2 rfl) ?_
        refine wr_get hC hinRX7 hW (vM (by decide)) ce_m0 rfl 0 (by decide) hk0 rfl dX7_steps_119 ?_
        refine lv_iload_n hx hb dX7_steps_122 rfl (lv_at hl 3 rfl) ?_
        refine lv_iconst (v := 3) hx hb dX7_steps_123 (by decide) ?_
        refine wc_s hC hml (kX7_at l G (wset Z 12 (bput (bput B 0 2 ((B 0 2) - 1)) 1 (7 + 14 * k + 2) ((B 1 (7 + 14 * k + 2)) + x_10))) k 3) (cwS 2 hts gX7_steps_X7_at rfl rfl rfl (by decide +kernel) ⟨Nat.le_of_ble_eq_true rfl, Nat.le_of_ble_eq_true rfl⟩) hW hS rfl rfl hl.1 (Nat.le_of_ble_eq_true rfl) dX7_steps_124 (fun H locs hW hS => ?_)
        refine lv_re (y := nI (7 + 14 * k + 3)) rfl ?_
        refine lv_dup2_11 hx hb dX7_steps_127 rfl rfl ?_
        refine wr_ald (kA := 0) hC hW (vM (by decide)) ce_m1 rfl (vp_in_nI (show (7 + 14 * k + 3) < 100 by omega) (by decide)) dX7_steps_128 ?_
        refine lv_re (y := B 1 (7 + 14 * k + 3)) ((((congrArg ((bput (bput B 0 2 ((B 0 2) - 1)) 1 (7 + 14 * k + 2) ((B 1 (7 + 14 * k + 2)) + x_10)) 1) (nI_clamp (by omega)))).trans (bput_q (by omega))).trans (bput_j (by omega))) ?_
        refine lv_iload_n hx hb dX7_steps_129 rfl (lv_at hl 0 rfl) ?_
        refine lv_if_eq (tgt := 137) hx hb dX7_steps_130 (by decide) (fun c_16 => ?_) (fun c_16 => ?_)
        · skip
          refine lv_iload_n hx hb dX7_steps_137 rfl (lv_at hl 1 rfl) ?_
          refine lv_iadd hx hb dX7_steps_138 ?_
          refine wr_ast (kA := 0) (Z' := wset Z 12 (bput (bput (bput B 0 2 ((B 0 2) - 1)) 1 (7 + 14 * k + 2) ((B 1 (7 + 14 * k + 2)) + x_10)) 1 (nI (7 + 14 * k + 3)).toNatClampNeg ((B 1 (7 + 14 * k + 3)) + x_10))) hC hW hS (vM (by decide)) ce_m1 rfl (vp_in_nI (show (7 + 14 * k + 3) < 100 by omega) (by decide)) wset_off pu_m1 dX7_steps_139 (fun H locs hW hS => ?_)
          rw [nI_clamp (show (7 + 14 * k + 3) < 2 ^ 31 by omega)] at hW
          refine lv_aload_n hx hb dX7_steps_140 rfl (lv_at hl 2 rfl) ?_
          refine wr_get hC hinRX7 hW (vM (by decide)) ce_m0 rfl 0 (by decide) hk0 rfl dX7_steps_141 ?_
          refine lv_iload_n hx hb dX7_steps_144 rfl (lv_at hl 3 rfl) ?_
          refine lv_bipush (v := 12) hx hb dX7_steps_145 (by decide) ?_
          refine wc_s hC hml (kX7_at l G (wset Z 12 (bput (bput (bput B 0 2 ((B 0 2) - 1)) 1 (7 + 14 * k + 2) ((B 1 (7 + 14 * k + 2)) + x_10)) 1 (7 + 14 * k + 3) ((B 1 (7 + 14 * k + 3)) + x_10))) k 12) (cwS 2 hts gX7_steps_X7_at rfl rfl rfl (by decide +kernel) ⟨Nat.le_of_ble_eq_true rfl, Nat.le_of_ble_eq_true rfl⟩) hW hS rfl rfl hl.1 (Nat.le_of_ble_eq_true rfl) dX7_steps_147 (fun H locs hW hS => ?_)
          refine lv_re (y := nI (7 + 14 * k + 12)) rfl ?_
          refine lv_dup2_11 hx hb dX7_steps_150 rfl rfl ?_
          refine wr_ald (kA := 0) hC hW (vM (by decide)) ce_m1 rfl (vp_in_nI (show (7 + 14 * k + 12) < 100 by omega) (by decide)) dX7_steps_151 ?_
          refine lv_re (y := B 1 (7 + 14 * k + 12)) (((((congrArg ((bput (bput (bput B 0 2 ((B 0 2) - 1)) 1 (7 + 14 * k + 2) ((B 1 (7 + 14 * k + 2)) + x_10)) 1 (7 + 14 * k + 3) ((B 1 (7 + 14 * k + 3)) + x_10)) 1) (nI_clamp (by omega)))).trans (bput_q (by omega))).trans (bput_q (by omega))).trans (bput_j (by omega))) ?_
          refine lv_iconst (v := 1) hx hb dX7_steps_152 (by decide) ?_
          refine lv_iadd hx hb dX7_steps_153 ?_
          refine wr_ast (kA := 0) (Z' := wset Z 12 (bput (bput (bput (bput B 0 2 ((B 0 2) - 1)) 1 (7 + 14 * k + 2) ((B 1 (7 + 14 * k + 2)) + x_10)) 1 (7 + 14 * k + 3) ((B 1 (7 + 14 * k + 3)) + x_10)) 1 (nI (7 + 14 * k + 12)).toNatClampNeg ((B 1 (7 + 14 * k + 12)) + 1))) hC hW hS (vM (by decide)) ce_m1 rfl (vp_in_nI (show (7 + 14 * k + 12) < 100 by omega) (by decide)) wset_off pu_m1 dX7_steps_154 (fun H locs hW hS => ?_)
          rw [nI_clamp (show (7 + 14 * k + 12) < 2 ^ 31 by omega)] at hW
          refine lv_aload_n hx hb dX7_steps_155 rfl (lv_at hl 2 rfl) ?_
          refine wr_get hC hinRX7 hW (vM (by decide)) ce_m0 rfl 0 (by decide) hk0 rfl dX7_steps_156 ?_
          refine lv_iload_n hx hb dX7_steps_159 rfl (lv_at hl 3 rfl) ?_
          refine lv_bipush (v := 13) hx hb dX7_steps_160 (by decide) ?_
          refine wc_s hC hml (kX7_at l G (wset Z 12 (bput (bput (bput (bput B 0 2 ((B 0 2) - 1)) 1 (7 + 14 * k + 2) ((B 1 (7 + 14 * k + 2)) + x_10)) 1 (7 + 14 * k + 3) ((B 1 (7 + 14 * k + 3)) + x_10)) 1 (7 + 14 * k + 12) ((B 1 (7 + 14 * k + 12)) + 1))) k 13) (cwS 2 hts gX7_steps_X7_at rfl rfl rfl (by decide +kernel) ⟨Nat.le_of_ble_eq_true rfl, Nat.le_of_ble_eq_true rfl⟩) hW hS rfl rfl hl.1 (Nat.le_of_ble_eq_true rfl) dX7_steps_162 (fun H locs hW hS => ?_)
          refine lv_re (y := nI (7 + 14 * k + 13)) rfl ?_
          refine lv_dup2_11 hx hb dX7_steps_165 rfl rfl ?_
          refine wr_ald (kA := 0) hC hW (vM (by decide)) ce_m1 rfl (vp_in_nI (show (7 + 14 * k + 13) < 100 by omega) (by decide)) dX7_steps_166 ?_
          refine lv_re (y := B 1 (7 + 14 * k + 13)) ((((((congrArg ((bput (bput (bput (bput B 0 2 ((B 0 2) - 1)) 1 (7 + 14 * k + 2) ((B 1 (7 + 14 * k + 2)) + x_10)) 1 (7 + 14 * k + 3) ((B 1 (7 + 14 * k + 3)) + x_10)) 1 (7 + 14 * k + 12) ((B 1 (7 + 14 * k + 12)) + 1)) 1) (nI_clamp (by omega)))).trans (bput_q (by omega))).trans (bput_q (by omega))).trans (bput_q (by omega))).trans (bput_j (by omega))) ?_
          refine lv_iload_n hx hb dX7_steps_167 rfl (lv_at hl 0 rfl) ?_
          refine lv_if_eq (tgt := 175) hx hb dX7_steps_168 (by decide) (fun c_17 => ?_) (fun c_17 => ?_)
          · skip
            refine lv_iconst (v := 0) hx hb dX7_steps_175 (by decide) ?_
            refine lv_iadd hx hb dX7_steps_176 ?_
            refine wr_ast (kA := 0) (Z' := wset Z 12 (bput (bput (bput (bput (bput B 0 2 ((B 0 2) - 1)) 1 (7 + 14 * k + 2) ((B 1 (7 + 14 * k + 2)) + x_10)) 1 (7 + 14 * k + 3) ((B 1 (7 + 14 * k + 3)) + x_10)) 1 (7 + 14 * k + 12) ((B 1 (7 + 14 * k + 12)) + 1)) 1 (nI (7 + 14 * k + 13)).toNatClampNeg ((B 1 (7 + 14 * k + 13)) + 0))) hC hW hS (vM (by decide)) ce_m1 rfl (vp_in_nI (show (7 + 14 * k + 13) < 100 by omega) (by decide)) wset_off pu_m1 dX7_steps_177 (fun H locs hW hS => ?_)
            rw [nI_clamp (show (7 + 14 * k + 13) < 2 ^ 31 by omega)] at hW
            refine lv_aload_n hx hb dX7_steps_178 rfl (lv_at hl 2 rfl) ?_
            refine wr_get hC hinRX7 hW (vM (by decide)) ce_m0 rfl 0 (by decide) hk0 rfl dX7_steps_179 ?_
            refine lv_iload_n hx hb dX7_steps_182 rfl (lv_at hl 3 rfl) ?_
            refine lv_iconst (v := 5) hx hb dX7_steps_183 (by decide) ?_
            refine wc_s hC hml (kX7_at l G (wset Z 12 (bput (bput (bput (bput (bput B 0 2 ((B 0 2) - 1)) 1 (7 + 14 * k + 2) ((B 1 (7 + 14 * k + 2)) + x_10)) 1 (7 + 14 * k + 3) ((B 1 (7 + 14 * k + 3)) + x_10)) 1 (7 + 14 * k + 12) ((B 1 (7 + 14 * k + 12)) + 1)) 1 (7 + 14 * k + 13) ((B 1 (7 + 14 * k + 13)) + 0))) k 5) (cwS 2 hts gX7_steps_X7_at rfl rfl rfl (by decide +kernel) ⟨Nat.le_of_ble_eq_true rfl, Nat.le_of_ble_eq_true rfl⟩) hW hS rfl rfl hl.1 (Nat.le_of_ble_eq_true rfl) dX7_steps_184 (fun H locs hW hS => ?_)
            refine lv_re (y := nI (7 + 14 * k + 5)) rfl ?_
            refine lv_dup2_11 hx hb dX7_steps_187 rfl rfl ?_
            refine wr_ald (kA := 0) hC hW (vM (by decide)) ce_m1 rfl (vp_in_nI (show (7 + 14 * k + 5) < 100 by omega) (by decide)) dX7_steps_188 ?_
            refine lv_re (y := B 1 (7 + 14 * k + 5)) (((((((congrArg ((bput (bput (bput (bput (bput B 0 2 ((B 0 2) - 1)) 1 (7 + 14 * k + 2) ((B 1 (7 + 14 * k + 2)) + x_10)) 1 (7 + 14 * k + 3) ((B 1 (7 + 14 * k + 3)) + x_10)) 1 (7 + 14 * k + 12) ((B 1 (7 + 14 * k + 12)) + 1)) 1 (7 + 14 * k + 13) ((B 1 (7 + 14 * k + 13)) + 0)) 1) (nI_clamp (by omega)))).trans (bput_q (by omega))).trans (bput_q (by omega))).trans (bput_q (by omega))).trans (bput_q (by omega))).trans (bput_j (by omega))) ?_
            refine lv_iconst (v := 1) hx hb dX7_steps_189 (by decide) ?_
            refine lv_isub hx hb dX7_steps_190 ?_
            refine wr_ast (kA := 0) (Z' := wset Z 12 (bput (bput (bput (bput (bput (bput B 0 2 ((B 0 2) - 1)) 1 (7 + 14 * k + 2) ((B 1 (7 + 14 * k + 2)) + x_10)) 1 (7 + 14 * k + 3) ((B 1 (7 + 14 * k + 3)) + x_10)) 1 (7 + 14 * k + 12) ((B 1 (7 + 14 * k + 12)) + 1)) 1 (7 + 14 * k + 13) ((B 1 (7 + 14 * k + 13)) + 0)) 1 (nI (7 + 14 * k + 5)).toNatClampNeg ((B 1 (7 + 14 * k + 5)) - 1))) hC hW hS (vM (by decide)) ce_m1 rfl (vp_in_nI (show (7 + 14 * k + 5) < 100 by omega) (by decide)) wset_off pu_m1 dX7_steps_191 (fun H locs hW hS => ?_)
            rw [nI_clamp (show (7 + 14 * k + 5) < 2 ^ 31 by omega)] at hW
            refine lv_aload_n hx hb dX7_steps_192 rfl (lv_at hl 2 rfl) ?_
            refine lv_iload_n hx hb dX7_steps_193 rfl (lv_at hl 3 rfl) ?_
            obtain ⟨B_18, eB_18⟩ : ∃ y, y = (bput (bput (bput (bput (bput (bput B 0 2 ((B 0 2) - 1)) 1 (7 + 14 * k + 2) ((B 1 (7 + 14 * k + 2)) + x_10)) 1 (7 + 14 * k + 3) ((B 1 (7 + 14 * k + 3)) + x_10)) 1 (7 + 14 * k + 12) ((B 1 (7 + 14 * k + 12)) + 1)) 1 (7 + 14 * k + 13) ((B 1 (7 + 14 * k + 13)) + 0)) 1 (7 + 14 * k + 5) ((B 1 (7 + 14 * k + 5)) - 1)) := ⟨_, rfl⟩
            rw [← eB_18] at hW
            refine wc_i hC hml (kX7_rests l G Z B_18 k (by first | assumption | omega)) (cwV 1 hts gX7_steps_X7_rests rfl rfl rfl (by decide +kernel) ⟨Nat.le_of_ble_eq_true rfl, Nat.le_of_ble_eq_true rfl⟩) hW hS (vM (by decide)) ce_m0 rfl rfl rfl rfl hl.1 (Nat.le_of_ble_eq_true rfl) dX7_steps_194 (fun H locs hW hS => ?_)
            refine lv_topi (fun x_19 ex_19 => ?_)
            refine lv_if_eq (tgt := 247) hx hb dX7_steps_197 (by decide) (fun c_20 => ?_) (fun c_20 => ?_)
            · skip
              refine lv_aload_n hx hb dX7_steps_247 rfl (lv_at hl 2 rfl) ?_
              refine wr_get hC hinRX7 hW (vM (by decide)) ce_m0 rfl 0 (by decide) hk0 rfl dX7_steps_248 ?_
              refine lv_iload_n hx hb dX7_steps_251 rfl (lv_at hl 3 rfl) ?_
              refine lv_bipush (v := 6) hx hb dX7_steps_252 (by decide) ?_
              refine wc_s hC hml (kX7_at l G (wset Z 12 B_18) k 6) (cwS 2 hts gX7_steps_X7_at rfl rfl rfl (by decide +kernel) ⟨Nat.le_of_ble_eq_true rfl, Nat.le_of_ble_eq_true rfl⟩) hW hS rfl rfl hl.1 (Nat.le_of_ble_eq_true rfl) dX7_steps_254 (fun H locs hW hS => ?_)
              refine lv_re (y := nI (7 + 14 * k + 6)) rfl ?_
              refine lv_aload_n hx hb dX7_steps_257 rfl (lv_at hl 2 rfl) ?_
              refine wr_get hC hinRX7 hW (vM (by decide)) ce_m0 rfl 0 (by decide) hk0 rfl dX7_steps_258 ?_
              refine lv_iload_n hx hb dX7_steps_261 rfl (lv_at hl 3 rfl) ?_
              refine lv_bipush (v := 6) hx hb dX7_steps_262 (by decide) ?_
              refine wc_s hC hml (kX7_at l G (wset Z 12 B_18) k 6) (cwS 2 hts gX7_steps_X7_at rfl rfl rfl (by decide +kernel) ⟨Nat.le_of_ble_eq_true rfl, Nat.le_of_ble_eq_true rfl⟩) hW hS rfl rfl hl.1 (Nat.le_of_ble_eq_true rfl) dX7_steps_264 (fun H locs hW hS => ?_)
              refine lv_re (y := nI (7 + 14 * k + 6)) rfl ?_
              refine wr_ald (kA := 0) hC hW (vM (by decide)) ce_m1 rfl (vp_in_nI (show (7 + 14 * k + 6) < 100 by omega) (by decide)) dX7_steps_267 ?_
              refine lv_re (y := B 1 (7 + 14 * k + 6)) (((((((((congrArg (B_18 1) (nI_clamp (by omega)))).trans ((congrFun (congrFun eB_18 _) _))).trans (bput_q (by omega))).trans (bput_q (by omega))).trans (bput_q (by omega))).trans (bput_q (by omega))).trans (bput_q (by omega))).trans (bput_j (by omega))) ?_
              refine lv_aload_n hx hb dX7_steps_268 rfl (lv_at hl 2 rfl) ?_
              refine wr_get hC hinRX7 hW (vM (by decide)) ce_m0 rfl 0 (by decide) hk0 rfl dX7_steps_269 ?_
              refine lv_iload_n hx hb dX7_steps_272 rfl (lv_at hl 3 rfl) ?_
              refine lv_iconst (v := 5) hx hb dX7_steps_273 (by decide) ?_
              refine wc_s hC hml (kX7_at l G (wset Z 12 B_18) k 5) (cwS 2 hts gX7_steps_X7_at rfl rfl rfl (by decide +kernel) ⟨Nat.le_of_ble_eq_true rfl, Nat.le_of_ble_eq_true rfl⟩) hW hS rfl rfl hl.1 (Nat.le_of_ble_eq_true rfl) dX7_steps_274 (fun H locs hW hS => ?_)
              refine lv_re (y := nI (7 + 14 * k + 5)) rfl ?_
              refine wr_ald (kA := 0) hC hW (vM (by decide)) ce_m1 rfl (vp_in_nI (show (7 + 14 * k + 5) < 100 by omega) (by decide)) dX7_steps_277 ?_
              refine lv_re (y := (B 1 (7 + 14 * k + 5)) - 1) ((((congrArg (B_18 1) (nI_clamp (by omega)))).trans ((congrFun (congrFun eB_18 _) _))).trans (bput_h)) ?_
              refine lv_aload_n hx hb dX7_steps_278 rfl (lv_at hl 2 rfl) ?_
              refine lv_aload_n hx hb dX7_steps_279 rfl (lv_at hl 2 rfl) ?_
              refine wr_get hC hinRX7 hW (vM (by decide)) ce_m0 rfl 0 (by decide) hk0 rfl dX7_steps_280 ?_
              refine lv_iconst (v := 2) hx hb dX7_steps_283 (by decide) ?_
              refine wr_ald (kA := 0) hC hW (vM (by decide)) ce_m1 rfl (vp_in_iff.mpr (by decide)) dX7_steps_284 ?_
              refine lv_re (y := B 1 2) (((((((((congrArg (B_18 1) (show (2 : Int32).toNatClampNeg = 2 by decide))).trans ((congrFun (congrFun eB_18 _) _))).trans (bput_q (by omega))).trans (bput_q (by omega))).trans (bput_q (by omega))).trans (bput_q (by omega))).trans (bput_q (by omega))).trans (bput_j (by omega))) ?_
              refine wc_i hC hml (kX7_highestBy l G Z B_18 (B 1 2) (by first | assumption | omega)) (cwV 1 hts gX7_steps_X7_highestBy rfl rfl rfl (by decide +kernel) ⟨Nat.le_of_ble_eq_true rfl, Nat.le_of_ble_eq_true rfl⟩) hW hS (vM (by decide)) ce_m0 rfl rfl rfl rfl hl.1 (Nat.le_of_ble_eq_true rfl) dX7_steps_285 (fun H locs hW hS => ?_)
              refine lv_topi (fun x_21 ex_21 => ?_)
              refine wc_s hC hml (kX7_nextLevel l G (wset Z 12 B_18) (B 1 (7 + 14 * k + 6)) ((B 1 (7 + 14 * k + 5)) - 1) x_21) (cwS 3 hts gX7_steps_X7_nextLevel rfl rfl rfl (by decide +kernel) ⟨Nat.le_of_ble_eq_true rfl, Nat.le_of_ble_eq_true rfl⟩) hW hS rfl rfl hl.1 (Nat.le_of_ble_eq_true rfl) dX7_steps_288 (fun H locs hW hS => ?_)
              refine lv_topi (fun x_22 ex_22 => ?_)
              refine wr_ast (kA := 0) (Z' := wset Z 12 (bput B_18 1 (nI (7 + 14 * k + 6)).toNatClampNeg x_22)) hC hW hS (vM (by decide)) ce_m1 rfl (vp_in_nI (show (7 + 14 * k + 6) < 100 by omega) (by decide)) wset_off pu_m1 dX7_steps_291 (fun H locs hW hS => ?_)
              rw [nI_clamp (show (7 + 14 * k + 6) < 2 ^ 31 by omega)] at hW
              refine lv_aload_n hx hb dX7_steps_292 rfl (lv_at hl 2 rfl) ?_
              refine wr_get hC hinRX7 hW (vM (by decide)) ce_m0 rfl 0 (by decide) hk0 rfl dX7_steps_293 ?_
              refine lv_iload_n hx hb dX7_steps_296 rfl (lv_at hl 3 rfl) ?_
              refine lv_bipush (v := 7) hx hb dX7_steps_297 (by decide) ?_
              refine wc_s hC hml (kX7_at l G (wset Z 12 (bput B_18 1 (7 + 14 * k + 6) x_22)) k 7) (cwS 2 hts gX7_steps_X7_at rfl rfl rfl (by decide +kernel) ⟨Nat.le_of_ble_eq_true rfl, Nat.le_of_ble_eq_true rfl⟩) hW hS rfl rfl hl.1 (Nat.le_of_ble_eq_true rfl) dX7_steps_299 (fun H locs hW hS => ?_)
              refine lv_re (y := nI (7 + 14 * k + 7)) rfl ?_
              refine lv_aload_n hx hb dX7_steps_302 rfl (lv_at hl 2 rfl) ?_
              refine wr_get hC hinRX7 hW (vM (by decide)) ce_m0 rfl 0 (by decide) hk0 rfl dX7_steps_303 ?_
              refine lv_iconst (v := 5) hx hb dX7_steps_306 (by decide) ?_
              refine wr_ald (kA := 0) hC hW (vM (by decide)) ce_m1 rfl (vp_in_iff.mpr (by decide)) dX7_steps_307 ?_
              refine lv_re (y := B 1 5) ((((((((((congrArg ((bput B_18 1 (7 + 14 * k + 6) x_22) 1) (show (5 : Int32).toNatClampNeg = 5 by decide))).trans (bput_q (by omega))).trans ((congrFun (congrFun eB_18 _) _))).trans (bput_q (by omega))).trans (bput_q (by omega))).trans (bput_q (by omega))).trans (bput_q (by omega))).trans (bput_q (by omega))).trans (bput_q (by decide))) ?_
              refine lv_aload_n hx hb dX7_steps_308 rfl (lv_at hl 2 rfl) ?_
              refine lv_aload_n hx hb dX7_steps_309 rfl (lv_at hl 2 rfl) ?_
              refine wr_get hC hinRX7 hW (vM (by decide)) ce_m0 rfl 0 (by decide) hk0 rfl dX7_steps_310 ?_
              refine lv_iload_n hx hb dX7_steps_313 rfl (lv_at hl 3 rfl) ?_
              refine lv_bipush (v := 6) hx hb dX7_steps_314 (by decide) ?_
              refine wc_s hC hml (kX7_at l G (wset Z 12 (bput B_18 1 (7 + 14 * k + 6) x_22)) k 6) (cwS 2 hts gX7_steps_X7_at rfl rfl rfl (by decide +kernel) ⟨Nat.le_of_ble_eq_true rfl, Nat.le_of_ble_eq_true rfl⟩) hW hS rfl rfl hl.1 (Nat.le_of_ble_eq_true rfl) dX7_steps_316 (fun H locs hW hS => ?_)
              refine lv_re (y := nI (7 + 14 * k + 6)) rfl ?_
              refine wr_ald (kA := 0) hC hW (vM (by decide)) ce_m1 rfl (vp_in_nI (show (7 + 14 * k + 6) < 100 by omega) (by decide)) dX7_steps_319 ?_
              refine lv_re (y := x_22) (((congrArg ((bput B_18 1 (7 + 14 * k + 6) x_22) 1) (nI_clamp (by omega)))).trans (bput_h)) ?_
              refine lv_aload_n hx hb dX7_steps_320 rfl (lv_at hl 2 rfl) ?_
              refine wr_get hC hinRX7 hW (vM (by decide)) ce_m0 rfl 0 (by decide) hk0 rfl dX7_steps_321 ?_
              refine lv_iconst (v := 2) hx hb dX7_steps_324 (by decide) ?_
              refine wr_ald (kA := 0) hC hW (vM (by decide)) ce_m1 rfl (vp_in_iff.mpr (by decide)) dX7_steps_325 ?_
              refine lv_re (y := B 1 2) ((((((((((congrArg ((bput B_18 1 (7 + 14 * k + 6) x_22) 1) (show (2 : Int32).toNatClampNeg = 2 by decide))).trans (bput_q (by omega))).trans ((congrFun (congrFun eB_18 _) _))).trans (bput_q (by omega))).trans (bput_q (by omega))).trans (bput_q (by omega))).trans (bput_q (by omega))).trans (bput_q (by omega))).trans (bput_j (by omega))) ?_
              obtain ⟨B_23, eB_23⟩ : ∃ y, y = (bput B_18 1 (7 + 14 * k + 6) x_22) := ⟨_, rfl⟩
              rw [← eB_23] at hW
              refine wc_i hC hml (kX7_intervalBy l G Z B_23 x_22 (B 1 2)) (cwV 2 hts gX7_steps_X7_intervalBy rfl rfl rfl (by decide +kernel) ⟨Nat.le_of_ble_eq_true rfl, Nat.le_of_ble_eq_true rfl⟩) hW hS (vM (by decide)) ce_m0 rfl rfl rfl rfl hl.1 (Nat.le_of_ble_eq_true rfl) dX7_steps_326 (fun H locs hW hS => ?_)
              refine lv_topi (fun x_24 ex_24 => ?_)
              refine lv_iadd hx hb dX7_steps_329 ?_
              refine wr_ast (kA := 0) (Z' := wset Z 12 (bput B_23 1 (nI (7 + 14 * k + 7)).toNatClampNeg ((B 1 5) + x_24))) hC hW hS (vM (by decide)) ce_m1 rfl (vp_in_nI (show (7 + 14 * k + 7) < 100 by omega) (by decide)) wset_off pu_m1 dX7_steps_330 (fun H locs hW hS => ?_)
              rw [nI_clamp (show (7 + 14 * k + 7) < 2 ^ 31 by omega)] at hW
              have hf : fX7_steps B k = (bput B_23 1 (7 + 14 * k + 7) ((B 1 5) + x_24)) := by
                subst ex_24
                subst eB_23
                subst ex_22
                subst ex_21
                subst ex_19
                subst eB_18
                subst ex_12
                subst ex_11
                subst ex_10
                exact (if_pos c_13).trans ((if_neg c_14).trans ((if_pos c_15).trans ((if_pos c_20).trans rfl)))
              exact we_v hC hr hlocks (congrArg (wset Z 12) hf).symm hW hS dX7_steps_331
            · skip
              refine lv_aload_n hx hb dX7_steps_200 rfl (lv_at hl 2 rfl) ?_
              refine wr_get hC hinRX7 hW (vM (by decide)) ce_m0 rfl 0 (by decide) hk0 rfl dX7_steps_201 ?_
              refine lv_iload_n hx hb dX7_steps_204 rfl (lv_at hl 3 rfl) ?_
              refine lv_bipush (v := 6) hx hb dX7_steps_205 (by decide) ?_
              refine wc_s hC hml (kX7_at l G (wset Z 12 B_18) k 6) (cwS 2 hts gX7_steps_X7_at rfl rfl rfl (by decide +kernel) ⟨Nat.le_of_ble_eq_true rfl, Nat.le_of_ble_eq_true rfl⟩) hW hS rfl rfl hl.1 (Nat.le_of_ble_eq_true rfl) dX7_steps_207 (fun H locs hW hS => ?_)
              refine lv_re (y := nI (7 + 14 * k + 6)) rfl ?_
              refine lv_iconst (v := 0) hx hb dX7_steps_210 (by decide) ?_
              refine wr_ast (kA := 0) (Z' := wset Z 12 (bput B_18 1 (nI (7 + 14 * k + 6)).toNatClampNeg 0)) hC hW hS (vM (by decide)) ce_m1 rfl (vp_in_nI (show (7 + 14 * k + 6) < 100 by omega) (by decide)) wset_off pu_m1 dX7_steps_211 (fun H locs hW hS => ?_)
              rw [nI_clamp (show (7 + 14 * k + 6) < 2 ^ 31 by omega)] at hW
              have hf : fX7_steps B k = LX7_sw k 3 (bput B_18 1 (7 + 14 * k + 6) 0) := by
                subst ex_19
                subst eB_18
                subst ex_12
                subst ex_11
                subst ex_10
                exact (if_pos c_13).trans ((if_neg c_14).trans ((if_pos c_15).trans ((if_neg c_20).trans rfl)))
              exact hlp_1 3 (bput B_18 1 (7 + 14 * k + 6) 0) (by rw [show (bput B_18 1 (7 + 14 * k + 6) 0) 1 (7 + 14 * k + 0) = B 1 (7 + 14 * k + 0) from (((((((bput_q (by omega)).trans ((congrFun (congrFun eB_18 _) _))).trans (bput_q (by omega))).trans (bput_q (by omega))).trans (bput_q (by omega))).trans (bput_q (by omega))).trans (bput_q (by omega))).trans (bput_j (by omega))]; exact hmi) (by rw [show (bput B_18 1 (7 + 14 * k + 6) 0) 1 (7 + 14 * k + 8) = B 1 (7 + 14 * k + 8) from (((((((bput_q (by omega)).trans ((congrFun (congrFun eB_18 _) _))).trans (bput_q (by omega))).trans (bput_q (by omega))).trans (bput_q (by omega))).trans (bput_q (by omega))).trans (bput_q (by omega))).trans (bput_j (by omega))]; exact hw) hf _ _ _ hW hS (lv_sub hl [2, 3] rfl)
          · exact absurd c_17 (by decide)
        · exact absurd c_16 (by decide)
      · skip
        refine lv_iconst (v := 0) hx hb dX7_steps_95 (by decide) ?_
        refine lv_goto (tgt := 100) hx hb dX7_steps_96 (by decide) ?_
        refine lv_isub hx hb dX7_steps_100 ?_
        refine wr_put (Z' := wset Z 12 (bput B 0 2 ((B 0 2) - 0))) (v := .int ((B 0 2) - 0)) hC hinRX7 tyX7 tyX7_ok nmX7 hW hS (vM (by decide)) ce_m0 rfl 8 (by decide) hk1 rfl (tyX7_ok 8 (by decide)) rfl rfl (Nat.le_of_ble_eq_true rfl) wset_off pu_m0_2 dX7_steps_101 (fun H locs hW hS => ?_)
        refine lv_aload_n hx hb dX7_steps_104 rfl (lv_at hl 2 rfl) ?_
        refine wr_get hC hinRX7 hW (vM (by decide)) ce_m0 rfl 0 (by decide) hk0 rfl dX7_steps_105 ?_
        refine lv_iload_n hx hb dX7_steps_108 rfl (lv_at hl 3 rfl) ?_
        refine lv_iconst (v := 2) hx hb dX7_steps_109 (by decide) ?_
        refine wc_s hC hml (kX7_at l G (wset Z 12 (bput B 0 2 ((B 0 2) - 0))) k 2) (cwS 2 hts gX7_steps_X7_at rfl rfl rfl (by decide +kernel) ⟨Nat.le_of_ble_eq_true rfl, Nat.le_of_ble_eq_true rfl⟩) hW hS rfl rfl hl.1 (Nat.le_of_ble_eq_true rfl) dX7_steps_110 (fun H locs hW hS => ?_)
        refine lv_re (y := nI (7 + 14 * k + 2)) rfl ?_
        refine lv_dup2_11 hx hb dX7_steps_113 rfl rfl ?_
        refine wr_ald (kA := 0) hC hW (vM (by decide)) ce_m1 rfl (vp_in_nI (show (7 + 14 * k + 2) < 100 by omega) (by decide)) dX7_steps_114 ?_
        refine lv_re (y := B 1 (7 + 14 * k + 2)) (((congrArg ((bput B 0 2 ((B 0 2) - 0)) 1) (nI_clamp (by omega)))).trans (bput_j (by omega))) ?_
        refine lv_iload_n hx hb dX7_steps_115 rfl (lv_at hl 1 rfl) ?_
        refine lv_iadd hx hb dX7_steps_116 ?_
        refine wr_ast (kA := 0) (Z' := wset Z 12 (bput (bput B 0 2 ((B 0 2) - 0)) 1 (nI (7 + 14 * k + 2)).toNatClampNeg ((B 1 (7 + 14 * k + 2)) + x_10))) hC hW hS (vM (by decide)) ce_m1 rfl (vp_in_nI (show (7 + 14 * k + 2) < 100 by omega) (by decide)) wset_off pu_m1 dX7_steps_117 (fun H locs hW hS => ?_)
        rw [nI_clamp (show (7 + 14 * k + 2) < 2 ^ 31 by omega)] at hW
        refine lv_aload_n hx hb dX7_steps_118 rfl (lv_at hl 2 rfl) ?_
        refine wr_get hC hinRX7 hW (vM (by decide)) ce_m0 rfl 0 (by decide) hk0 rfl dX7_steps_119 ?_
        refine lv_iload_n hx hb dX7_steps_122 rfl (lv_at hl 3 rfl) ?_
        refine lv_iconst (v := 3) hx hb dX7_steps_123 (by decide) ?_
        refine wc_s hC hml (kX7_at l G (wset Z 12 (bput (bput B 0 2 ((B 0 2) - 0)) 1 (7 + 14 * k + 2) ((B 1 (7 + 14 * k + 2)) + x_10))) k 3) (cwS 2 hts gX7_steps_X7_at rfl rfl rfl (by decide +kernel) ⟨Nat.le_of_ble_eq_true rfl, Nat.le_of_ble_eq_true rfl⟩) hW hS rfl rfl hl.1 (Nat.le_of_ble_eq_true rfl) dX7_steps_124 (fun H locs hW hS => ?_)
        refine lv_re (y := nI (7 + 14 * k + 3)) rfl ?_
        refine lv_dup2_11 hx hb dX7_steps_127 rfl rfl ?_
        refine wr_ald (kA := 0) hC hW (vM (by decide)) ce_m1 rfl (vp_in_nI (show (7 + 14 * k + 3) < 100 by omega) (by decide)) dX7_steps_128 ?_
        refine lv_re (y := B 1 (7 + 14 * k + 3)) ((((congrArg ((bput (bput B 0 2 ((B 0 2) - 0)) 1 (7 + 14 * k + 2) ((B 1 (7 + 14 * k + 2)) + x_10)) 1) (nI_clamp (by omega)))).trans (bput_q (by omega))).trans (bput_j (by omega))) ?_
        refine lv_iload_n hx hb dX7_steps_129 rfl (lv_at hl 0 rfl) ?_
        refine lv_if_eq (tgt := 137) hx hb dX7_steps_130 (by decide) (fun c_25 => ?_) (fun c_25 => ?_)
        · skip
          refine lv_iload_n hx hb dX7_steps_137 rfl (lv_at hl 1 rfl) ?_
          refine lv_iadd hx hb dX7_steps_138 ?_
          refine wr_ast (kA := 0) (Z' := wset Z 12 (bput (bput (bput B 0 2 ((B 0 2) - 0)) 1 (7 + 14 * k + 2) ((B 1 (7 + 14 * k + 2)) + x_10)) 1 (nI (7 + 14 * k + 3)).toNatClampNeg ((B 1 (7 + 14 * k + 3)) + x_10))) hC hW hS (vM (by decide)) ce_m1 rfl (vp_in_nI (show (7 + 14 * k + 3) < 100 by omega) (by decide)) wset_off pu_m1 dX7_steps_139 (fun H locs hW hS => ?_)
          rw [nI_clamp (show (7 + 14 * k + 3) < 2 ^ 31 by omega)] at hW
          refine lv_aload_n hx hb dX7_steps_140 rfl (lv_at hl 2 rfl) ?_
          refine wr_get hC hinRX7 hW (vM (by decide)) ce_m0 rfl 0 (by decide) hk0 rfl dX7_steps_141 ?_
          refine lv_iload_n hx hb dX7_steps_144 rfl (lv_at hl 3 rfl) ?_
          refine lv_bipush (v := 12) hx hb dX7_steps_145 (by decide) ?_
          refine wc_s hC hml (kX7_at l G (wset Z 12 (bput (bput (bput B 0 2 ((B 0 2) - 0)) 1 (7 + 14 * k + 2) ((B 1 (7 + 14 * k + 2)) + x_10)) 1 (7 + 14 * k + 3) ((B 1 (7 + 14 * k + 3)) + x_10))) k 12) (cwS 2 hts gX7_steps_X7_at rfl rfl rfl (by decide +kernel) ⟨Nat.le_of_ble_eq_true rfl, Nat.le_of_ble_eq_true rfl⟩) hW hS rfl rfl hl.1 (Nat.le_of_ble_eq_true rfl) dX7_steps_147 (fun H locs hW hS => ?_)
          refine lv_re (y := nI (7 + 14 * k + 12)) rfl ?_
          refine lv_dup2_11 hx hb dX7_steps_150 rfl rfl ?_
          refine wr_ald (kA := 0) hC hW (vM (by decide)) ce_m1 rfl (vp_in_nI (show (7 + 14 * k + 12) < 100 by omega) (by decide)) dX7_steps_151 ?_
          refine lv_re (y := B 1 (7 + 14 * k + 12)) (((((congrArg ((bput (bput (bput B 0 2 ((B 0 2) - 0)) 1 (7 + 14 * k + 2) ((B 1 (7 + 14 * k + 2)) + x_10)) 1 (7 + 14 * k + 3) ((B 1 (7 + 14 * k + 3)) + x_10)) 1) (nI_clamp (by omega)))).trans (bput_q (by omega))).trans (bput_q (by omega))).trans (bput_j (by omega))) ?_
          refine lv_iconst (v := 1) hx hb dX7_steps_152 (by decide) ?_
          refine lv_iadd hx hb dX7_steps_153 ?_
          refine wr_ast (kA := 0) (Z' := wset Z 12 (bput (bput (bput (bput B 0 2 ((B 0 2) - 0)) 1 (7 + 14 * k + 2) ((B 1 (7 + 14 * k + 2)) + x_10)) 1 (7 + 14 * k + 3) ((B 1 (7 + 14 * k + 3)) + x_10)) 1 (nI (7 + 14 * k + 12)).toNatClampNeg ((B 1 (7 + 14 * k + 12)) + 1))) hC hW hS (vM (by decide)) ce_m1 rfl (vp_in_nI (show (7 + 14 * k + 12) < 100 by omega) (by decide)) wset_off pu_m1 dX7_steps_154 (fun H locs hW hS => ?_)
          rw [nI_clamp (show (7 + 14 * k + 12) < 2 ^ 31 by omega)] at hW
          refine lv_aload_n hx hb dX7_steps_155 rfl (lv_at hl 2 rfl) ?_
          refine wr_get hC hinRX7 hW (vM (by decide)) ce_m0 rfl 0 (by decide) hk0 rfl dX7_steps_156 ?_
          refine lv_iload_n hx hb dX7_steps_159 rfl (lv_at hl 3 rfl) ?_
          refine lv_bipush (v := 13) hx hb dX7_steps_160 (by decide) ?_
          refine wc_s hC hml (kX7_at l G (wset Z 12 (bput (bput (bput (bput B 0 2 ((B 0 2) - 0)) 1 (7 + 14 * k + 2) ((B 1 (7 + 14 * k + 2)) + x_10)) 1 (7 + 14 * k + 3) ((B 1 (7 + 14 * k + 3)) + x_10)) 1 (7 + 14 * k + 12) ((B 1 (7 + 14 * k + 12)) + 1))) k 13) (cwS 2 hts gX7_steps_X7_at rfl rfl rfl (by decide +kernel) ⟨Nat.le_of_ble_eq_true rfl, Nat.le_of_ble_eq_true rfl⟩) hW hS rfl rfl hl.1 (Nat.le_of_ble_eq_true rfl) dX7_steps_162 (fun H locs hW hS => ?_)
          refine lv_re (y := nI (7 + 14 * k + 13)) rfl ?_
          refine lv_dup2_11 hx hb dX7_steps_165 rfl rfl ?_
          refine wr_ald (kA := 0) hC hW (vM (by decide)) ce_m1 rfl (vp_in_nI (show (7 + 14 * k + 13) < 100 by omega) (by decide)) dX7_steps_166 ?_
          refine lv_re (y := B 1 (7 + 14 * k + 13)) ((((((congrArg ((bput (bput (bput (bput B 0 2 ((B 0 2) - 0)) 1 (7 + 14 * k + 2) ((B 1 (7 + 14 * k + 2)) + x_10)) 1 (7 + 14 * k + 3) ((B 1 (7 + 14 * k + 3)) + x_10)) 1 (7 + 14 * k + 12) ((B 1 (7 + 14 * k + 12)) + 1)) 1) (nI_clamp (by omega)))).trans (bput_q (by omega))).trans (bput_q (by omega))).trans (bput_q (by omega))).trans (bput_j (by omega))) ?_
          refine lv_iload_n hx hb dX7_steps_167 rfl (lv_at hl 0 rfl) ?_
          refine lv_if_eq (tgt := 175) hx hb dX7_steps_168 (by decide) (fun c_26 => ?_) (fun c_26 => ?_)
          · skip
            refine lv_iconst (v := 0) hx hb dX7_steps_175 (by decide) ?_
            refine lv_iadd hx hb dX7_steps_176 ?_
            refine wr_ast (kA := 0) (Z' := wset Z 12 (bput (bput (bput (bput (bput B 0 2 ((B 0 2) - 0)) 1 (7 + 14 * k + 2) ((B 1 (7 + 14 * k + 2)) + x_10)) 1 (7 + 14 * k + 3) ((B 1 (7 + 14 * k + 3)) + x_10)) 1 (7 + 14 * k + 12) ((B 1 (7 + 14 * k + 12)) + 1)) 1 (nI (7 + 14 * k + 13)).toNatClampNeg ((B 1 (7 + 14 * k + 13)) + 0))) hC hW hS (vM (by decide)) ce_m1 rfl (vp_in_nI (show (7 + 14 * k + 13) < 100 by omega) (by decide)) wset_off pu_m1 dX7_steps_177 (fun H locs hW hS => ?_)
            rw [nI_clamp (show (7 + 14 * k + 13) < 2 ^ 31 by omega)] at hW
            refine lv_aload_n hx hb dX7_steps_178 rfl (lv_at hl 2 rfl) ?_
            refine wr_get hC hinRX7 hW (vM (by decide)) ce_m0 rfl 0 (by decide) hk0 rfl dX7_steps_179 ?_
            refine lv_iload_n hx hb dX7_steps_182 rfl (lv_at hl 3 rfl) ?_
            refine lv_iconst (v := 5) hx hb dX7_steps_183 (by decide) ?_
            refine wc_s hC hml (kX7_at l G (wset Z 12 (bput (bput (bput (bput (bput B 0 2 ((B 0 2) - 0)) 1 (7 + 14 * k + 2) ((B 1 (7 + 14 * k + 2)) + x_10)) 1 (7 + 14 * k + 3) ((B 1 (7 + 14 * k + 3)) + x_10)) 1 (7 + 14 * k + 12) ((B 1 (7 + 14 * k + 12)) + 1)) 1 (7 + 14 * k + 13) ((B 1 (7 + 14 * k + 13)) + 0))) k 5) (cwS 2 hts gX7_steps_X7_at rfl rfl rfl (by decide +kernel) ⟨Nat.le_of_ble_eq_true rfl, Nat.le_of_ble_eq_true rfl⟩) hW hS rfl rfl hl.1 (Nat.le_of_ble_eq_true rfl) dX7_steps_184 (fun H locs hW hS => ?_)
            refine lv_re (y := nI (7 + 14 * k + 5)) rfl ?_
            refine lv_dup2_11 hx hb dX7_steps_187 rfl rfl ?_
            refine wr_ald (kA := 0) hC hW (vM (by decide)) ce_m1 rfl (vp_in_nI (show (7 + 14 * k + 5) < 100 by omega) (by decide)) dX7_steps_188 ?_
            refine lv_re (y := B 1 (7 + 14 * k + 5)) (((((((congrArg ((bput (bput (bput (bput (bput B 0 2 ((B 0 2) - 0)) 1 (7 + 14 * k + 2) ((B 1 (7 + 14 * k + 2)) + x_10)) 1 (7 + 14 * k + 3) ((B 1 (7 + 14 * k + 3)) + x_10)) 1 (7 + 14 * k + 12) ((B 1 (7 + 14 * k + 12)) + 1)) 1 (7 + 14 * k + 13) ((B 1 (7 + 14 * k + 13)) + 0)) 1) (nI_clamp (by omega)))).trans (bput_q (by omega))).trans (bput_q (by omega))).trans (bput_q (by omega))).trans (bput_q (by omega))).trans (bput_j (by omega))) ?_
            refine lv_iconst (v := 1) hx hb dX7_steps_189 (by decide) ?_
            refine lv_isub hx hb dX7_steps_190 ?_
            refine wr_ast (kA := 0) (Z' := wset Z 12 (bput (bput (bput (bput (bput (bput B 0 2 ((B 0 2) - 0)) 1 (7 + 14 * k + 2) ((B 1 (7 + 14 * k + 2)) + x_10)) 1 (7 + 14 * k + 3) ((B 1 (7 + 14 * k + 3)) + x_10)) 1 (7 + 14 * k + 12) ((B 1 (7 + 14 * k + 12)) + 1)) 1 (7 + 14 * k + 13) ((B 1 (7 + 14 * k + 13)) + 0)) 1 (nI (7 + 14 * k + 5)).toNatClampNeg ((B 1 (7 + 14 * k + 5)) - 1))) hC hW hS (vM (by decide)) ce_m1 rfl (vp_in_nI (show (7 + 14 * k + 5) < 100 by omega) (by decide)) wset_off pu_m1 dX7_steps_191 (fun H locs hW hS => ?_)
            rw [nI_clamp (show (7 + 14 * k + 5) < 2 ^ 31 by omega)] at hW
            refine lv_aload_n hx hb dX7_steps_192 rfl (lv_at hl 2 rfl) ?_
            refine lv_iload_n hx hb dX7_steps_193 rfl (lv_at hl 3 rfl) ?_
            obtain ⟨B_27, eB_27⟩ : ∃ y, y = (bput (bput (bput (bput (bput (bput B 0 2 ((B 0 2) - 0)) 1 (7 + 14 * k + 2) ((B 1 (7 + 14 * k + 2)) + x_10)) 1 (7 + 14 * k + 3) ((B 1 (7 + 14 * k + 3)) + x_10)) 1 (7 + 14 * k + 12) ((B 1 (7 + 14 * k + 12)) + 1)) 1 (7 + 14 * k + 13) ((B 1 (7 + 14 * k + 13)) + 0)) 1 (7 + 14 * k + 5) ((B 1 (7 + 14 * k + 5)) - 1)) := ⟨_, rfl⟩
            rw [← eB_27] at hW
            refine wc_i hC hml (kX7_rests l G Z B_27 k (by first | assumption | omega)) (cwV 1 hts gX7_steps_X7_rests rfl rfl rfl (by decide +kernel) ⟨Nat.le_of_ble_eq_true rfl, Nat.le_of_ble_eq_true rfl⟩) hW hS (vM (by decide)) ce_m0 rfl rfl rfl rfl hl.1 (Nat.le_of_ble_eq_true rfl) dX7_steps_194 (fun H locs hW hS => ?_)
            refine lv_topi (fun x_28 ex_28 => ?_)
            refine lv_if_eq (tgt := 247) hx hb dX7_steps_197 (by decide) (fun c_29 => ?_) (fun c_29 => ?_)
            · skip
              refine lv_aload_n hx hb dX7_steps_247 rfl (lv_at hl 2 rfl) ?_
              refine wr_get hC hinRX7 hW (vM (by decide)) ce_m0 rfl 0 (by decide) hk0 rfl dX7_steps_248 ?_
              refine lv_iload_n hx hb dX7_steps_251 rfl (lv_at hl 3 rfl) ?_
              refine lv_bipush (v := 6) hx hb dX7_steps_252 (by decide) ?_
              refine wc_s hC hml (kX7_at l G (wset Z 12 B_27) k 6) (cwS 2 hts gX7_steps_X7_at rfl rfl rfl (by decide +kernel) ⟨Nat.le_of_ble_eq_true rfl, Nat.le_of_ble_eq_true rfl⟩) hW hS rfl rfl hl.1 (Nat.le_of_ble_eq_true rfl) dX7_steps_254 (fun H locs hW hS => ?_)
              refine lv_re (y := nI (7 + 14 * k + 6)) rfl ?_
              refine lv_aload_n hx hb dX7_steps_257 rfl (lv_at hl 2 rfl) ?_
              refine wr_get hC hinRX7 hW (vM (by decide)) ce_m0 rfl 0 (by decide) hk0 rfl dX7_steps_258 ?_
              refine lv_iload_n hx hb dX7_steps_261 rfl (lv_at hl 3 rfl) ?_
              refine lv_bipush (v := 6) hx hb dX7_steps_262 (by decide) ?_
              refine wc_s hC hml (kX7_at l G (wset Z 12 B_27) k 6) (cwS 2 hts gX7_steps_X7_at rfl rfl rfl (by decide +kernel) ⟨Nat.le_of_ble_eq_true rfl, Nat.le_of_ble_eq_true rfl⟩) hW hS rfl rfl hl.1 (Nat.le_of_ble_eq_true rfl) dX7_steps_264 (fun H locs hW hS => ?_)
              refine lv_re (y := nI (7 + 14 * k + 6)) rfl ?_
              refine wr_ald (kA := 0) hC hW (vM (by decide)) ce_m1 rfl (vp_in_nI (show (7 + 14 * k + 6) < 100 by omega) (by decide)) dX7_steps_267 ?_
              refine lv_re (y := B 1 (7 + 14 * k + 6)) (((((((((congrArg (B_27 1) (nI_clamp (by omega)))).trans ((congrFun (congrFun eB_27 _) _))).trans (bput_q (by omega))).trans (bput_q (by omega))).trans (bput_q (by omega))).trans (bput_q (by omega))).trans (bput_q (by omega))).trans (bput_j (by omega))) ?_
              refine lv_aload_n hx hb dX7_steps_268 rfl (lv_at hl 2 rfl) ?_
              refine wr_get hC hinRX7 hW (vM (by decide)) ce_m0 rfl 0 (by decide) hk0 rfl dX7_steps_269 ?_
              refine lv_iload_n hx hb dX7_steps_272 rfl (lv_at hl 3 rfl) ?_
              refine lv_iconst (v := 5) hx hb dX7_steps_273 (by decide) ?_
              refine wc_s hC hml (kX7_at l G (wset Z 12 B_27) k 5) (cwS 2 hts gX7_steps_X7_at rfl rfl rfl (by decide +kernel) ⟨Nat.le_of_ble_eq_true rfl, Nat.le_of_ble_eq_true rfl⟩) hW hS rfl rfl hl.1 (Nat.le_of_ble_eq_true rfl) dX7_steps_274 (fun H locs hW hS => ?_)
              refine lv_re (y := nI (7 + 14 * k + 5)) rfl ?_
              refine wr_ald (kA := 0) hC hW (vM (by decide)) ce_m1 rfl (vp_in_nI (show (7 + 14 * k + 5) < 100 by omega) (by decide)) dX7_steps_277 ?_
              refine lv_re (y := (B 1 (7 + 14 * k + 5)) - 1) ((((congrArg (B_27 1) (nI_clamp (by omega)))).trans ((congrFun (congrFun eB_27 _) _))).trans (bput_h)) ?_
              refine lv_aload_n hx hb dX7_steps_278 rfl (lv_at hl 2 rfl) ?_
              refine lv_aload_n hx hb dX7_steps_279 rfl (lv_at hl 2 rfl) ?_
              refine wr_get hC hinRX7 hW (vM (by decide)) ce_m0 rfl 0 (by decide) hk0 rfl dX7_steps_280 ?_
              refine lv_iconst (v := 2) hx hb dX7_steps_283 (by decide) ?_
              refine wr_ald (kA := 0) hC hW (vM (by decide)) ce_m1 rfl (vp_in_iff.mpr (by decide)) dX7_steps_284 ?_
              refine lv_re (y := B 1 2) (((((((((congrArg (B_27 1) (show (2 : Int32).toNatClampNeg = 2 by decide))).trans ((congrFun (congrFun eB_27 _) _))).trans (bput_q (by omega))).trans (bput_q (by omega))).trans (bput_q (by omega))).trans (bput_q (by omega))).trans (bput_q (by omega))).trans (bput_j (by omega))) ?_
              refine wc_i hC hml (kX7_highestBy l G Z B_27 (B 1 2) (by first | assumption | omega)) (cwV 1 hts gX7_steps_X7_highestBy rfl rfl rfl (by decide +kernel) ⟨Nat.le_of_ble_eq_true rfl, Nat.le_of_ble_eq_true rfl⟩) hW hS (vM (by decide)) ce_m0 rfl rfl rfl rfl hl.1 (Nat.le_of_ble_eq_true rfl) dX7_steps_285 (fun H locs hW hS => ?_)
              refine lv_topi (fun x_30 ex_30 => ?_)
              refine wc_s hC hml (kX7_nextLevel l G (wset Z 12 B_27) (B 1 (7 + 14 * k + 6)) ((B 1 (7 + 14 * k + 5)) - 1) x_30) (cwS 3 hts gX7_steps_X7_nextLevel rfl rfl rfl (by decide +kernel) ⟨Nat.le_of_ble_eq_true rfl, Nat.le_of_ble_eq_true rfl⟩) hW hS rfl rfl hl.1 (Nat.le_of_ble_eq_true rfl) dX7_steps_288 (fun H locs hW hS => ?_)
              refine lv_topi (fun x_31 ex_31 => ?_)
              refine wr_ast (kA := 0) (Z' := wset Z 12 (bput B_27 1 (nI (7 + 14 * k + 6)).toNatClampNeg x_31)) hC hW hS (vM (by decide)) ce_m1 rfl (vp_in_nI (show (7 + 14 * k + 6) < 100 by omega) (by decide)) wset_off pu_m1 dX7_steps_291 (fun H locs hW hS => ?_)
              rw [nI_clamp (show (7 + 14 * k + 6) < 2 ^ 31 by omega)] at hW
              refine lv_aload_n hx hb dX7_steps_292 rfl (lv_at hl 2 rfl) ?_
              refine wr_get hC hinRX7 hW (vM (by decide)) ce_m0 rfl 0 (by decide) hk0 rfl dX7_steps_293 ?_
              refine lv_iload_n hx hb dX7_steps_296 rfl (lv_at hl 3 rfl) ?_
              refine lv_bipush (v := 7) hx hb dX7_steps_297 (by decide) ?_
              refine wc_s hC hml (kX7_at l G (wset Z 12 (bput B_27 1 (7 + 14 * k + 6) x_31)) k 7) (cwS 2 hts gX7_steps_X7_at rfl rfl rfl (by decide +kernel) ⟨Nat.le_of_ble_eq_true rfl, Nat.le_of_ble_eq_true rfl⟩) hW hS rfl rfl hl.1 (Nat.le_of_ble_eq_true rfl) dX7_steps_299 (fun H locs hW hS => ?_)
              refine lv_re (y := nI (7 + 14 * k + 7)) rfl ?_
              refine lv_aload_n hx hb dX7_steps_302 rfl (lv_at hl 2 rfl) ?_
              refine wr_get hC hinRX7 hW (vM (by decide)) ce_m0 rfl 0 (by decide) hk0 rfl dX7_steps_303 ?_
              refine lv_iconst (v := 5) hx hb dX7_steps_306 (by decide) ?_
              refine wr_ald (kA := 0) hC hW (vM (by decide)) ce_m1 rfl (vp_in_iff.mpr (by decide)) dX7_steps_307 ?_
              refine lv_re (y := B 1 5) ((((((((((congrArg ((bput B_27 1 (7 + 14 * k + 6) x_31) 1) (show (5 : Int32).toNatClampNeg = 5 by decide))).trans (bput_q (by omega))).trans ((congrFun (congrFun eB_27 _) _))).trans (bput_q (by omega))).trans (bput_q (by omega))).trans (bput_q (by omega))).trans (bput_q (by omega))).trans (bput_q (by omega))).trans (bput_q (by decide))) ?_
              refine lv_aload_n hx hb dX7_steps_308 rfl (lv_at hl 2 rfl) ?_
              refine lv_aload_n hx hb dX7_steps_309 rfl (lv_at hl 2 rfl) ?_
              refine wr_get hC hinRX7 hW (vM (by decide)) ce_m0 rfl 0 (by decide) hk0 rfl dX7_steps_310 ?_
              refine lv_iload_n hx hb dX7_steps_313 rfl (lv_at hl 3 rfl) ?_
              refine lv_bipush (v := 6) hx hb dX7_steps_314 (by decide) ?_
              refine wc_s hC hml (kX7_at l G (wset Z 12 (bput B_27 1 (7 + 14 * k + 6) x_31)) k 6) (cwS 2 hts gX7_steps_X7_at rfl rfl rfl (by decide +kernel) ⟨Nat.le_of_ble_eq_true rfl, Nat.le_of_ble_eq_true rfl⟩) hW hS rfl rfl hl.1 (Nat.le_of_ble_eq_true rfl) dX7_steps_316 (fun H locs hW hS => ?_)
              refine lv_re (y := nI (7 + 14 * k + 6)) rfl ?_
              refine wr_ald (kA := 0) hC hW (vM (by decide)) ce_m1 rfl (vp_in_nI (show (7 + 14 * k + 6) < 100 by omega) (by decide)) dX7_steps_319 ?_
              refine lv_re (y := x_31) (((congrArg ((bput B_27 1 (7 + 14 * k + 6) x_31) 1) (nI_clamp (by omega)))).trans (bput_h)) ?_
              refine lv_aload_n hx hb dX7_steps_320 rfl (lv_at hl 2 rfl) ?_
              refine wr_get hC hinRX7 hW (vM (by decide)) ce_m0 rfl 0 (by decide) hk0 rfl dX7_steps_321 ?_
              refine lv_iconst (v := 2) hx hb dX7_steps_324 (by decide) ?_
              refine wr_ald (kA := 0) hC hW (vM (by decide)) ce_m1 rfl (vp_in_iff.mpr (by decide)) dX7_steps_325 ?_
              refine lv_re (y := B 1 2) ((((((((((congrArg ((bput B_27 1 (7 + 14 * k + 6) x_31) 1) (show (2 : Int32).toNatClampNeg = 2 by decide))).trans (bput_q (by omega))).trans ((congrFun (congrFun eB_27 _) _))).trans (bput_q (by omega))).trans (bput_q (by omega))).trans (bput_q (by omega))).trans (bput_q (by omega))).trans (bput_q (by omega))).trans (bput_j (by omega))) ?_
              obtain ⟨B_32, eB_32⟩ : ∃ y, y = (bput B_27 1 (7 + 14 * k + 6) x_31) := ⟨_, rfl⟩
              rw [← eB_32] at hW
              refine wc_i hC hml (kX7_intervalBy l G Z B_32 x_31 (B 1 2)) (cwV 2 hts gX7_steps_X7_intervalBy rfl rfl rfl (by decide +kernel) ⟨Nat.le_of_ble_eq_true rfl, Nat.le_of_ble_eq_true rfl⟩) hW hS (vM (by decide)) ce_m0 rfl rfl rfl rfl hl.1 (Nat.le_of_ble_eq_true rfl) dX7_steps_326 (fun H locs hW hS => ?_)
              refine lv_topi (fun x_33 ex_33 => ?_)
              refine lv_iadd hx hb dX7_steps_329 ?_
              refine wr_ast (kA := 0) (Z' := wset Z 12 (bput B_32 1 (nI (7 + 14 * k + 7)).toNatClampNeg ((B 1 5) + x_33))) hC hW hS (vM (by decide)) ce_m1 rfl (vp_in_nI (show (7 + 14 * k + 7) < 100 by omega) (by decide)) wset_off pu_m1 dX7_steps_330 (fun H locs hW hS => ?_)
              rw [nI_clamp (show (7 + 14 * k + 7) < 2 ^ 31 by omega)] at hW
              have hf : fX7_steps B k = (bput B_32 1 (7 + 14 * k + 7) ((B 1 5) + x_33)) := by
                subst ex_33
                subst eB_32
                subst ex_31
                subst ex_30
                subst ex_28
                subst eB_27
                subst ex_12
                subst ex_11
                subst ex_10
                exact (if_pos c_13).trans ((if_neg c_14).trans ((if_neg c_15).trans ((if_pos c_29).trans rfl)))
              exact we_v hC hr hlocks (congrArg (wset Z 12) hf).symm hW hS dX7_steps_331
            · skip
              refine lv_aload_n hx hb dX7_steps_200 rfl (lv_at hl 2 rfl) ?_
              refine wr_get hC hinRX7 hW (vM (by decide)) ce_m0 rfl 0 (by decide) hk0 rfl dX7_steps_201 ?_
              refine lv_iload_n hx hb dX7_steps_204 rfl (lv_at hl 3 rfl) ?_
              refine lv_bipush (v := 6) hx hb dX7_steps_205 (by decide) ?_
              refine wc_s hC hml (kX7_at l G (wset Z 12 B_27) k 6) (cwS 2 hts gX7_steps_X7_at rfl rfl rfl (by decide +kernel) ⟨Nat.le_of_ble_eq_true rfl, Nat.le_of_ble_eq_true rfl⟩) hW hS rfl rfl hl.1 (Nat.le_of_ble_eq_true rfl) dX7_steps_207 (fun H locs hW hS => ?_)
              refine lv_re (y := nI (7 + 14 * k + 6)) rfl ?_
              refine lv_iconst (v := 0) hx hb dX7_steps_210 (by decide) ?_
              refine wr_ast (kA := 0) (Z' := wset Z 12 (bput B_27 1 (nI (7 + 14 * k + 6)).toNatClampNeg 0)) hC hW hS (vM (by decide)) ce_m1 rfl (vp_in_nI (show (7 + 14 * k + 6) < 100 by omega) (by decide)) wset_off pu_m1 dX7_steps_211 (fun H locs hW hS => ?_)
              rw [nI_clamp (show (7 + 14 * k + 6) < 2 ^ 31 by omega)] at hW
              have hf : fX7_steps B k = LX7_sw k 3 (bput B_27 1 (7 + 14 * k + 6) 0) := by
                subst ex_28
                subst eB_27
                subst ex_12
                subst ex_11
                subst ex_10
                exact (if_pos c_13).trans ((if_neg c_14).trans ((if_neg c_15).trans ((if_neg c_29).trans rfl)))
              exact hlp_1 3 (bput B_27 1 (7 + 14 * k + 6) 0) (by rw [show (bput B_27 1 (7 + 14 * k + 6) 0) 1 (7 + 14 * k + 0) = B 1 (7 + 14 * k + 0) from (((((((bput_q (by omega)).trans ((congrFun (congrFun eB_27 _) _))).trans (bput_q (by omega))).trans (bput_q (by omega))).trans (bput_q (by omega))).trans (bput_q (by omega))).trans (bput_q (by omega))).trans (bput_j (by omega))]; exact hmi) (by rw [show (bput B_27 1 (7 + 14 * k + 6) 0) 1 (7 + 14 * k + 8) = B 1 (7 + 14 * k + 8) from (((((((bput_q (by omega)).trans ((congrFun (congrFun eB_27 _) _))).trans (bput_q (by omega))).trans (bput_q (by omega))).trans (bput_q (by omega))).trans (bput_q (by omega))).trans (bput_q (by omega))).trans (bput_j (by omega))]; exact hw) hf _ _ _ hW hS (lv_sub hl [2, 3] rfl)
          · exact absurd c_26 (by decide)
        · exact absurd c_25 (by decide)
    · skip
      refine lv_aload_n hx hb dX7_steps_73 rfl (lv_at hl 2 rfl) ?_
      refine lv_iload_n hx hb dX7_steps_74 rfl (lv_at hl 3 rfl) ?_
      refine wr_put (Z' := wset Z 12 (bput B 0 3 (nI k))) (v := .int (nI k)) hC hinRX7 tyX7 tyX7_ok nmX7 hW hS (vM (by decide)) ce_m0 rfl 9 (by decide) hk2 rfl (tyX7_ok 9 (by decide)) rfl rfl (Nat.le_of_ble_eq_true rfl) wset_off pu_m0_3 dX7_steps_75 (fun H locs hW hS => ?_)
      refine lv_aload_n hx hb dX7_steps_78 rfl (lv_at hl 2 rfl) ?_
      refine lv_iload_n hx hb dX7_steps_79 rfl (lv_at hl 0 rfl) ?_
      refine wr_put (Z' := wset Z 12 (bput (bput B 0 3 (nI k)) 0 4 0)) (v := .int 0) hC hinRX7 tyX7 tyX7_ok nmX7 hW hS (vM (by decide)) ce_m0 rfl 10 (by decide) hk3 rfl (tyX7_ok 10 (by decide)) (by first | rfl | decide | assumption) (by first | rfl | decide) (Nat.le_of_ble_eq_true rfl) wset_off pu_m0_4 dX7_steps_80 (fun H locs hW hS => ?_)
      refine lv_aload_n hx hb dX7_steps_83 rfl (lv_at hl 2 rfl) ?_
      refine lv_dup hx hb dX7_steps_84 rfl ?_
      refine wr_get hC hinRX7 hW (vM (by decide)) ce_m0 rfl 8 (by decide) hk1 rfl dX7_steps_85 ?_
      refine lv_re (y := B 0 2) ((bput_q (by decide)).trans (bput_q (by decide))) ?_
      refine lv_aload_n hx hb dX7_steps_88 rfl (lv_at hl 2 rfl) ?_
      refine wr_get hC hinRX7 hW (vM (by decide)) ce_m0 rfl 8 (by decide) hk1 rfl dX7_steps_89 ?_
      refine lv_re (y := B 0 2) ((bput_q (by decide)).trans (bput_q (by decide))) ?_
      refine lv_if_ge (tgt := 99) hx hb dX7_steps_92 (by decide) (fun c_34 => ?_) (fun c_34 => ?_)
      · skip
        refine lv_iconst (v := 1) hx hb dX7_steps_99 (by decide) ?_
        refine lv_isub hx hb dX7_steps_100 ?_
        refine wr_put (Z' := wset Z 12 (bput (bput (bput B 0 3 (nI k)) 0 4 0) 0 2 ((B 0 2) - 1))) (v := .int ((B 0 2) - 1)) hC hinRX7 tyX7 tyX7_ok nmX7 hW hS (vM (by decide)) ce_m0 rfl 8 (by decide) hk1 rfl (tyX7_ok 8 (by decide)) rfl rfl (Nat.le_of_ble_eq_true rfl) wset_off pu_m0_2 dX7_steps_101 (fun H locs hW hS => ?_)
        refine lv_aload_n hx hb dX7_steps_104 rfl (lv_at hl 2 rfl) ?_
        refine wr_get hC hinRX7 hW (vM (by decide)) ce_m0 rfl 0 (by decide) hk0 rfl dX7_steps_105 ?_
        refine lv_iload_n hx hb dX7_steps_108 rfl (lv_at hl 3 rfl) ?_
        refine lv_iconst (v := 2) hx hb dX7_steps_109 (by decide) ?_
        refine wc_s hC hml (kX7_at l G (wset Z 12 (bput (bput (bput B 0 3 (nI k)) 0 4 0) 0 2 ((B 0 2) - 1))) k 2) (cwS 2 hts gX7_steps_X7_at rfl rfl rfl (by decide +kernel) ⟨Nat.le_of_ble_eq_true rfl, Nat.le_of_ble_eq_true rfl⟩) hW hS rfl rfl hl.1 (Nat.le_of_ble_eq_true rfl) dX7_steps_110 (fun H locs hW hS => ?_)
        refine lv_re (y := nI (7 + 14 * k + 2)) rfl ?_
        refine lv_dup2_11 hx hb dX7_steps_113 rfl rfl ?_
        refine wr_ald (kA := 0) hC hW (vM (by decide)) ce_m1 rfl (vp_in_nI (show (7 + 14 * k + 2) < 100 by omega) (by decide)) dX7_steps_114 ?_
        refine lv_re (y := B 1 (7 + 14 * k + 2)) (((((congrArg ((bput (bput (bput B 0 3 (nI k)) 0 4 0) 0 2 ((B 0 2) - 1)) 1) (nI_clamp (by omega)))).trans (bput_j (by omega))).trans (bput_j (by omega))).trans (bput_j (by omega))) ?_
        refine lv_iload_n hx hb dX7_steps_115 rfl (lv_at hl 1 rfl) ?_
        refine lv_iadd hx hb dX7_steps_116 ?_
        refine wr_ast (kA := 0) (Z' := wset Z 12 (bput (bput (bput (bput B 0 3 (nI k)) 0 4 0) 0 2 ((B 0 2) - 1)) 1 (nI (7 + 14 * k + 2)).toNatClampNeg ((B 1 (7 + 14 * k + 2)) + x_10))) hC hW hS (vM (by decide)) ce_m1 rfl (vp_in_nI (show (7 + 14 * k + 2) < 100 by omega) (by decide)) wset_off pu_m1 dX7_steps_117 (fun H locs hW hS => ?_)
        rw [nI_clamp (show (7 + 14 * k + 2) < 2 ^ 31 by omega)] at hW
        refine lv_aload_n hx hb dX7_steps_118 rfl (lv_at hl 2 rfl) ?_
        refine wr_get hC hinRX7 hW (vM (by decide)) ce_m0 rfl 0 (by decide) hk0 rfl dX7_steps_119 ?_
        refine lv_iload_n hx hb dX7_steps_122 rfl (lv_at hl 3 rfl) ?_
        refine lv_iconst (v := 3) hx hb dX7_steps_123 (by decide) ?_
        refine wc_s hC hml (kX7_at l G (wset Z 12 (bput (bput (bput (bput B 0 3 (nI k)) 0 4 0) 0 2 ((B 0 2) - 1)) 1 (7 + 14 * k + 2) ((B 1 (7 + 14 * k + 2)) + x_10))) k 3) (cwS 2 hts gX7_steps_X7_at rfl rfl rfl (by decide +kernel) ⟨Nat.le_of_ble_eq_true rfl, Nat.le_of_ble_eq_true rfl⟩) hW hS rfl rfl hl.1 (Nat.le_of_ble_eq_true rfl) dX7_steps_124 (fun H locs hW hS => ?_)
        refine lv_re (y := nI (7 + 14 * k + 3)) rfl ?_
        refine lv_dup2_11 hx hb dX7_steps_127 rfl rfl ?_
        refine wr_ald (kA := 0) hC hW (vM (by decide)) ce_m1 rfl (vp_in_nI (show (7 + 14 * k + 3) < 100 by omega) (by decide)) dX7_steps_128 ?_
        refine lv_re (y := B 1 (7 + 14 * k + 3)) ((((((congrArg ((bput (bput (bput (bput B 0 3 (nI k)) 0 4 0) 0 2 ((B 0 2) - 1)) 1 (7 + 14 * k + 2) ((B 1 (7 + 14 * k + 2)) + x_10)) 1) (nI_clamp (by omega)))).trans (bput_q (by omega))).trans (bput_j (by omega))).trans (bput_j (by omega))).trans (bput_j (by omega))) ?_
        refine lv_iload_n hx hb dX7_steps_129 rfl (lv_at hl 0 rfl) ?_
        refine lv_if_eq (tgt := 137) hx hb dX7_steps_130 (by decide) (fun c_35 => ?_) (fun c_35 => ?_)
        · skip
          refine lv_iload_n hx hb dX7_steps_137 rfl (lv_at hl 1 rfl) ?_
          refine lv_iadd hx hb dX7_steps_138 ?_
          refine wr_ast (kA := 0) (Z' := wset Z 12 (bput (bput (bput (bput (bput B 0 3 (nI k)) 0 4 0) 0 2 ((B 0 2) - 1)) 1 (7 + 14 * k + 2) ((B 1 (7 + 14 * k + 2)) + x_10)) 1 (nI (7 + 14 * k + 3)).toNatClampNeg ((B 1 (7 + 14 * k + 3)) + x_10))) hC hW hS (vM (by decide)) ce_m1 rfl (vp_in_nI (show (7 + 14 * k + 3) < 100 by omega) (by decide)) wset_off pu_m1 dX7_steps_139 (fun H locs hW hS => ?_)
          rw [nI_clamp (show (7 + 14 * k + 3) < 2 ^ 31 by omega)] at hW
          refine lv_aload_n hx hb dX7_steps_140 rfl (lv_at hl 2 rfl) ?_
          refine wr_get hC hinRX7 hW (vM (by decide)) ce_m0 rfl 0 (by decide) hk0 rfl dX7_steps_141 ?_
          refine lv_iload_n hx hb dX7_steps_144 rfl (lv_at hl 3 rfl) ?_
          refine lv_bipush (v := 12) hx hb dX7_steps_145 (by decide) ?_
          refine wc_s hC hml (kX7_at l G (wset Z 12 (bput (bput (bput (bput (bput B 0 3 (nI k)) 0 4 0) 0 2 ((B 0 2) - 1)) 1 (7 + 14 * k + 2) ((B 1 (7 + 14 * k + 2)) + x_10)) 1 (7 + 14 * k + 3) ((B 1 (7 + 14 * k + 3)) + x_10))) k 12) (cwS 2 hts gX7_steps_X7_at rfl rfl rfl (by decide +kernel) ⟨Nat.le_of_ble_eq_true rfl, Nat.le_of_ble_eq_true rfl⟩) hW hS rfl rfl hl.1 (Nat.le_of_ble_eq_true rfl) dX7_steps_147 (fun H locs hW hS => ?_)
          refine lv_re (y := nI (7 + 14 * k + 12)) rfl ?_
          refine lv_dup2_11 hx hb dX7_steps_150 rfl rfl ?_
          refine wr_ald (kA := 0) hC hW (vM (by decide)) ce_m1 rfl (vp_in_nI (show (7 + 14 * k + 12) < 100 by omega) (by decide)) dX7_steps_151 ?_
          refine lv_re (y := B 1 (7 + 14 * k + 12)) (((((((congrArg ((bput (bput (bput (bput (bput B 0 3 (nI k)) 0 4 0) 0 2 ((B 0 2) - 1)) 1 (7 + 14 * k + 2) ((B 1 (7 + 14 * k + 2)) + x_10)) 1 (7 + 14 * k + 3) ((B 1 (7 + 14 * k + 3)) + x_10)) 1) (nI_clamp (by omega)))).trans (bput_q (by omega))).trans (bput_q (by omega))).trans (bput_j (by omega))).trans (bput_j (by omega))).trans (bput_j (by omega))) ?_
          refine lv_iconst (v := 1) hx hb dX7_steps_152 (by decide) ?_
          refine lv_iadd hx hb dX7_steps_153 ?_
          refine wr_ast (kA := 0) (Z' := wset Z 12 (bput (bput (bput (bput (bput (bput B 0 3 (nI k)) 0 4 0) 0 2 ((B 0 2) - 1)) 1 (7 + 14 * k + 2) ((B 1 (7 + 14 * k + 2)) + x_10)) 1 (7 + 14 * k + 3) ((B 1 (7 + 14 * k + 3)) + x_10)) 1 (nI (7 + 14 * k + 12)).toNatClampNeg ((B 1 (7 + 14 * k + 12)) + 1))) hC hW hS (vM (by decide)) ce_m1 rfl (vp_in_nI (show (7 + 14 * k + 12) < 100 by omega) (by decide)) wset_off pu_m1 dX7_steps_154 (fun H locs hW hS => ?_)
          rw [nI_clamp (show (7 + 14 * k + 12) < 2 ^ 31 by omega)] at hW
          refine lv_aload_n hx hb dX7_steps_155 rfl (lv_at hl 2 rfl) ?_
          refine wr_get hC hinRX7 hW (vM (by decide)) ce_m0 rfl 0 (by decide) hk0 rfl dX7_steps_156 ?_
          refine lv_iload_n hx hb dX7_steps_159 rfl (lv_at hl 3 rfl) ?_
          refine lv_bipush (v := 13) hx hb dX7_steps_160 (by decide) ?_
          refine wc_s hC hml (kX7_at l G (wset Z 12 (bput (bput (bput (bput (bput (bput B 0 3 (nI k)) 0 4 0) 0 2 ((B 0 2) - 1)) 1 (7 + 14 * k + 2) ((B 1 (7 + 14 * k + 2)) + x_10)) 1 (7 + 14 * k + 3) ((B 1 (7 + 14 * k + 3)) + x_10)) 1 (7 + 14 * k + 12) ((B 1 (7 + 14 * k + 12)) + 1))) k 13) (cwS 2 hts gX7_steps_X7_at rfl rfl rfl (by decide +kernel) ⟨Nat.le_of_ble_eq_true rfl, Nat.le_of_ble_eq_true rfl⟩) hW hS rfl rfl hl.1 (Nat.le_of_ble_eq_true rfl) dX7_steps_162 (fun H locs hW hS => ?_)
          refine lv_re (y := nI (7 + 14 * k + 13)) rfl ?_
          refine lv_dup2_11 hx hb dX7_steps_165 rfl rfl ?_
          refine wr_ald (kA := 0) hC hW (vM (by decide)) ce_m1 rfl (vp_in_nI (show (7 + 14 * k + 13) < 100 by omega) (by decide)) dX7_steps_166 ?_
          refine lv_re (y := B 1 (7 + 14 * k + 13)) ((((((((congrArg ((bput (bput (bput (bput (bput (bput B 0 3 (nI k)) 0 4 0) 0 2 ((B 0 2) - 1)) 1 (7 + 14 * k + 2) ((B 1 (7 + 14 * k + 2)) + x_10)) 1 (7 + 14 * k + 3) ((B 1 (7 + 14 * k + 3)) + x_10)) 1 (7 + 14 * k + 12) ((B 1 (7 + 14 * k + 12)) + 1)) 1) (nI_clamp (by omega)))).trans (bput_q (by omega))).trans (bput_q (by omega))).trans (bput_q (by omega))).trans (bput_j (by omega))).trans (bput_j (by omega))).trans (bput_j (by omega))) ?_
          refine lv_iload_n hx hb dX7_steps_167 rfl (lv_at hl 0 rfl) ?_
          refine lv_if_eq (tgt := 175) hx hb dX7_steps_168 (by decide) (fun c_36 => ?_) (fun c_36 => ?_)
          · skip
            refine lv_iconst (v := 0) hx hb dX7_steps_175 (by decide) ?_
            refine lv_iadd hx hb dX7_steps_176 ?_
            refine wr_ast (kA := 0) (Z' := wset Z 12 (bput (bput (bput (bput (bput (bput (bput B 0 3 (nI k)) 0 4 0) 0 2 ((B 0 2) - 1)) 1 (7 + 14 * k + 2) ((B 1 (7 + 14 * k + 2)) + x_10)) 1 (7 + 14 * k + 3) ((B 1 (7 + 14 * k + 3)) + x_10)) 1 (7 + 14 * k + 12) ((B 1 (7 + 14 * k + 12)) + 1)) 1 (nI (7 + 14 * k + 13)).toNatClampNeg ((B 1 (7 + 14 * k + 13)) + 0))) hC hW hS (vM (by decide)) ce_m1 rfl (vp_in_nI (show (7 + 14 * k + 13) < 100 by omega) (by decide)) wset_off pu_m1 dX7_steps_177 (fun H locs hW hS => ?_)
            rw [nI_clamp (show (7 + 14 * k + 13) < 2 ^ 31 by omega)] at hW
            refine lv_aload_n hx hb dX7_steps_178 rfl (lv_at hl 2 rfl) ?_
            refine wr_get hC hinRX7 hW (vM (by decide)) ce_m0 rfl 0 (by decide) hk0 rfl dX7_steps_179 ?_
            refine lv_iload_n hx hb dX7_steps_182 rfl (lv_at hl 3 rfl) ?_
            refine lv_iconst (v := 5) hx hb dX7_steps_183 (by decide) ?_
            refine wc_s hC hml (kX7_at l G (wset Z 12 (bput (bput (bput (bput (bput (bput (bput B 0 3 (nI k)) 0 4 0) 0 2 ((B 0 2) - 1)) 1 (7 + 14 * k + 2) ((B 1 (7 + 14 * k + 2)) + x_10)) 1 (7 + 14 * k + 3) ((B 1 (7 + 14 * k + 3)) + x_10)) 1 (7 + 14 * k + 12) ((B 1 (7 + 14 * k + 12)) + 1)) 1 (7 + 14 * k + 13) ((B 1 (7 + 14 * k + 13)) + 0))) k 5) (cwS 2 hts gX7_steps_X7_at rfl rfl rfl (by decide +kernel) ⟨Nat.le_of_ble_eq_true rfl, Nat.le_of_ble_eq_true rfl⟩) hW hS rfl rfl hl.1 (Nat.le_of_ble_eq_true rfl) dX7_steps_184 (fun H locs hW hS => ?_)
            refine lv_re (y := nI (7 + 14 * k + 5)) rfl ?_
            refine lv_dup2_11 hx hb dX7_steps_187 rfl rfl ?_
            refine wr_ald (kA := 0) hC hW (vM (by decide)) ce_m1 rfl (vp_in_nI (show (7 + 14 * k + 5) < 100 by omega) (by decide)) dX7_steps_188 ?_
            refine lv_re (y := B 1 (7 + 14 * k + 5)) (((((((((congrArg ((bput (bput (bput (bput (bput (bput (bput B 0 3 (nI k)) 0 4 0) 0 2 ((B 0 2) - 1)) 1 (7 + 14 * k + 2) ((B 1 (7 + 14 * k + 2)) + x_10)) 1 (7 + 14 * k + 3) ((B 1 (7 + 14 * k + 3)) + x_10)) 1 (7 + 14 * k + 12) ((B 1 (7 + 14 * k + 12)) + 1)) 1 (7 + 14 * k + 13) ((B 1 (7 + 14 * k + 13)) + 0)) 1) (nI_clamp (by omega)))).trans (bput_q (by omega))).trans (bput_q (by omega))).trans (bput_q (by omega))).trans (bput_q (by omega))).trans (bput_j (by omega))).trans (bput_j (by omega))).trans (bput_j (by omega))) ?_
            refine lv_iconst (v := 1) hx hb dX7_steps_189 (by decide) ?_
            refine lv_isub hx hb dX7_steps_190 ?_
            refine wr_ast (kA := 0) (Z' := wset Z 12 (bput (bput (bput (bput (bput (bput (bput (bput B 0 3 (nI k)) 0 4 0) 0 2 ((B 0 2) - 1)) 1 (7 + 14 * k + 2) ((B 1 (7 + 14 * k + 2)) + x_10)) 1 (7 + 14 * k + 3) ((B 1 (7 + 14 * k + 3)) + x_10)) 1 (7 + 14 * k + 12) ((B 1 (7 + 14 * k + 12)) + 1)) 1 (7 + 14 * k + 13) ((B 1 (7 + 14 * k + 13)) + 0)) 1 (nI (7 + 14 * k + 5)).toNatClampNeg ((B 1 (7 + 14 * k + 5)) - 1))) hC hW hS (vM (by decide)) ce_m1 rfl (vp_in_nI (show (7 + 14 * k + 5) < 100 by omega) (by decide)) wset_off pu_m1 dX7_steps_191 (fun H locs hW hS => ?_)
            rw [nI_clamp (show (7 + 14 * k + 5) < 2 ^ 31 by omega)] at hW
            refine lv_aload_n hx hb dX7_steps_192 rfl (lv_at hl 2 rfl) ?_
            refine lv_iload_n hx hb dX7_steps_193 rfl (lv_at hl 3 rfl) ?_
            obtain ⟨B_37, eB_37⟩ : ∃ y, y = (bput (bput (bput (bput (bput (bput (bput (bput B 0 3 (nI k)) 0 4 0) 0 2 ((B 0 2) - 1)) 1 (7 + 14 * k + 2) ((B 1 (7 + 14 * k + 2)) + x_10)) 1 (7 + 14 * k + 3) ((B 1 (7 + 14 * k + 3)) + x_10)) 1 (7 + 14 * k + 12) ((B 1 (7 + 14 * k + 12)) + 1)) 1 (7 + 14 * k + 13) ((B 1 (7 + 14 * k + 13)) + 0)) 1 (7 + 14 * k + 5) ((B 1 (7 + 14 * k + 5)) - 1)) := ⟨_, rfl⟩
            rw [← eB_37] at hW
            refine wc_i hC hml (kX7_rests l G Z B_37 k (by first | assumption | omega)) (cwV 1 hts gX7_steps_X7_rests rfl rfl rfl (by decide +kernel) ⟨Nat.le_of_ble_eq_true rfl, Nat.le_of_ble_eq_true rfl⟩) hW hS (vM (by decide)) ce_m0 rfl rfl rfl rfl hl.1 (Nat.le_of_ble_eq_true rfl) dX7_steps_194 (fun H locs hW hS => ?_)
            refine lv_topi (fun x_38 ex_38 => ?_)
            refine lv_if_eq (tgt := 247) hx hb dX7_steps_197 (by decide) (fun c_39 => ?_) (fun c_39 => ?_)
            · skip
              refine lv_aload_n hx hb dX7_steps_247 rfl (lv_at hl 2 rfl) ?_
              refine wr_get hC hinRX7 hW (vM (by decide)) ce_m0 rfl 0 (by decide) hk0 rfl dX7_steps_248 ?_
              refine lv_iload_n hx hb dX7_steps_251 rfl (lv_at hl 3 rfl) ?_
              refine lv_bipush (v := 6) hx hb dX7_steps_252 (by decide) ?_
              refine wc_s hC hml (kX7_at l G (wset Z 12 B_37) k 6) (cwS 2 hts gX7_steps_X7_at rfl rfl rfl (by decide +kernel) ⟨Nat.le_of_ble_eq_true rfl, Nat.le_of_ble_eq_true rfl⟩) hW hS rfl rfl hl.1 (Nat.le_of_ble_eq_true rfl) dX7_steps_254 (fun H locs hW hS => ?_)
              refine lv_re (y := nI (7 + 14 * k + 6)) rfl ?_
              refine lv_aload_n hx hb dX7_steps_257 rfl (lv_at hl 2 rfl) ?_
              refine wr_get hC hinRX7 hW (vM (by decide)) ce_m0 rfl 0 (by decide) hk0 rfl dX7_steps_258 ?_
              refine lv_iload_n hx hb dX7_steps_261 rfl (lv_at hl 3 rfl) ?_
              refine lv_bipush (v := 6) hx hb dX7_steps_262 (by decide) ?_
              refine wc_s hC hml (kX7_at l G (wset Z 12 B_37) k 6) (cwS 2 hts gX7_steps_X7_at rfl rfl rfl (by decide +kernel) ⟨Nat.le_of_ble_eq_true rfl, Nat.le_of_ble_eq_true rfl⟩) hW hS rfl rfl hl.1 (Nat.le_of_ble_eq_true rfl) dX7_steps_264 (fun H locs hW hS => ?_)
              refine lv_re (y := nI (7 + 14 * k + 6)) rfl ?_
              refine wr_ald (kA := 0) hC hW (vM (by decide)) ce_m1 rfl (vp_in_nI (show (7 + 14 * k + 6) < 100 by omega) (by decide)) dX7_steps_267 ?_
              refine lv_re (y := B 1 (7 + 14 * k + 6)) (((((((((((congrArg (B_37 1) (nI_clamp (by omega)))).trans ((congrFun (congrFun eB_37 _) _))).trans (bput_q (by omega))).trans (bput_q (by omega))).trans (bput_q (by omega))).trans (bput_q (by omega))).trans (bput_q (by omega))).trans (bput_j (by omega))).trans (bput_j (by omega))).trans (bput_j (by omega))) ?_
              refine lv_aload_n hx hb dX7_steps_268 rfl (lv_at hl 2 rfl) ?_
              refine wr_get hC hinRX7 hW (vM (by decide)) ce_m0 rfl 0 (by decide) hk0 rfl dX7_steps_269 ?_
              refine lv_iload_n hx hb dX7_steps_272 rfl (lv_at hl 3 rfl) ?_
              refine lv_iconst (v := 5) hx hb dX7_steps_273 (by decide) ?_
              refine wc_s hC hml (kX7_at l G (wset Z 12 B_37) k 5) (cwS 2 hts gX7_steps_X7_at rfl rfl rfl (by decide +kernel) ⟨Nat.le_of_ble_eq_true rfl, Nat.le_of_ble_eq_true rfl⟩) hW hS rfl rfl hl.1 (Nat.le_of_ble_eq_true rfl) dX7_steps_274 (fun H locs hW hS => ?_)
              refine lv_re (y := nI (7 + 14 * k + 5)) rfl ?_
              refine wr_ald (kA := 0) hC hW (vM (by decide)) ce_m1 rfl (vp_in_nI (show (7 + 14 * k + 5) < 100 by omega) (by decide)) dX7_steps_277 ?_
              refine lv_re (y := (B 1 (7 + 14 * k + 5)) - 1) ((((congrArg (B_37 1) (nI_clamp (by omega)))).trans ((congrFun (congrFun eB_37 _) _))).trans (bput_h)) ?_
              refine lv_aload_n hx hb dX7_steps_278 rfl (lv_at hl 2 rfl) ?_
              refine lv_aload_n hx hb dX7_steps_279 rfl (lv_at hl 2 rfl) ?_
              refine wr_get hC hinRX7 hW (vM (by decide)) ce_m0 rfl 0 (by decide) hk0 rfl dX7_steps_280 ?_
              refine lv_iconst (v := 2) hx hb dX7_steps_283 (by decide) ?_
              refine wr_ald (kA := 0) hC hW (vM (by decide)) ce_m1 rfl (vp_in_iff.mpr (by decide)) dX7_steps_284 ?_
              refine lv_re (y := B 1 2) (((((((((((congrArg (B_37 1) (show (2 : Int32).toNatClampNeg = 2 by decide))).trans ((congrFun (congrFun eB_37 _) _))).trans (bput_q (by omega))).trans (bput_q (by omega))).trans (bput_q (by omega))).trans (bput_q (by omega))).trans (bput_q (by omega))).trans (bput_j (by omega))).trans (bput_q (by decide))).trans (bput_q (by decide))) ?_
              refine wc_i hC hml (kX7_highestBy l G Z B_37 (B 1 2) (by first | assumption | omega)) (cwV 1 hts gX7_steps_X7_highestBy rfl rfl rfl (by decide +kernel) ⟨Nat.le_of_ble_eq_true rfl, Nat.le_of_ble_eq_true rfl⟩) hW hS (vM (by decide)) ce_m0 rfl rfl rfl rfl hl.1 (Nat.le_of_ble_eq_true rfl) dX7_steps_285 (fun H locs hW hS => ?_)
              refine lv_topi (fun x_40 ex_40 => ?_)
              refine wc_s hC hml (kX7_nextLevel l G (wset Z 12 B_37) (B 1 (7 + 14 * k + 6)) ((B 1 (7 + 14 * k + 5)) - 1) x_40) (cwS 3 hts gX7_steps_X7_nextLevel rfl rfl rfl (by decide +kernel) ⟨Nat.le_of_ble_eq_true rfl, Nat.le_of_ble_eq_true rfl⟩) hW hS rfl rfl hl.1 (Nat.le_of_ble_eq_true rfl) dX7_steps_288 (fun H locs hW hS => ?_)
              refine lv_topi (fun x_41 ex_41 => ?_)
              refine wr_ast (kA := 0) (Z' := wset Z 12 (bput B_37 1 (nI (7 + 14 * k + 6)).toNatClampNeg x_41)) hC hW hS (vM (by decide)) ce_m1 rfl (vp_in_nI (show (7 + 14 * k + 6) < 100 by omega) (by decide)) wset_off pu_m1 dX7_steps_291 (fun H locs hW hS => ?_)
              rw [nI_clamp (show (7 + 14 * k + 6) < 2 ^ 31 by omega)] at hW
              refine lv_aload_n hx hb dX7_steps_292 rfl (lv_at hl 2 rfl) ?_
              refine wr_get hC hinRX7 hW (vM (by decide)) ce_m0 rfl 0 (by decide) hk0 rfl dX7_steps_293 ?_
              refine lv_iload_n hx hb dX7_steps_296 rfl (lv_at hl 3 rfl) ?_
              refine lv_bipush (v := 7) hx hb dX7_steps_297 (by decide) ?_
              refine wc_s hC hml (kX7_at l G (wset Z 12 (bput B_37 1 (7 + 14 * k + 6) x_41)) k 7) (cwS 2 hts gX7_steps_X7_at rfl rfl rfl (by decide +kernel) ⟨Nat.le_of_ble_eq_true rfl, Nat.le_of_ble_eq_true rfl⟩) hW hS rfl rfl hl.1 (Nat.le_of_ble_eq_true rfl) dX7_steps_299 (fun H locs hW hS => ?_)
              refine lv_re (y := nI (7 + 14 * k + 7)) rfl ?_
              refine lv_aload_n hx hb dX7_steps_302 rfl (lv_at hl 2 rfl) ?_
              refine wr_get hC hinRX7 hW (vM (by decide)) ce_m0 rfl 0 (by decide) hk0 rfl dX7_steps_303 ?_
              refine lv_iconst (v := 5) hx hb dX7_steps_306 (by decide) ?_
              refine wr_ald (kA := 0) hC hW (vM (by decide)) ce_m1 rfl (vp_in_iff.mpr (by decide)) dX7_steps_307 ?_
              refine lv_re (y := B 1 5) ((((((((((((congrArg ((bput B_37 1 (7 + 14 * k + 6) x_41) 1) (show (5 : Int32).toNatClampNeg = 5 by decide))).trans (bput_q (by omega))).trans ((congrFun (congrFun eB_37 _) _))).trans (bput_q (by omega))).trans (bput_q (by omega))).trans (bput_q (by omega))).trans (bput_q (by omega))).trans (bput_q (by omega))).trans (bput_q (by decide))).trans (bput_q (by decide))).trans (bput_q (by decide))) ?_
              refine lv_aload_n hx hb dX7_steps_308 rfl (lv_at hl 2 rfl) ?_
              refine lv_aload_n hx hb dX7_steps_309 rfl (lv_at hl 2 rfl) ?_
              refine wr_get hC hinRX7 hW (vM (by decide)) ce_m0 rfl 0 (by decide) hk0 rfl dX7_steps_310 ?_
              refine lv_iload_n hx hb dX7_steps_313 rfl (lv_at hl 3 rfl) ?_
              refine lv_bipush (v := 6) hx hb dX7_steps_314 (by decide) ?_
              refine wc_s hC hml (kX7_at l G (wset Z 12 (bput B_37 1 (7 + 14 * k + 6) x_41)) k 6) (cwS 2 hts gX7_steps_X7_at rfl rfl rfl (by decide +kernel) ⟨Nat.le_of_ble_eq_true rfl, Nat.le_of_ble_eq_true rfl⟩) hW hS rfl rfl hl.1 (Nat.le_of_ble_eq_true rfl) dX7_steps_316 (fun H locs hW hS => ?_)
              refine lv_re (y := nI (7 + 14 * k + 6)) rfl ?_
              refine wr_ald (kA := 0) hC hW (vM (by decide)) ce_m1 rfl (vp_in_nI (show (7 + 14 * k + 6) < 100 by omega) (by decide)) dX7_steps_319 ?_
              refine lv_re (y := x_41) (((congrArg ((bput B_37 1 (7 + 14 * k + 6) x_41) 1) (nI_clamp (by omega)))).trans (bput_h)) ?_
              refine lv_aload_n hx hb dX7_steps_320 rfl (lv_at hl 2 rfl) ?_
              refine wr_get hC hinRX7 hW (vM (by decide)) ce_m0 rfl 0 (by decide) hk0 rfl dX7_steps_321 ?_
              refine lv_iconst (v := 2) hx hb dX7_steps_324 (by decide) ?_
              refine wr_ald (kA := 0) hC hW (vM (by decide)) ce_m1 rfl (vp_in_iff.mpr (by decide)) dX7_steps_325 ?_
              refine lv_re (y := B 1 2) ((((((((((((congrArg ((bput B_37 1 (7 + 14 * k + 6) x_41) 1) (show (2 : Int32).toNatClampNeg = 2 by decide))).trans (bput_q (by omega))).trans ((congrFun (congrFun eB_37 _) _))).trans (bput_q (by omega))).trans (bput_q (by omega))).trans (bput_q (by omega))).trans (bput_q (by omega))).trans (bput_q (by omega))).trans (bput_j (by omega))).trans (bput_q (by decide))).trans (bput_q (by decide))) ?_
              obtain ⟨B_42, eB_42⟩ : ∃ y, y = (bput B_37 1 (7 + 14 * k + 6) x_41) := ⟨_, rfl⟩
              rw [← eB_42] at hW
              refine wc_i hC hml (kX7_intervalBy l G Z B_42 x_41 (B 1 2)) (cwV 2 hts gX7_steps_X7_intervalBy rfl rfl rfl (by decide +kernel) ⟨Nat.le_of_ble_eq_true rfl, Nat.le_of_ble_eq_true rfl⟩) hW hS (vM (by decide)) ce_m0 rfl rfl rfl rfl hl.1 (Nat.le_of_ble_eq_true rfl) dX7_steps_326 (fun H locs hW hS => ?_)
              refine lv_topi (fun x_43 ex_43 => ?_)
              refine lv_iadd hx hb dX7_steps_329 ?_
              refine wr_ast (kA := 0) (Z' := wset Z 12 (bput B_42 1 (nI (7 + 14 * k + 7)).toNatClampNeg ((B 1 5) + x_43))) hC hW hS (vM (by decide)) ce_m1 rfl (vp_in_nI (show (7 + 14 * k + 7) < 100 by omega) (by decide)) wset_off pu_m1 dX7_steps_330 (fun H locs hW hS => ?_)
              rw [nI_clamp (show (7 + 14 * k + 7) < 2 ^ 31 by omega)] at hW
              have hf : fX7_steps B k = (bput B_42 1 (7 + 14 * k + 7) ((B 1 5) + x_43)) := by
                subst ex_43
                subst eB_42
                subst ex_41
                subst ex_40
                subst ex_38
                subst eB_37
                subst ex_12
                subst ex_11
                subst ex_10
                exact (if_pos c_13).trans ((if_pos c_14).trans ((if_pos c_34).trans ((if_pos c_39).trans rfl)))
              exact we_v hC hr hlocks (congrArg (wset Z 12) hf).symm hW hS dX7_steps_331
            · skip
              refine lv_aload_n hx hb dX7_steps_200 rfl (lv_at hl 2 rfl) ?_
              refine wr_get hC hinRX7 hW (vM (by decide)) ce_m0 rfl 0 (by decide) hk0 rfl dX7_steps_201 ?_
              refine lv_iload_n hx hb dX7_steps_204 rfl (lv_at hl 3 rfl) ?_
              refine lv_bipush (v := 6) hx hb dX7_steps_205 (by decide) ?_
              refine wc_s hC hml (kX7_at l G (wset Z 12 B_37) k 6) (cwS 2 hts gX7_steps_X7_at rfl rfl rfl (by decide +kernel) ⟨Nat.le_of_ble_eq_true rfl, Nat.le_of_ble_eq_true rfl⟩) hW hS rfl rfl hl.1 (Nat.le_of_ble_eq_true rfl) dX7_steps_207 (fun H locs hW hS => ?_)
              refine lv_re (y := nI (7 + 14 * k + 6)) rfl ?_
              refine lv_iconst (v := 0) hx hb dX7_steps_210 (by decide) ?_
              refine wr_ast (kA := 0) (Z' := wset Z 12 (bput B_37 1 (nI (7 + 14 * k + 6)).toNatClampNeg 0)) hC hW hS (vM (by decide)) ce_m1 rfl (vp_in_nI (show (7 + 14 * k + 6) < 100 by omega) (by decide)) wset_off pu_m1 dX7_steps_211 (fun H locs hW hS => ?_)
              rw [nI_clamp (show (7 + 14 * k + 6) < 2 ^ 31 by omega)] at hW
              have hf : fX7_steps B k = LX7_sw k 3 (bput B_37 1 (7 + 14 * k + 6) 0) := by
                subst ex_38
                subst eB_37
                subst ex_12
                subst ex_11
                subst ex_10
                exact (if_pos c_13).trans ((if_pos c_14).trans ((if_pos c_34).trans ((if_neg c_39).trans rfl)))
              exact hlp_1 3 (bput B_37 1 (7 + 14 * k + 6) 0) (by rw [show (bput B_37 1 (7 + 14 * k + 6) 0) 1 (7 + 14 * k + 0) = B 1 (7 + 14 * k + 0) from (((((((((bput_q (by omega)).trans ((congrFun (congrFun eB_37 _) _))).trans (bput_q (by omega))).trans (bput_q (by omega))).trans (bput_q (by omega))).trans (bput_q (by omega))).trans (bput_q (by omega))).trans (bput_j (by omega))).trans (bput_j (by omega))).trans (bput_j (by omega))]; exact hmi) (by rw [show (bput B_37 1 (7 + 14 * k + 6) 0) 1 (7 + 14 * k + 8) = B 1 (7 + 14 * k + 8) from (((((((((bput_q (by omega)).trans ((congrFun (congrFun eB_37 _) _))).trans (bput_q (by omega))).trans (bput_q (by omega))).trans (bput_q (by omega))).trans (bput_q (by omega))).trans (bput_q (by omega))).trans (bput_j (by omega))).trans (bput_j (by omega))).trans (bput_j (by omega))]; exact hw) hf _ _ _ hW hS (lv_sub hl [2, 3] rfl)
          · exact absurd c_36 (by decide)
        · exact absurd c_35 (by decide)
      · skip
        refine lv_iconst (v := 0) hx hb dX7_steps_95 (by decide) ?_
        refine lv_goto (tgt := 100) hx hb dX7_steps_96 (by decide) ?_
        refine lv_isub hx hb dX7_steps_100 ?_
        refine wr_put (Z' := wset Z 12 (bput (bput (bput B 0 3 (nI k)) 0 4 0) 0 2 ((B 0 2) - 0))) (v := .int ((B 0 2) - 0)) hC hinRX7 tyX7 tyX7_ok nmX7 hW hS (vM (by decide)) ce_m0 rfl 8 (by decide) hk1 rfl (tyX7_ok 8 (by decide)) rfl rfl (Nat.le_of_ble_eq_true rfl) wset_off pu_m0_2 dX7_steps_101 (fun H locs hW hS => ?_)
        refine lv_aload_n hx hb dX7_steps_104 rfl (lv_at hl 2 rfl) ?_
        refine wr_get hC hinRX7 hW (vM (by decide)) ce_m0 rfl 0 (by decide) hk0 rfl dX7_steps_105 ?_
        refine lv_iload_n hx hb dX7_steps_108 rfl (lv_at hl 3 rfl) ?_
        refine lv_iconst (v := 2) hx hb dX7_steps_109 (by decide) ?_
        refine wc_s hC hml (kX7_at l G (wset Z 12 (bput (bput (bput B 0 3 (nI k)) 0 4 0) 0 2 ((B 0 2) - 0))) k 2) (cwS 2 hts gX7_steps_X7_at rfl rfl rfl (by decide +kernel) ⟨Nat.le_of_ble_eq_true rfl, Nat.le_of_ble_eq_true rfl⟩) hW hS rfl rfl hl.1 (Nat.le_of_ble_eq_true rfl) dX7_steps_110 (fun H locs hW hS => ?_)
        refine lv_re (y := nI (7 + 14 * k + 2)) rfl ?_
        refine lv_dup2_11 hx hb dX7_steps_113 rfl rfl ?_
        refine wr_ald (kA := 0) hC hW (vM (by decide)) ce_m1 rfl (vp_in_nI (show (7 + 14 * k + 2) < 100 by omega) (by decide)) dX7_steps_114 ?_
        refine lv_re (y := B 1 (7 + 14 * k + 2)) (((((congrArg ((bput (bput (bput B 0 3 (nI k)) 0 4 0) 0 2 ((B 0 2) - 0)) 1) (nI_clamp (by omega)))).trans (bput_j (by omega))).trans (bput_j (by omega))).trans (bput_j (by omega))) ?_
        refine lv_iload_n hx hb dX7_steps_115 rfl (lv_at hl 1 rfl) ?_
        refine lv_iadd hx hb dX7_steps_116 ?_
        refine wr_ast (kA := 0) (Z' := wset Z 12 (bput (bput (bput (bput B 0 3 (nI k)) 0 4 0) 0 2 ((B 0 2) - 0)) 1 (nI (7 + 14 * k + 2)).toNatClampNeg ((B 1 (7 + 14 * k + 2)) + x_10))) hC hW hS (vM (by decide)) ce_m1 rfl (vp_in_nI (show (7 + 14 * k + 2) < 100 by omega) (by decide)) wset_off pu_m1 dX7_steps_117 (fun H locs hW hS => ?_)
        rw [nI_clamp (show (7 + 14 * k + 2) < 2 ^ 31 by omega)] at hW
        refine lv_aload_n hx hb dX7_steps_118 rfl (lv_at hl 2 rfl) ?_
        refine wr_get hC hinRX7 hW (vM (by decide)) ce_m0 rfl 0 (by decide) hk0 rfl dX7_steps_119 ?_
        refine lv_iload_n hx hb dX7_steps_122 rfl (lv_at hl 3 rfl) ?_
        refine lv_iconst (v := 3) hx hb dX7_steps_123 (by decide) ?_
        refine wc_s hC hml (kX7_at l G (wset Z 12 (bput (bput (bput (bput B 0 3 (nI k)) 0 4 0) 0 2 ((B 0 2) - 0)) 1 (7 + 14 * k + 2) ((B 1 (7 + 14 * k + 2)) + x_10))) k 3) (cwS 2 hts gX7_steps_X7_at rfl rfl rfl (by decide +kernel) ⟨Nat.le_of_ble_eq_true rfl, Nat.le_of_ble_eq_true rfl⟩) hW hS rfl rfl hl.1 (Nat.le_of_ble_eq_true rfl) dX7_steps_124 (fun H locs hW hS => ?_)
        refine lv_re (y := nI (7 + 14 * k + 3)) rfl ?_
        refine lv_dup2_11 hx hb dX7_steps_127 rfl rfl ?_
        refine wr_ald (kA := 0) hC hW (vM (by decide)) ce_m1 rfl (vp_in_nI (show (7 + 14 * k + 3) < 100 by omega) (by decide)) dX7_steps_128 ?_
        refine lv_re (y := B 1 (7 + 14 * k + 3)) ((((((congrArg ((bput (bput (bput (bput B 0 3 (nI k)) 0 4 0) 0 2 ((B 0 2) - 0)) 1 (7 + 14 * k + 2) ((B 1 (7 + 14 * k + 2)) + x_10)) 1) (nI_clamp (by omega)))).trans (bput_q (by omega))).trans (bput_j (by omega))).trans (bput_j (by omega))).trans (bput_j (by omega))) ?_
        refine lv_iload_n hx hb dX7_steps_129 rfl (lv_at hl 0 rfl) ?_
        refine lv_if_eq (tgt := 137) hx hb dX7_steps_130 (by decide) (fun c_44 => ?_) (fun c_44 => ?_)
        · skip
          refine lv_iload_n hx hb dX7_steps_137 rfl (lv_at hl 1 rfl) ?_
          refine lv_iadd hx hb dX7_steps_138 ?_
          refine wr_ast (kA := 0) (Z' := wset Z 12 (bput (bput (bput (bput (bput B 0 3 (nI k)) 0 4 0) 0 2 ((B 0 2) - 0)) 1 (7 + 14 * k + 2) ((B 1 (7 + 14 * k + 2)) + x_10)) 1 (nI (7 + 14 * k + 3)).toNatClampNeg ((B 1 (7 + 14 * k + 3)) + x_10))) hC hW hS (vM (by decide)) ce_m1 rfl (vp_in_nI (show (7 + 14 * k + 3) < 100 by omega) (by decide)) wset_off pu_m1 dX7_steps_139 (fun H locs hW hS => ?_)
          rw [nI_clamp (show (7 + 14 * k + 3) < 2 ^ 31 by omega)] at hW
          refine lv_aload_n hx hb dX7_steps_140 rfl (lv_at hl 2 rfl) ?_
          refine wr_get hC hinRX7 hW (vM (by decide)) ce_m0 rfl 0 (by decide) hk0 rfl dX7_steps_141 ?_
          refine lv_iload_n hx hb dX7_steps_144 rfl (lv_at hl 3 rfl) ?_
          refine lv_bipush (v := 12) hx hb dX7_steps_145 (by decide) ?_
          refine wc_s hC hml (kX7_at l G (wset Z 12 (bput (bput (bput (bput (bput B 0 3 (nI k)) 0 4 0) 0 2 ((B 0 2) - 0)) 1 (7 + 14 * k + 2) ((B 1 (7 + 14 * k + 2)) + x_10)) 1 (7 + 14 * k + 3) ((B 1 (7 + 14 * k + 3)) + x_10))) k 12) (cwS 2 hts gX7_steps_X7_at rfl rfl rfl (by decide +kernel) ⟨Nat.le_of_ble_eq_true rfl, Nat.le_of_ble_eq_true rfl⟩) hW hS rfl rfl hl.1 (Nat.le_of_ble_eq_true rfl) dX7_steps_147 (fun H locs hW hS => ?_)
          refine lv_re (y := nI (7 + 14 * k + 12)) rfl ?_
          refine lv_dup2_11 hx hb dX7_steps_150 rfl rfl ?_
          refine wr_ald (kA := 0) hC hW (vM (by decide)) ce_m1 rfl (vp_in_nI (show (7 + 14 * k + 12) < 100 by omega) (by decide)) dX7_steps_151 ?_
          refine lv_re (y := B 1 (7 + 14 * k + 12)) (((((((congrArg ((bput (bput (bput (bput (bput B 0 3 (nI k)) 0 4 0) 0 2 ((B 0 2) - 0)) 1 (7 + 14 * k + 2) ((B 1 (7 + 14 * k + 2)) + x_10)) 1 (7 + 14 * k + 3) ((B 1 (7 + 14 * k + 3)) + x_10)) 1) (nI_clamp (by omega)))).trans (bput_q (by omega))).trans (bput_q (by omega))).trans (bput_j (by omega))).trans (bput_j (by omega))).trans (bput_j (by omega))) ?_
          refine lv_iconst (v := 1) hx hb dX7_steps_152 (by decide) ?_
          refine lv_iadd hx hb dX7_steps_153 ?_
          refine wr_ast (kA := 0) (Z' := wset Z 12 (bput (bput (bput (bput (bput (bput B 0 3 (nI k)) 0 4 0) 0 2 ((B 0 2) - 0)) 1 (7 + 14 * k + 2) ((B 1 (7 + 14 * k + 2)) + x_10)) 1 (7 + 14 * k + 3) ((B 1 (7 + 14 * k + 3)) + x_10)) 1 (nI (7 + 14 * k + 12)).toNatClampNeg ((B 1 (7 + 14 * k + 12)) + 1))) hC hW hS (vM (by decide)) ce_m1 rfl (vp_in_nI (show (7 + 14 * k + 12) < 100 by omega) (by decide)) wset_off pu_m1 dX7_steps_154 (fun H locs hW hS => ?_)
          rw [nI_clamp (show (7 + 14 * k + 12) < 2 ^ 31 by omega)] at hW
          refine lv_aload_n hx hb dX7_steps_155 rfl (lv_at hl 2 rfl) ?_
          refine wr_get hC hinRX7 hW (vM (by decide)) ce_m0 rfl 0 (by decide) hk0 rfl dX7_steps_156 ?_
          refine lv_iload_n hx hb dX7_steps_159 rfl (lv_at hl 3 rfl) ?_
          refine lv_bipush (v := 13) hx hb dX7_steps_160 (by decide) ?_
          refine wc_s hC hml (kX7_at l G (wset Z 12 (bput (bput (bput (bput (bput (bput B 0 3 (nI k)) 0 4 0) 0 2 ((B 0 2) - 0)) 1 (7 + 14 * k + 2) ((B 1 (7 + 14 * k + 2)) + x_10)) 1 (7 + 14 * k + 3) ((B 1 (7 + 14 * k + 3)) + x_10)) 1 (7 + 14 * k + 12) ((B 1 (7 + 14 * k + 12)) + 1))) k 13) (cwS 2 hts gX7_steps_X7_at rfl rfl rfl (by decide +kernel) ⟨Nat.le_of_ble_eq_true rfl, Nat.le_of_ble_eq_true rfl⟩) hW hS rfl rfl hl.1 (Nat.le_of_ble_eq_true rfl) dX7_steps_162 (fun H locs hW hS => ?_)
          refine lv_re (y := nI (7 + 14 * k + 13)) rfl ?_
          refine lv_dup2_11 hx hb dX7_steps_165 rfl rfl ?_
          refine wr_ald (kA := 0) hC hW (vM (by decide)) ce_m1 rfl (vp_in_nI (show (7 + 14 * k + 13) < 100 by omega) (by decide)) dX7_steps_166 ?_
          refine lv_re (y := B 1 (7 + 14 * k + 13)) ((((((((congrArg ((bput (bput (bput (bput (bput (bput B 0 3 (nI k)) 0 4 0) 0 2 ((B 0 2) - 0)) 1 (7 + 14 * k + 2) ((B 1 (7 + 14 * k + 2)) + x_10)) 1 (7 + 14 * k + 3) ((B 1 (7 + 14 * k + 3)) + x_10)) 1 (7 + 14 * k + 12) ((B 1 (7 + 14 * k + 12)) + 1)) 1) (nI_clamp (by omega)))).trans (bput_q (by omega))).trans (bput_q (by omega))).trans (bput_q (by omega))).trans (bput_j (by omega))).trans (bput_j (by omega))).trans (bput_j (by omega))) ?_
          refine lv_iload_n hx hb dX7_steps_167 rfl (lv_at hl 0 rfl) ?_
          refine lv_if_eq (tgt := 175) hx hb dX7_steps_168 (by decide) (fun c_45 => ?_) (fun c_45 => ?_)
          · skip
            refine lv_iconst (v := 0) hx hb dX7_steps_175 (by decide) ?_
            refine lv_iadd hx hb dX7_steps_176 ?_
            refine wr_ast (kA := 0) (Z' := wset Z 12 (bput (bput (bput (bput (bput (bput (bput B 0 3 (nI k)) 0 4 0) 0 2 ((B 0 2) - 0)) 1 (7 + 14 * k + 2) ((B 1 (7 + 14 * k + 2)) + x_10)) 1 (7 + 14 * k + 3) ((B 1 (7 + 14 * k + 3)) + x_10)) 1 (7 + 14 * k + 12) ((B 1 (7 + 14 * k + 12)) + 1)) 1 (nI (7 + 14 * k + 13)).toNatClampNeg ((B 1 (7 + 14 * k + 13)) + 0))) hC hW hS (vM (by decide)) ce_m1 rfl (vp_in_nI (show (7 + 14 * k + 13) < 100 by omega) (by decide)) wset_off pu_m1 dX7_steps_177 (fun H locs hW hS => ?_)
            rw [nI_clamp (show (7 + 14 * k + 13) < 2 ^ 31 by omega)] at hW
            refine lv_aload_n hx hb dX7_steps_178 rfl (lv_at hl 2 rfl) ?_
            refine wr_get hC hinRX7 hW (vM (by decide)) ce_m0 rfl 0 (by decide) hk0 rfl dX7_steps_179 ?_
            refine lv_iload_n hx hb dX7_steps_182 rfl (lv_at hl 3 rfl) ?_
            refine lv_iconst (v := 5) hx hb dX7_steps_183 (by decide) ?_
            refine wc_s hC hml (kX7_at l G (wset Z 12 (bput (bput (bput (bput (bput (bput (bput B 0 3 (nI k)) 0 4 0) 0 2 ((B 0 2) - 0)) 1 (7 + 14 * k + 2) ((B 1 (7 + 14 * k + 2)) + x_10)) 1 (7 + 14 * k + 3) ((B 1 (7 + 14 * k + 3)) + x_10)) 1 (7 + 14 * k + 12) ((B 1 (7 + 14 * k + 12)) + 1)) 1 (7 + 14 * k + 13) ((B 1 (7 + 14 * k + 13)) + 0))) k 5) (cwS 2 hts gX7_steps_X7_at rfl rfl rfl (by decide +kernel) ⟨Nat.le_of_ble_eq_true rfl, Nat.le_of_ble_eq_true rfl⟩) hW hS rfl rfl hl.1 (Nat.le_of_ble_eq_true rfl) dX7_steps_184 (fun H locs hW hS => ?_)
            refine lv_re (y := nI (7 + 14 * k + 5)) rfl ?_
            refine lv_dup2_11 hx hb dX7_steps_187 rfl rfl ?_
            refine wr_ald (kA := 0) hC hW (vM (by decide)) ce_m1 rfl (vp_in_nI (show (7 + 14 * k + 5) < 100 by omega) (by decide)) dX7_steps_188 ?_
            refine lv_re (y := B 1 (7 + 14 * k + 5)) (((((((((congrArg ((bput (bput (bput (bput (bput (bput (bput B 0 3 (nI k)) 0 4 0) 0 2 ((B 0 2) - 0)) 1 (7 + 14 * k + 2) ((B 1 (7 + 14 * k + 2)) + x_10)) 1 (7 + 14 * k + 3) ((B 1 (7 + 14 * k + 3)) + x_10)) 1 (7 + 14 * k + 12) ((B 1 (7 + 14 * k + 12)) + 1)) 1 (7 + 14 * k + 13) ((B 1 (7 + 14 * k + 13)) + 0)) 1) (nI_clamp (by omega)))).trans (bput_q (by omega))).trans (bput_q (by omega))).trans (bput_q (by omega))).trans (bput_q (by omega))).trans (bput_j (by omega))).trans (bput_j (by omega))).trans (bput_j (by omega))) ?_
            refine lv_iconst (v := 1) hx hb dX7_steps_189 (by decide) ?_
            refine lv_isub hx hb dX7_steps_190 ?_
            refine wr_ast (kA := 0) (Z' := wset Z 12 (bput (bput (bput (bput (bput (bput (bput (bput B 0 3 (nI k)) 0 4 0) 0 2 ((B 0 2) - 0)) 1 (7 + 14 * k + 2) ((B 1 (7 + 14 * k + 2)) + x_10)) 1 (7 + 14 * k + 3) ((B 1 (7 + 14 * k + 3)) + x_10)) 1 (7 + 14 * k + 12) ((B 1 (7 + 14 * k + 12)) + 1)) 1 (7 + 14 * k + 13) ((B 1 (7 + 14 * k + 13)) + 0)) 1 (nI (7 + 14 * k + 5)).toNatClampNeg ((B 1 (7 + 14 * k + 5)) - 1))) hC hW hS (vM (by decide)) ce_m1 rfl (vp_in_nI (show (7 + 14 * k + 5) < 100 by omega) (by decide)) wset_off pu_m1 dX7_steps_191 (fun H locs hW hS => ?_)
            rw [nI_clamp (show (7 + 14 * k + 5) < 2 ^ 31 by omega)] at hW
            refine lv_aload_n hx hb dX7_steps_192 rfl (lv_at hl 2 rfl) ?_
            refine lv_iload_n hx hb dX7_steps_193 rfl (lv_at hl 3 rfl) ?_
            obtain ⟨B_46, eB_46⟩ : ∃ y, y = (bput (bput (bput (bput (bput (bput (bput (bput B 0 3 (nI k)) 0 4 0) 0 2 ((B 0 2) - 0)) 1 (7 + 14 * k + 2) ((B 1 (7 + 14 * k + 2)) + x_10)) 1 (7 + 14 * k + 3) ((B 1 (7 + 14 * k + 3)) + x_10)) 1 (7 + 14 * k + 12) ((B 1 (7 + 14 * k + 12)) + 1)) 1 (7 + 14 * k + 13) ((B 1 (7 + 14 * k + 13)) + 0)) 1 (7 + 14 * k + 5) ((B 1 (7 + 14 * k + 5)) - 1)) := ⟨_, rfl⟩
            rw [← eB_46] at hW
            refine wc_i hC hml (kX7_rests l G Z B_46 k (by first | assumption | omega)) (cwV 1 hts gX7_steps_X7_rests rfl rfl rfl (by decide +kernel) ⟨Nat.le_of_ble_eq_true rfl, Nat.le_of_ble_eq_true rfl⟩) hW hS (vM (by decide)) ce_m0 rfl rfl rfl rfl hl.1 (Nat.le_of_ble_eq_true rfl) dX7_steps_194 (fun H locs hW hS => ?_)
            refine lv_topi (fun x_47 ex_47 => ?_)
            refine lv_if_eq (tgt := 247) hx hb dX7_steps_197 (by decide) (fun c_48 => ?_) (fun c_48 => ?_)
            · skip
              refine lv_aload_n hx hb dX7_steps_247 rfl (lv_at hl 2 rfl) ?_
              refine wr_get hC hinRX7 hW (vM (by decide)) ce_m0 rfl 0 (by decide) hk0 rfl dX7_steps_248 ?_
              refine lv_iload_n hx hb dX7_steps_251 rfl (lv_at hl 3 rfl) ?_
              refine lv_bipush (v := 6) hx hb dX7_steps_252 (by decide) ?_
              refine wc_s hC hml (kX7_at l G (wset Z 12 B_46) k 6) (cwS 2 hts gX7_steps_X7_at rfl rfl rfl (by decide +kernel) ⟨Nat.le_of_ble_eq_true rfl, Nat.le_of_ble_eq_true rfl⟩) hW hS rfl rfl hl.1 (Nat.le_of_ble_eq_true rfl) dX7_steps_254 (fun H locs hW hS => ?_)
              refine lv_re (y := nI (7 + 14 * k + 6)) rfl ?_
              refine lv_aload_n hx hb dX7_steps_257 rfl (lv_at hl 2 rfl) ?_
              refine wr_get hC hinRX7 hW (vM (by decide)) ce_m0 rfl 0 (by decide) hk0 rfl dX7_steps_258 ?_
              refine lv_iload_n hx hb dX7_steps_261 rfl (lv_at hl 3 rfl) ?_
              refine lv_bipush (v := 6) hx hb dX7_steps_262 (by decide) ?_
              refine wc_s hC hml (kX7_at l G (wset Z 12 B_46) k 6) (cwS 2 hts gX7_steps_X7_at rfl rfl rfl (by decide +kernel) ⟨Nat.le_of_ble_eq_true rfl, Nat.le_of_ble_eq_true rfl⟩) hW hS rfl rfl hl.1 (Nat.le_of_ble_eq_true rfl) dX7_steps_264 (fun H locs hW hS => ?_)
              refine lv_re (y := nI (7 + 14 * k + 6)) rfl ?_
              refine wr_ald (kA := 0) hC hW (vM (by decide)) ce_m1 rfl (vp_in_nI (show (7 + 14 * k + 6) < 100 by omega) (by decide)) dX7_steps_267 ?_
              refine lv_re (y := B 1 (7 + 14 * k + 6)) (((((((((((congrArg (B_46 1) (nI_clamp (by omega)))).trans ((congrFun (congrFun eB_46 _) _))).trans (bput_q (by omega))).trans (bput_q (by omega))).trans (bput_q (by omega))).trans (bput_q (by omega))).trans (bput_q (by omega))).trans (bput_j (by omega))).trans (bput_j (by omega))).trans (bput_j (by omega))) ?_
              refine lv_aload_n hx hb dX7_steps_268 rfl (lv_at hl 2 rfl) ?_
              refine wr_get hC hinRX7 hW (vM (by decide)) ce_m0 rfl 0 (by decide) hk0 rfl dX7_steps_269 ?_
              refine lv_iload_n hx hb dX7_steps_272 rfl (lv_at hl 3 rfl) ?_
              refine lv_iconst (v := 5) hx hb dX7_steps_273 (by decide) ?_
              refine wc_s hC hml (kX7_at l G (wset Z 12 B_46) k 5) (cwS 2 hts gX7_steps_X7_at rfl rfl rfl (by decide +kernel) ⟨Nat.le_of_ble_eq_true rfl, Nat.le_of_ble_eq_true rfl⟩) hW hS rfl rfl hl.1 (Nat.le_of_ble_eq_true rfl) dX7_steps_274 (fun H locs hW hS => ?_)
              refine lv_re (y := nI (7 + 14 * k + 5)) rfl ?_
              refine wr_ald (kA := 0) hC hW (vM (by decide)) ce_m1 rfl (vp_in_nI (show (7 + 14 * k + 5) < 100 by omega) (by decide)) dX7_steps_277 ?_
              refine lv_re (y := (B 1 (7 + 14 * k + 5)) - 1) ((((congrArg (B_46 1) (nI_clamp (by omega)))).trans ((congrFun (congrFun eB_46 _) _))).trans (bput_h)) ?_
              refine lv_aload_n hx hb dX7_steps_278 rfl (lv_at hl 2 rfl) ?_
              refine lv_aload_n hx hb dX7_steps_279 rfl (lv_at hl 2 rfl) ?_
              refine wr_get hC hinRX7 hW (vM (by decide)) ce_m0 rfl 0 (by decide) hk0 rfl dX7_steps_280 ?_
              refine lv_iconst (v := 2) hx hb dX7_steps_283 (by decide) ?_
              refine wr_ald (kA := 0) hC hW (vM (by decide)) ce_m1 rfl (vp_in_iff.mpr (by decide)) dX7_steps_284 ?_
              refine lv_re (y := B 1 2) (((((((((((congrArg (B_46 1) (show (2 : Int32).toNatClampNeg = 2 by decide))).trans ((congrFun (congrFun eB_46 _) _))).trans (bput_q (by omega))).trans (bput_q (by omega))).trans (bput_q (by omega))).trans (bput_q (by omega))).trans (bput_q (by omega))).trans (bput_j (by omega))).trans (bput_q (by decide))).trans (bput_q (by decide))) ?_
              refine wc_i hC hml (kX7_highestBy l G Z B_46 (B 1 2) (by first | assumption | omega)) (cwV 1 hts gX7_steps_X7_highestBy rfl rfl rfl (by decide +kernel) ⟨Nat.le_of_ble_eq_true rfl, Nat.le_of_ble_eq_true rfl⟩) hW hS (vM (by decide)) ce_m0 rfl rfl rfl rfl hl.1 (Nat.le_of_ble_eq_true rfl) dX7_steps_285 (fun H locs hW hS => ?_)
              refine lv_topi (fun x_49 ex_49 => ?_)
              refine wc_s hC hml (kX7_nextLevel l G (wset Z 12 B_46) (B 1 (7 + 14 * k + 6)) ((B 1 (7 + 14 * k + 5)) - 1) x_49) (cwS 3 hts gX7_steps_X7_nextLevel rfl rfl rfl (by decide +kernel) ⟨Nat.le_of_ble_eq_true rfl, Nat.le_of_ble_eq_true rfl⟩) hW hS rfl rfl hl.1 (Nat.le_of_ble_eq_true rfl) dX7_steps_288 (fun H locs hW hS => ?_)
              refine lv_topi (fun x_50 ex_50 => ?_)
              refine wr_ast (kA := 0) (Z' := wset Z 12 (bput B_46 1 (nI (7 + 14 * k + 6)).toNatClampNeg x_50)) hC hW hS (vM (by decide)) ce_m1 rfl (vp_in_nI (show (7 + 14 * k + 6) < 100 by omega) (by decide)) wset_off pu_m1 dX7_steps_291 (fun H locs hW hS => ?_)
              rw [nI_clamp (show (7 + 14 * k + 6) < 2 ^ 31 by omega)] at hW
              refine lv_aload_n hx hb dX7_steps_292 rfl (lv_at hl 2 rfl) ?_
              refine wr_get hC hinRX7 hW (vM (by decide)) ce_m0 rfl 0 (by decide) hk0 rfl dX7_steps_293 ?_
              refine lv_iload_n hx hb dX7_steps_296 rfl (lv_at hl 3 rfl) ?_
              refine lv_bipush (v := 7) hx hb dX7_steps_297 (by decide) ?_
              refine wc_s hC hml (kX7_at l G (wset Z 12 (bput B_46 1 (7 + 14 * k + 6) x_50)) k 7) (cwS 2 hts gX7_steps_X7_at rfl rfl rfl (by decide +kernel) ⟨Nat.le_of_ble_eq_true rfl, Nat.le_of_ble_eq_true rfl⟩) hW hS rfl rfl hl.1 (Nat.le_of_ble_eq_true rfl) dX7_steps_299 (fun H locs hW hS => ?_)
              refine lv_re (y := nI (7 + 14 * k + 7)) rfl ?_
              refine lv_aload_n hx hb dX7_steps_302 rfl (lv_at hl 2 rfl) ?_
              refine wr_get hC hinRX7 hW (vM (by decide)) ce_m0 rfl 0 (by decide) hk0 rfl dX7_steps_303 ?_
              refine lv_iconst (v := 5) hx hb dX7_steps_306 (by decide) ?_
              refine wr_ald (kA := 0) hC hW (vM (by decide)) ce_m1 rfl (vp_in_iff.mpr (by decide)) dX7_steps_307 ?_
              refine lv_re (y := B 1 5) ((((((((((((congrArg ((bput B_46 1 (7 + 14 * k + 6) x_50) 1) (show (5 : Int32).toNatClampNeg = 5 by decide))).trans (bput_q (by omega))).trans ((congrFun (congrFun eB_46 _) _))).trans (bput_q (by omega))).trans (bput_q (by omega))).trans (bput_q (by omega))).trans (bput_q (by omega))).trans (bput_q (by omega))).trans (bput_q (by decide))).trans (bput_q (by decide))).trans (bput_q (by decide))) ?_
              refine lv_aload_n hx hb dX7_steps_308 rfl (lv_at hl 2 rfl) ?_
              refine lv_aload_n hx hb dX7_steps_309 rfl (lv_at hl 2 rfl) ?_
              refine wr_get hC hinRX7 hW (vM (by decide)) ce_m0 rfl 0 (by decide) hk0 rfl dX7_steps_310 ?_
              refine lv_iload_n hx hb dX7_steps_313 rfl (lv_at hl 3 rfl) ?_
              refine lv_bipush (v := 6) hx hb dX7_steps_314 (by decide) ?_
              refine wc_s hC hml (kX7_at l G (wset Z 12 (bput B_46 1 (7 + 14 * k + 6) x_50)) k 6) (cwS 2 hts gX7_steps_X7_at rfl rfl rfl (by decide +kernel) ⟨Nat.le_of_ble_eq_true rfl, Nat.le_of_ble_eq_true rfl⟩) hW hS rfl rfl hl.1 (Nat.le_of_ble_eq_true rfl) dX7_steps_316 (fun H locs hW hS => ?_)
              refine lv_re (y := nI (7 + 14 * k + 6)) rfl ?_
              refine wr_ald (kA := 0) hC hW (vM (by decide)) ce_m1 rfl (vp_in_nI (show (7 + 14 * k + 6) < 100 by omega) (by decide)) dX7_steps_319 ?_
              refine lv_re (y := x_50) (((congrArg ((bput B_46 1 (7 + 14 * k + 6) x_50) 1) (nI_clamp (by omega)))).trans (bput_h)) ?_
              refine lv_aload_n hx hb dX7_steps_320 rfl (lv_at hl 2 rfl) ?_
              refine wr_get hC hinRX7 hW (vM (by decide)) ce_m0 rfl 0 (by decide) hk0 rfl dX7_steps_321 ?_
              refine lv_iconst (v := 2) hx hb dX7_steps_324 (by decide) ?_
              refine wr_ald (kA := 0) hC hW (vM (by decide)) ce_m1 rfl (vp_in_iff.mpr (by decide)) dX7_steps_325 ?_
              refine lv_re (y := B 1 2) ((((((((((((congrArg ((bput B_46 1 (7 + 14 * k + 6) x_50) 1) (show (2 : Int32).toNatClampNeg = 2 by decide))).trans (bput_q (by omega))).trans ((congrFun (congrFun eB_46 _) _))).trans (bput_q (by omega))).trans (bput_q (by omega))).trans (bput_q (by omega))).trans (bput_q (by omega))).trans (bput_q (by omega))).trans (bput_j (by omega))).trans (bput_q (by decide))).trans (bput_q (by decide))) ?_
              obtain ⟨B_51, eB_51⟩ : ∃ y, y = (bput B_46 1 (7 + 14 * k + 6) x_50) := ⟨_, rfl⟩
              rw [← eB_51] at hW
              refine wc_i hC hml (kX7_intervalBy l G Z B_51 x_50 (B 1 2)) (cwV 2 hts gX7_steps_X7_intervalBy rfl rfl rfl (by decide +kernel) ⟨Nat.le_of_ble_eq_true rfl, Nat.le_of_ble_eq_true rfl⟩) hW hS (vM (by decide)) ce_m0 rfl rfl rfl rfl hl.1 (Nat.le_of_ble_eq_true rfl) dX7_steps_326 (fun H locs hW hS => ?_)
              refine lv_topi (fun x_52 ex_52 => ?_)
              refine lv_iadd hx hb dX7_steps_329 ?_
              refine wr_ast (kA := 0) (Z' := wset Z 12 (bput B_51 1 (nI (7 + 14 * k + 7)).toNatClampNeg ((B 1 5) + x_52))) hC hW hS (vM (by decide)) ce_m1 rfl (vp_in_nI (show (7 + 14 * k + 7) < 100 by omega) (by decide)) wset_off pu_m1 dX7_steps_330 (fun H locs hW hS => ?_)
              rw [nI_clamp (show (7 + 14 * k + 7) < 2 ^ 31 by omega)] at hW
              have hf : fX7_steps B k = (bput B_51 1 (7 + 14 * k + 7) ((B 1 5) + x_52)) := by
                subst ex_52
                subst eB_51
                subst ex_50
                subst ex_49
                subst ex_47
                subst eB_46
                subst ex_12
                subst ex_11
                subst ex_10
                exact (if_pos c_13).trans ((if_pos c_14).trans ((if_neg c_34).trans ((if_pos c_48).trans rfl)))
              exact we_v hC hr hlocks (congrArg (wset Z 12) hf).symm hW hS dX7_steps_331
            · skip
              refine lv_aload_n hx hb dX7_steps_200 rfl (lv_at hl 2 rfl) ?_
              refine wr_get hC hinRX7 hW (vM (by decide)) ce_m0 rfl 0 (by decide) hk0 rfl dX7_steps_201 ?_
              refine lv_iload_n hx hb dX7_steps_204 rfl (lv_at hl 3 rfl) ?_
              refine lv_bipush (v := 6) hx hb dX7_steps_205 (by decide) ?_
              refine wc_s hC hml (kX7_at l G (wset Z 12 B_46) k 6) (cwS 2 hts gX7_steps_X7_at rfl rfl rfl (by decide +kernel) ⟨Nat.le_of_ble_eq_true rfl, Nat.le_of_ble_eq_true rfl⟩) hW hS rfl rfl hl.1 (Nat.le_of_ble_eq_true rfl) dX7_steps_207 (fun H locs hW hS => ?_)
              refine lv_re (y := nI (7 + 14 * k + 6)) rfl ?_
              refine lv_iconst (v := 0) hx hb dX7_steps_210 (by decide) ?_
              refine wr_ast (kA := 0) (Z' := wset Z 12 (bput B_46 1 (nI (7 + 14 * k + 6)).toNatClampNeg 0)) hC hW hS (vM (by decide)) ce_m1 rfl (vp_in_nI (show (7 + 14 * k + 6) < 100 by omega) (by decide)) wset_off pu_m1 dX7_steps_211 (fun H locs hW hS => ?_)
              rw [nI_clamp (show (7 + 14 * k + 6) < 2 ^ 31 by omega)] at hW
              have hf : fX7_steps B k = LX7_sw k 3 (bput B_46 1 (7 + 14 * k + 6) 0) := by
                subst ex_47
                subst eB_46
                subst ex_12
                subst ex_11
                subst ex_10
                exact (if_pos c_13).trans ((if_pos c_14).trans ((if_neg c_34).trans ((if_neg c_48).trans rfl)))
              exact hlp_1 3 (bput B_46 1 (7 + 14 * k + 6) 0) (by rw [show (bput B_46 1 (7 + 14 * k + 6) 0) 1 (7 + 14 * k + 0) = B 1 (7 + 14 * k + 0) from (((((((((bput_q (by omega)).trans ((congrFun (congrFun eB_46 _) _))).trans (bput_q (by omega))).trans (bput_q (by omega))).trans (bput_q (by omega))).trans (bput_q (by omega))).trans (bput_q (by omega))).trans (bput_j (by omega))).trans (bput_j (by omega))).trans (bput_j (by omega))]; exact hmi) (by rw [show (bput B_46 1 (7 + 14 * k + 6) 0) 1 (7 + 14 * k + 8) = B 1 (7 + 14 * k + 8) from (((((((((bput_q (by omega)).trans ((congrFun (congrFun eB_46 _) _))).trans (bput_q (by omega))).trans (bput_q (by omega))).trans (bput_q (by omega))).trans (bput_q (by omega))).trans (bput_q (by omega))).trans (bput_j (by omega))).trans (bput_j (by omega))).trans (bput_j (by omega))]; exact hw) hf _ _ _ hW hS (lv_sub hl [2, 3] rfl)
          · exact absurd c_45 (by decide)
        · exact absurd c_44 (by decide)
  · skip
    refine lv_iconst (v := 1) hx hb dX7_steps_60 (by decide) ?_
    refine lv_goto (tgt := 65) hx hb dX7_steps_61 (by decide) ?_
    refine lv_istore_n (lv' := [(3, .int 1), (2, .int x_10), (0, .ref (G.2.2.1 12 0)), (1, .int (nI k))]) hx hb dX7_steps_65 rfl hl (by decide) rfl (fun ls hl => ?_)
    refine lv_aload_n hx hb dX7_steps_66 rfl (lv_at hl 2 rfl) ?_
    refine wr_get hC hinRX7 hW (vM (by decide)) ce_m0 rfl 8 (by decide) hk1 rfl dX7_steps_67 ?_
    refine lv_if_ne (tgt := 83) hx hb dX7_steps_70 (by decide) (fun c_53 => ?_) (fun c_53 => ?_)
    · skip
      refine lv_aload_n hx hb dX7_steps_83 rfl (lv_at hl 2 rfl) ?_
      refine lv_dup hx hb dX7_steps_84 rfl ?_
      refine wr_get hC hinRX7 hW (vM (by decide)) ce_m0 rfl 8 (by decide) hk1 rfl dX7_steps_85 ?_
      refine lv_aload_n hx hb dX7_steps_88 rfl (lv_at hl 2 rfl) ?_
      refine wr_get hC hinRX7 hW (vM (by decide)) ce_m0 rfl 8 (by decide) hk1 rfl dX7_steps_89 ?_
      refine lv_if_ge (tgt := 99) hx hb dX7_steps_92 (by decide) (fun c_54 => ?_) (fun c_54 => ?_)
      · skip
        refine lv_iconst (v := 1) hx hb dX7_steps_99 (by decide) ?_
        refine lv_isub hx hb dX7_steps_100 ?_
        refine wr_put (Z' := wset Z 12 (bput B 0 2 ((B 0 2) - 1))) (v := .int ((B 0 2) - 1)) hC hinRX7 tyX7 tyX7_ok nmX7 hW hS (vM (by decide)) ce_m0 rfl 8 (by decide) hk1 rfl (tyX7_ok 8 (by decide)) rfl rfl (Nat.le_of_ble_eq_true rfl) wset_off pu_m0_2 dX7_steps_101 (fun H locs hW hS => ?_)
        refine lv_aload_n hx hb dX7_steps_104 rfl (lv_at hl 2 rfl) ?_
        refine wr_get hC hinRX7 hW (vM (by decide)) ce_m0 rfl 0 (by decide) hk0 rfl dX7_steps_105 ?_
        refine lv_iload_n hx hb dX7_steps_108 rfl (lv_at hl 3 rfl) ?_
        refine lv_iconst (v := 2) hx hb dX7_steps_109 (by decide) ?_
        refine wc_s hC hml (kX7_at l G (wset Z 12 (bput B 0 2 ((B 0 2) - 1))) k 2) (cwS 2 hts gX7_steps_X7_at rfl rfl rfl (by decide +kernel) ⟨Nat.le_of_ble_eq_true rfl, Nat.le_of_ble_eq_true rfl⟩) hW hS rfl rfl hl.1 (Nat.le_of_ble_eq_true rfl) dX7_steps_110 (fun H locs hW hS => ?_)
        refine lv_re (y := nI (7 + 14 * k + 2)) rfl ?_
        refine lv_dup2_11 hx hb dX7_steps_113 rfl rfl ?_
        refine wr_ald (kA := 0) hC hW (vM (by decide)) ce_m1 rfl (vp_in_nI (show (7 + 14 * k + 2) < 100 by omega) (by decide)) dX7_steps_114 ?_
        refine lv_re (y := B 1 (7 + 14 * k + 2)) (((congrArg ((bput B 0 2 ((B 0 2) - 1)) 1) (nI_clamp (by omega)))).trans (bput_j (by omega))) ?_
        refine lv_iload_n hx hb dX7_steps_115 rfl (lv_at hl 1 rfl) ?_
        refine lv_iadd hx hb dX7_steps_116 ?_
        refine wr_ast (kA := 0) (Z' := wset Z 12 (bput (bput B 0 2 ((B 0 2) - 1)) 1 (nI (7 + 14 * k + 2)).toNatClampNeg ((B 1 (7 + 14 * k + 2)) + x_10))) hC hW hS (vM (by decide)) ce_m1 rfl (vp_in_nI (show (7 + 14 * k + 2) < 100 by omega) (by decide)) wset_off pu_m1 dX7_steps_117 (fun H locs hW hS => ?_)
        rw [nI_clamp (show (7 + 14 * k + 2) < 2 ^ 31 by omega)] at hW
        refine lv_aload_n hx hb dX7_steps_118 rfl (lv_at hl 2 rfl) ?_
        refine wr_get hC hinRX7 hW (vM (by decide)) ce_m0 rfl 0 (by decide) hk0 rfl dX7_steps_119 ?_
        refine lv_iload_n hx hb dX7_steps_122 rfl (lv_at hl 3 rfl) ?_
        refine lv_iconst (v := 3) hx hb dX7_steps_123 (by decide) ?_
        refine wc_s hC hml (kX7_at l G (wset Z 12 (bput (bput B 0 2 ((B 0 2) - 1)) 1 (7 + 14 * k + 2) ((B 1 (7 + 14 * k + 2)) + x_10))) k 3) (cwS 2 hts gX7_steps_X7_at rfl rfl rfl (by decide +kernel) ⟨Nat.le_of_ble_eq_true rfl, Nat.le_of_ble_eq_true rfl⟩) hW hS rfl rfl hl.1 (Nat.le_of_ble_eq_true rfl) dX7_steps_124 (fun H locs hW hS => ?_)
        refine lv_re (y := nI (7 + 14 * k + 3)) rfl ?_
        refine lv_dup2_11 hx hb dX7_steps_127 rfl rfl ?_
        refine wr_ald (kA := 0) hC hW (vM (by decide)) ce_m1 rfl (vp_in_nI (show (7 + 14 * k + 3) < 100 by omega) (by decide)) dX7_steps_128 ?_
        refine lv_re (y := B 1 (7 + 14 * k + 3)) ((((congrArg ((bput (bput B 0 2 ((B 0 2) - 1)) 1 (7 + 14 * k + 2) ((B 1 (7 + 14 * k + 2)) + x_10)) 1) (nI_clamp (by omega)))).trans (bput_q (by omega))).trans (bput_j (by omega))) ?_
        refine lv_iload_n hx hb dX7_steps_129 rfl (lv_at hl 0 rfl) ?_
        refine lv_if_eq (tgt := 137) hx hb dX7_steps_130 (by decide) (fun c_55 => ?_) (fun c_55 => ?_)
        · exact absurd c_55 (by decide)
        · skip
          refine lv_iconst (v := 0) hx hb dX7_steps_133 (by decide) ?_
          refine lv_goto (tgt := 138) hx hb dX7_steps_134 (by decide) ?_
          refine lv_iadd hx hb dX7_steps_138 ?_
          refine wr_ast (kA := 0) (Z' := wset Z 12 (bput (bput (bput B 0 2 ((B 0 2) - 1)) 1 (7 + 14 * k + 2) ((B 1 (7 + 14 * k + 2)) + x_10)) 1 (nI (7 + 14 * k + 3)).toNatClampNeg ((B 1 (7 + 14 * k + 3)) + 0))) hC hW hS (vM (by decide)) ce_m1 rfl (vp_in_nI (show (7 + 14 * k + 3) < 100 by omega) (by decide)) wset_off pu_m1 dX7_steps_139 (fun H locs hW hS => ?_)
          rw [nI_clamp (show (7 + 14 * k + 3) < 2 ^ 31 by omega)] at hW
          refine lv_aload_n hx hb dX7_steps_140 rfl (lv_at hl 2 rfl) ?_
          refine wr_get hC hinRX7 hW (vM (by decide)) ce_m0 rfl 0 (by decide) hk0 rfl dX7_steps_141 ?_
          refine lv_iload_n hx hb dX7_steps_144 rfl (lv_at hl 3 rfl) ?_
          refine lv_bipush (v := 12) hx hb dX7_steps_145 (by decide) ?_
          refine wc_s hC hml (kX7_at l G (wset Z 12 (bput (bput (bput B 0 2 ((B 0 2) - 1)) 1 (7 + 14 * k + 2) ((B 1 (7 + 14 * k + 2)) + x_10)) 1 (7 + 14 * k + 3) ((B 1 (7 + 14 * k + 3)) + 0))) k 12) (cwS 2 hts gX7_steps_X7_at rfl rfl rfl (by decide +kernel) ⟨Nat.le_of_ble_eq_true rfl, Nat.le_of_ble_eq_true rfl⟩) hW hS rfl rfl hl.1 (Nat.le_of_ble_eq_true rfl) dX7_steps_147 (fun H locs hW hS => ?_)
          refine lv_re (y := nI (7 + 14 * k + 12)) rfl ?_
          refine lv_dup2_11 hx hb dX7_steps_150 rfl rfl ?_
          refine wr_ald (kA := 0) hC hW (vM (by decide)) ce_m1 rfl (vp_in_nI (show (7 + 14 * k + 12) < 100 by omega) (by decide)) dX7_steps_151 ?_
          refine lv_re (y := B 1 (7 + 14 * k + 12)) (((((congrArg ((bput (bput (bput B 0 2 ((B 0 2) - 1)) 1 (7 + 14 * k + 2) ((B 1 (7 + 14 * k + 2)) + x_10)) 1 (7 + 14 * k + 3) ((B 1 (7 + 14 * k + 3)) + 0)) 1) (nI_clamp (by omega)))).trans (bput_q (by omega))).trans (bput_q (by omega))).trans (bput_j (by omega))) ?_
          refine lv_iconst (v := 1) hx hb dX7_steps_152 (by decide) ?_
          refine lv_iadd hx hb dX7_steps_153 ?_
          refine wr_ast (kA := 0) (Z' := wset Z 12 (bput (bput (bput (bput B 0 2 ((B 0 2) - 1)) 1 (7 + 14 * k + 2) ((B 1 (7 + 14 * k + 2)) + x_10)) 1 (7 + 14 * k + 3) ((B 1 (7 + 14 * k + 3)) + 0)) 1 (nI (7 + 14 * k + 12)).toNatClampNeg ((B 1 (7 + 14 * k + 12)) + 1))) hC hW hS (vM (by decide)) ce_m1 rfl (vp_in_nI (show (7 + 14 * k + 12) < 100 by omega) (by decide)) wset_off pu_m1 dX7_steps_154 (fun H locs hW hS => ?_)
          rw [nI_clamp (show (7 + 14 * k + 12) < 2 ^ 31 by omega)] at hW
          refine lv_aload_n hx hb dX7_steps_155 rfl (lv_at hl 2 rfl) ?_
          refine wr_get hC hinRX7 hW (vM (by decide)) ce_m0 rfl 0 (by decide) hk0 rfl dX7_steps_156 ?_
          refine lv_iload_n hx hb dX7_steps_159 rfl (lv_at hl 3 rfl) ?_
          refine lv_bipush (v := 13) hx hb dX7_steps_160 (by decide) ?_
          refine wc_s hC hml (kX7_at l G (wset Z 12 (bput (bput (bput (bput B 0 2 ((B 0 2) - 1)) 1 (7 + 14 * k + 2) ((B 1 (7 + 14 * k + 2)) + x_10)) 1 (7 + 14 * k + 3) ((B 1 (7 + 14 * k + 3)) + 0)) 1 (7 + 14 * k + 12) ((B 1 (7 + 14 * k + 12)) + 1))) k 13) (cwS 2 hts gX7_steps_X7_at rfl rfl rfl (by decide +kernel) ⟨Nat.le_of_ble_eq_true rfl, Nat.le_of_ble_eq_true rfl⟩) hW hS rfl rfl hl.1 (Nat.le_of_ble_eq_true rfl) dX7_steps_162 (fun H locs hW hS => ?_)
          refine lv_re (y := nI (7 + 14 * k + 13)) rfl ?_
          refine lv_dup2_11 hx hb dX7_steps_165 rfl rfl ?_
          refine wr_ald (kA := 0) hC hW (vM (by decide)) ce_m1 rfl (vp_in_nI (show (7 + 14 * k + 13) < 100 by omega) (by decide)) dX7_steps_166 ?_
          refine lv_re (y := B 1 (7 + 14 * k + 13)) ((((((congrArg ((bput (bput (bput (bput B 0 2 ((B 0 2) - 1)) 1 (7 + 14 * k + 2) ((B 1 (7 + 14 * k + 2)) + x_10)) 1 (7 + 14 * k + 3) ((B 1 (7 + 14 * k + 3)) + 0)) 1 (7 + 14 * k + 12) ((B 1 (7 + 14 * k + 12)) + 1)) 1) (nI_clamp (by omega)))).trans (bput_q (by omega))).trans (bput_q (by omega))).trans (bput_q (by omega))).trans (bput_j (by omega))) ?_
          refine lv_iload_n hx hb dX7_steps_167 rfl (lv_at hl 0 rfl) ?_
          refine lv_if_eq (tgt := 175) hx hb dX7_steps_168 (by decide) (fun c_56 => ?_) (fun c_56 => ?_)
          · exact absurd c_56 (by decide)
          · skip
            refine lv_iconst (v := 1) hx hb dX7_steps_171 (by decide) ?_
            refine lv_goto (tgt := 176) hx hb dX7_steps_172 (by decide) ?_
            refine lv_iadd hx hb dX7_steps_176 ?_
            refine wr_ast (kA := 0) (Z' := wset Z 12 (bput (bput (bput (bput (bput B 0 2 ((B 0 2) - 1)) 1 (7 + 14 * k + 2) ((B 1 (7 + 14 * k + 2)) + x_10)) 1 (7 + 14 * k + 3) ((B 1 (7 + 14 * k + 3)) + 0)) 1 (7 + 14 * k + 12) ((B 1 (7 + 14 * k + 12)) + 1)) 1 (nI (7 + 14 * k + 13)).toNatClampNeg ((B 1 (7 + 14 * k + 13)) + 1))) hC hW hS (vM (by decide)) ce_m1 rfl (vp_in_nI (show (7 + 14 * k + 13) < 100 by omega) (by decide)) wset_off pu_m1 dX7_steps_177 (fun H locs hW hS => ?_)
            rw [nI_clamp (show (7 + 14 * k + 13) < 2 ^ 31 by omega)] at hW
            refine lv_aload_n hx hb dX7_steps_178 rfl (lv_at hl 2 rfl) ?_
            refine wr_get hC hinRX7 hW (vM (by decide)) ce_m0 rfl 0 (by decide) hk0 rfl dX7_steps_179 ?_
            refine lv_iload_n hx hb dX7_steps_182 rfl (lv_at hl 3 rfl) ?_
            refine lv_iconst (v := 5) hx hb dX7_steps_183 (by decide) ?_
            refine wc_s hC hml (kX7_at l G (wset Z 12 (bput (bput (bput (bput (bput B 0 2 ((B 0 2) - 1)) 1 (7 + 14 * k + 2) ((B 1 (7 + 14 * k + 2)) + x_10)) 1 (7 + 14 * k + 3) ((B 1 (7 + 14 * k + 3)) + 0)) 1 (7 + 14 * k + 12) ((B 1 (7 + 14 * k + 12)) + 1)) 1 (7 + 14 * k + 13) ((B 1 (7 + 14 * k + 13)) + 1))) k 5) (cwS 2 hts gX7_steps_X7_at rfl rfl rfl (by decide +kernel) ⟨Nat.le_of_ble_eq_true rfl, Nat.le_of_ble_eq_true rfl⟩) hW hS rfl rfl hl.1 (Nat.le_of_ble_eq_true rfl) dX7_steps_184 (fun H locs hW hS => ?_)
            refine lv_re (y := nI (7 + 14 * k + 5)) rfl ?_
            refine lv_dup2_11 hx hb dX7_steps_187 rfl rfl ?_
            refine wr_ald (kA := 0) hC hW (vM (by decide)) ce_m1 rfl (vp_in_nI (show (7 + 14 * k + 5) < 100 by omega) (by decide)) dX7_steps_188 ?_
            refine lv_re (y := B 1 (7 + 14 * k + 5)) (((((((congrArg ((bput (bput (bput (bput (bput B 0 2 ((B 0 2) - 1)) 1 (7 + 14 * k + 2) ((B 1 (7 + 14 * k + 2)) + x_10)) 1 (7 + 14 * k + 3) ((B 1 (7 + 14 * k + 3)) + 0)) 1 (7 + 14 * k + 12) ((B 1 (7 + 14 * k + 12)) + 1)) 1 (7 + 14 * k + 13) ((B 1 (7 + 14 * k + 13)) + 1)) 1) (nI_clamp (by omega)))).trans (bput_q (by omega))).trans (bput_q (by omega))).trans (bput_q (by omega))).trans (bput_q (by omega))).trans (bput_j (by omega))) ?_
            refine lv_iconst (v := 1) hx hb dX7_steps_189 (by decide) ?_
            refine lv_isub hx hb dX7_steps_190 ?_
            refine wr_ast (kA := 0) (Z' := wset Z 12 (bput (bput (bput (bput (bput (bput B 0 2 ((B 0 2) - 1)) 1 (7 + 14 * k + 2) ((B 1 (7 + 14 * k + 2)) + x_10)) 1 (7 + 14 * k + 3) ((B 1 (7 + 14 * k + 3)) + 0)) 1 (7 + 14 * k + 12) ((B 1 (7 + 14 * k + 12)) + 1)) 1 (7 + 14 * k + 13) ((B 1 (7 + 14 * k + 13)) + 1)) 1 (nI (7 + 14 * k + 5)).toNatClampNeg ((B 1 (7 + 14 * k + 5)) - 1))) hC hW hS (vM (by decide)) ce_m1 rfl (vp_in_nI (show (7 + 14 * k + 5) < 100 by omega) (by decide)) wset_off pu_m1 dX7_steps_191 (fun H locs hW hS => ?_)
            rw [nI_clamp (show (7 + 14 * k + 5) < 2 ^ 31 by omega)] at hW
            refine lv_aload_n hx hb dX7_steps_192 rfl (lv_at hl 2 rfl) ?_
            refine lv_iload_n hx hb dX7_steps_193 rfl (lv_at hl 3 rfl) ?_
            obtain ⟨B_57, eB_57⟩ : ∃ y, y = (bput (bput (bput (bput (bput (bput B 0 2 ((B 0 2) - 1)) 1 (7 + 14 * k + 2) ((B 1 (7 + 14 * k + 2)) + x_10)) 1 (7 + 14 * k + 3) ((B 1 (7 + 14 * k + 3)) + 0)) 1 (7 + 14 * k + 12) ((B 1 (7 + 14 * k + 12)) + 1)) 1 (7 + 14 * k + 13) ((B 1 (7 + 14 * k + 13)) + 1)) 1 (7 + 14 * k + 5) ((B 1 (7 + 14 * k + 5)) - 1)) := ⟨_, rfl⟩
            rw [← eB_57] at hW
            refine wc_i hC hml (kX7_rests l G Z B_57 k (by first | assumption | omega)) (cwV 1 hts gX7_steps_X7_rests rfl rfl rfl (by decide +kernel) ⟨Nat.le_of_ble_eq_true rfl, Nat.le_of_ble_eq_true rfl⟩) hW hS (vM (by decide)) ce_m0 rfl rfl rfl rfl hl.1 (Nat.le_of_ble_eq_true rfl) dX7_steps_194 (fun H locs hW hS => ?_)
            refine lv_topi (fun x_58 ex_58 => ?_)
            refine lv_if_eq (tgt := 247) hx hb dX7_steps_197 (by decide) (fun c_59 => ?_) (fun c_59 => ?_)
            · skip
              refine lv_aload_n hx hb dX7_steps_247 rfl (lv_at hl 2 rfl) ?_
              refine wr_get hC hinRX7 hW (vM (by decide)) ce_m0 rfl 0 (by decide) hk0 rfl dX7_steps_248 ?_
              refine lv_iload_n hx hb dX7_steps_251 rfl (lv_at hl 3 rfl) ?_
              refine lv_bipush (v := 6) hx hb dX7_steps_252 (by decide) ?_
              refine wc_s hC hml (kX7_at l G (wset Z 12 B_57) k 6) (cwS 2 hts gX7_steps_X7_at rfl rfl rfl (by decide +kernel) ⟨Nat.le_of_ble_eq_true rfl, Nat.le_of_ble_eq_true rfl⟩) hW hS rfl rfl hl.1 (Nat.le_of_ble_eq_true rfl) dX7_steps_254 (fun H locs hW hS => ?_)
              refine lv_re (y := nI (7 + 14 * k + 6)) rfl ?_
              refine lv_aload_n hx hb dX7_steps_257 rfl (lv_at hl 2 rfl) ?_
              refine wr_get hC hinRX7 hW (vM (by decide)) ce_m0 rfl 0 (by decide) hk0 rfl dX7_steps_258 ?_
              refine lv_iload_n hx hb dX7_steps_261 rfl (lv_at hl 3 rfl) ?_
              refine lv_bipush (v := 6) hx hb dX7_steps_262 (by decide) ?_
              refine wc_s hC hml (kX7_at l G (wset Z 12 B_57) k 6) (cwS 2 hts gX7_steps_X7_at rfl rfl rfl (by decide +kernel) ⟨Nat.le_of_ble_eq_true rfl, Nat.le_of_ble_eq_true rfl⟩) hW hS rfl rfl hl.1 (Nat.le_of_ble_eq_true rfl) dX7_steps_264 (fun H locs hW hS => ?_)
              refine lv_re (y := nI (7 + 14 * k + 6)) rfl ?_
              refine wr_ald (kA := 0) hC hW (vM (by decide)) ce_m1 rfl (vp_in_nI (show (7 + 14 * k + 6) < 100 by omega) (by decide)) dX7_steps_267 ?_
              refine lv_re (y := B 1 (7 + 14 * k + 6)) (((((((((congrArg (B_57 1) (nI_clamp (by omega)))).trans ((congrFun (congrFun eB_57 _) _))).trans (bput_q (by omega))).trans (bput_q (by omega))).trans (bput_q (by omega))).trans (bput_q (by omega))).trans (bput_q (by omega))).trans (bput_j (by omega))) ?_
              refine lv_aload_n hx hb dX7_steps_268 rfl (lv_at hl 2 rfl) ?_
              refine wr_get hC hinRX7 hW (vM (by decide)) ce_m0 rfl 0 (by decide) hk0 rfl dX7_steps_269 ?_
              refine lv_iload_n hx hb dX7_steps_272 rfl (lv_at hl 3 rfl) ?_
              refine lv_iconst (v := 5) hx hb dX7_steps_273 (by decide) ?_
              refine wc_s hC hml (kX7_at l G (wset Z 12 B_57) k 5) (cwS 2 hts gX7_steps_X7_at rfl rfl rfl (by decide +kernel) ⟨Nat.le_of_ble_eq_true rfl, Nat.le_of_ble_eq_true rfl⟩) hW hS rfl rfl hl.1 (Nat.le_of_ble_eq_true rfl) dX7_steps_274 (fun H locs hW hS => ?_)
              refine lv_re (y := nI (7 + 14 * k + 5)) rfl ?_
              refine wr_ald (kA := 0) hC hW (vM (by decide)) ce_m1 rfl (vp_in_nI (show (7 + 14 * k + 5) < 100 by omega) (by decide)) dX7_steps_277 ?_
              refine lv_re (y := (B 1 (7 + 14 * k + 5)) - 1) ((((congrArg (B_57 1) (nI_clamp (by omega)))).trans ((congrFun (congrFun eB_57 _) _))).trans (bput_h)) ?_
              refine lv_aload_n hx hb dX7_steps_278 rfl (lv_at hl 2 rfl) ?_
              refine lv_aload_n hx hb dX7_steps_279 rfl (lv_at hl 2 rfl) ?_
              refine wr_get hC hinRX7 hW (vM (by decide)) ce_m0 rfl 0 (by decide) hk0 rfl dX7_steps_280 ?_
              refine lv_iconst (v := 2) hx hb dX7_steps_283 (by decide) ?_
              refine wr_ald (kA := 0) hC hW (vM (by decide)) ce_m1 rfl (vp_in_iff.mpr (by decide)) dX7_steps_284 ?_
              refine lv_re (y := B 1 2) (((((((((congrArg (B_57 1) (show (2 : Int32).toNatClampNeg = 2 by decide))).trans ((congrFun (congrFun eB_57 _) _))).trans (bput_q (by omega))).trans (bput_q (by omega))).trans (bput_q (by omega))).trans (bput_q (by omega))).trans (bput_q (by omega))).trans (bput_j (by omega))) ?_
              refine wc_i hC hml (kX7_highestBy l G Z B_57 (B 1 2) (by first | assumption | omega)) (cwV 1 hts gX7_steps_X7_highestBy rfl rfl rfl (by decide +kernel) ⟨Nat.le_of_ble_eq_true rfl, Nat.le_of_ble_eq_true rfl⟩) hW hS (vM (by decide)) ce_m0 rfl rfl rfl rfl hl.1 (Nat.le_of_ble_eq_true rfl) dX7_steps_285 (fun H locs hW hS => ?_)
              refine lv_topi (fun x_60 ex_60 => ?_)
              refine wc_s hC hml (kX7_nextLevel l G (wset Z 12 B_57) (B 1 (7 + 14 * k + 6)) ((B 1 (7 + 14 * k + 5)) - 1) x_60) (cwS 3 hts gX7_steps_X7_nextLevel rfl rfl rfl (by decide +kernel) ⟨Nat.le_of_ble_eq_true rfl, Nat.le_of_ble_eq_true rfl⟩) hW hS rfl rfl hl.1 (Nat.le_of_ble_eq_true rfl) dX7_steps_288 (fun H locs hW hS => ?_)
              refine lv_topi (fun x_61 ex_61 => ?_)
              refine wr_ast (kA := 0) (Z' := wset Z 12 (bput B_57 1 (nI (7 + 14 * k + 6)).toNatClampNeg x_61)) hC hW hS (vM (by decide)) ce_m1 rfl (vp_in_nI (show (7 + 14 * k + 6) < 100 by omega) (by decide)) wset_off pu_m1 dX7_steps_291 (fun H locs hW hS => ?_)
              rw [nI_clamp (show (7 + 14 * k + 6) < 2 ^ 31 by omega)] at hW
              refine lv_aload_n hx hb dX7_steps_292 rfl (lv_at hl 2 rfl) ?_
              refine wr_get hC hinRX7 hW (vM (by decide)) ce_m0 rfl 0 (by decide) hk0 rfl dX7_steps_293 ?_
              refine lv_iload_n hx hb dX7_steps_296 rfl (lv_at hl 3 rfl) ?_
              refine lv_bipush (v := 7) hx hb dX7_steps_297 (by decide) ?_
              refine wc_s hC hml (kX7_at l G (wset Z 12 (bput B_57 1 (7 + 14 * k + 6) x_61)) k 7) (cwS 2 hts gX7_steps_X7_at rfl rfl rfl (by decide +kernel) ⟨Nat.le_of_ble_eq_true rfl, Nat.le_of_ble_eq_true rfl⟩) hW hS rfl rfl hl.1 (Nat.le_of_ble_eq_true rfl) dX7_steps_299 (fun H locs hW hS => ?_)
              refine lv_re (y := nI (7 + 14 * k + 7)) rfl ?_
              refine lv_aload_n hx hb dX7_steps_302 rfl (lv_at hl 2 rfl) ?_
              refine wr_get hC hinRX7 hW (vM (by decide)) ce_m0 rfl 0 (by decide) hk0 rfl dX7_steps_303 ?_
              refine lv_iconst (v := 5) hx hb dX7_steps_306 (by decide) ?_
              refine wr_ald (kA := 0) hC hW (vM (by decide)) ce_m1 rfl (vp_in_iff.mpr (by decide)) dX7_steps_307 ?_
              refine lv_re (y := B 1 5) ((((((((((congrArg ((bput B_57 1 (7 + 14 * k + 6) x_61) 1) (show (5 : Int32).toNatClampNeg = 5 by decide))).trans (bput_q (by omega))).trans ((congrFun (congrFun eB_57 _) _))).trans (bput_q (by omega))).trans (bput_q (by omega))).trans (bput_q (by omega))).trans (bput_q (by omega))).trans (bput_q (by omega))).trans (bput_q (by decide))) ?_
              refine lv_aload_n hx hb dX7_steps_308 rfl (lv_at hl 2 rfl) ?_
              refine lv_aload_n hx hb dX7_steps_309 rfl (lv_at hl 2 rfl) ?_
              refine wr_get hC hinRX7 hW (vM (by decide)) ce_m0 rfl 0 (by decide) hk0 rfl dX7_steps_310 ?_
              refine lv_iload_n hx hb dX7_steps_313 rfl (lv_at hl 3 rfl) ?_
              refine lv_bipush (v := 6) hx hb dX7_steps_314 (by decide) ?_
              refine wc_s hC hml (kX7_at l G (wset Z 12 (bput B_57 1 (7 + 14 * k + 6) x_61)) k 6) (cwS 2 hts gX7_steps_X7_at rfl rfl rfl (by decide +kernel) ⟨Nat.le_of_ble_eq_true rfl, Nat.le_of_ble_eq_true rfl⟩) hW hS rfl rfl hl.1 (Nat.le_of_ble_eq_true rfl) dX7_steps_316 (fun H locs hW hS => ?_)
              refine lv_re (y := nI (7 + 14 * k + 6)) rfl ?_
              refine wr_ald (kA := 0) hC hW (vM (by decide)) ce_m1 rfl (vp_in_nI (show (7 + 14 * k + 6) < 100 by omega) (by decide)) dX7_steps_319 ?_
              refine lv_re (y := x_61) (((congrArg ((bput B_57 1 (7 + 14 * k + 6) x_61) 1) (nI_clamp (by omega)))).trans (bput_h)) ?_
              refine lv_aload_n hx hb dX7_steps_320 rfl (lv_at hl 2 rfl) ?_
              refine wr_get hC hinRX7 hW (vM (by decide)) ce_m0 rfl 0 (by decide) hk0 rfl dX7_steps_321 ?_
              refine lv_iconst (v := 2) hx hb dX7_steps_324 (by decide) ?_
              refine wr_ald (kA := 0) hC hW (vM (by decide)) ce_m1 rfl (vp_in_iff.mpr (by decide)) dX7_steps_325 ?_
              refine lv_re (y := B 1 2) ((((((((((congrArg ((bput B_57 1 (7 + 14 * k + 6) x_61) 1) (show (2 : Int32).toNatClampNeg = 2 by decide))).trans (bput_q (by omega))).trans ((congrFun (congrFun eB_57 _) _))).trans (bput_q (by omega))).trans (bput_q (by omega))).trans (bput_q (by omega))).trans (bput_q (by omega))).trans (bput_q (by omega))).trans (bput_j (by omega))) ?_
              obtain ⟨B_62, eB_62⟩ : ∃ y, y = (bput B_57 1 (7 + 14 * k + 6) x_61) := ⟨_, rfl⟩
              rw [← eB_62] at hW
              refine wc_i hC hml (kX7_intervalBy l G Z B_62 x_61 (B 1 2)) (cwV 2 hts gX7_steps_X7_intervalBy rfl rfl rfl (by decide +kernel) ⟨Nat.le_of_ble_eq_true rfl, Nat.le_of_ble_eq_true rfl⟩) hW hS (vM (by decide)) ce_m0 rfl rfl rfl rfl hl.1 (Nat.le_of_ble_eq_true rfl) dX7_steps_326 (fun H locs hW hS => ?_)
              refine lv_topi (fun x_63 ex_63 => ?_)
              refine lv_iadd hx hb dX7_steps_329 ?_
              refine wr_ast (kA := 0) (Z' := wset Z 12 (bput B_62 1 (nI (7 + 14 * k + 7)).toNatClampNeg ((B 1 5) + x_63))) hC hW hS (vM (by decide)) ce_m1 rfl (vp_in_nI (show (7 + 14 * k + 7) < 100 by omega) (by decide)) wset_off pu_m1 dX7_steps_330 (fun H locs hW hS => ?_)
              rw [nI_clamp (show (7 + 14 * k + 7) < 2 ^ 31 by omega)] at hW
              have hf : fX7_steps B k = (bput B_62 1 (7 + 14 * k + 7) ((B 1 5) + x_63)) := by
                subst ex_63
                subst eB_62
                subst ex_61
                subst ex_60
                subst ex_58
                subst eB_57
                subst ex_12
                subst ex_11
                subst ex_10
                exact (if_neg c_13).trans ((if_neg c_53).trans ((if_pos c_54).trans ((if_pos c_59).trans rfl)))
              exact we_v hC hr hlocks (congrArg (wset Z 12) hf).symm hW hS dX7_steps_331
            · skip
              refine lv_aload_n hx hb dX7_steps_200 rfl (lv_at hl 2 rfl) ?_
              refine wr_get hC hinRX7 hW (vM (by decide)) ce_m0 rfl 0 (by decide) hk0 rfl dX7_steps_201 ?_
              refine lv_iload_n hx hb dX7_steps_204 rfl (lv_at hl 3 rfl) ?_
              refine lv_bipush (v := 6) hx hb dX7_steps_205 (by decide) ?_
              refine wc_s hC hml (kX7_at l G (wset Z 12 B_57) k 6) (cwS 2 hts gX7_steps_X7_at rfl rfl rfl (by decide +kernel) ⟨Nat.le_of_ble_eq_true rfl, Nat.le_of_ble_eq_true rfl⟩) hW hS rfl rfl hl.1 (Nat.le_of_ble_eq_true rfl) dX7_steps_207 (fun H locs hW hS => ?_)
              refine lv_re (y := nI (7 + 14 * k + 6)) rfl ?_
              refine lv_iconst (v := 0) hx hb dX7_steps_210 (by decide) ?_
              refine wr_ast (kA := 0) (Z' := wset Z 12 (bput B_57 1 (nI (7 + 14 * k + 6)).toNatClampNeg 0)) hC hW hS (vM (by decide)) ce_m1 rfl (vp_in_nI (show (7 + 14 * k + 6) < 100 by omega) (by decide)) wset_off pu_m1 dX7_steps_211 (fun H locs hW hS => ?_)
              rw [nI_clamp (show (7 + 14 * k + 6) < 2 ^ 31 by omega)] at hW
              have hf : fX7_steps B k = LX7_sw k 3 (bput B_57 1 (7 + 14 * k + 6) 0) := by
                subst ex_58
                subst eB_57
                subst ex_12
                subst ex_11
                subst ex_10
                exact (if_neg c_13).trans ((if_neg c_53).trans ((if_pos c_54).trans ((if_neg c_59).trans rfl)))
              exact hlp_1 3 (bput B_57 1 (7 + 14 * k + 6) 0) (by rw [show (bput B_57 1 (7 + 14 * k + 6) 0) 1 (7 + 14 * k + 0) = B 1 (7 + 14 * k + 0) from (((((((bput_q (by omega)).trans ((congrFun (congrFun eB_57 _) _))).trans (bput_q (by omega))).trans (bput_q (by omega))).trans (bput_q (by omega))).trans (bput_q (by omega))).trans (bput_q (by omega))).trans (bput_j (by omega))]; exact hmi) (by rw [show (bput B_57 1 (7 + 14 * k + 6) 0) 1 (7 + 14 * k + 8) = B 1 (7 + 14 * k + 8) from (((((((bput_q (by omega)).trans ((congrFun (congrFun eB_57 _) _))).trans (bput_q (by omega))).trans (bput_q (by omega))).trans (bput_q (by omega))).trans (bput_q (by omega))).trans (bput_q (by omega))).trans (bput_j (by omega))]; exact hw) hf _ _ _ hW hS (lv_sub hl [2, 3] rfl)
      · skip
        refine lv_iconst (v := 0) hx hb dX7_steps_95 (by decide) ?_
        refine lv_goto (tgt := 100) hx hb dX7_steps_96 (by decide) ?_
        refine lv_isub hx hb dX7_steps_100 ?_
        refine wr_put (Z' := wset Z 12 (bput B 0 2 ((B 0 2) - 0))) (v := .int ((B 0 2) - 0)) hC hinRX7 tyX7 tyX7_ok nmX7 hW hS (vM (by decide)) ce_m0 rfl 8 (by decide) hk1 rfl (tyX7_ok 8 (by decide)) rfl rfl (Nat.le_of_ble_eq_true rfl) wset_off pu_m0_2 dX7_steps_101 (fun H locs hW hS => ?_)
        refine lv_aload_n hx hb dX7_steps_104 rfl (lv_at hl 2 rfl) ?_
        refine wr_get hC hinRX7 hW (vM (by decide)) ce_m0 rfl 0 (by decide) hk0 rfl dX7_steps_105 ?_
        refine lv_iload_n hx hb dX7_steps_108 rfl (lv_at hl 3 rfl) ?_
        refine lv_iconst (v := 2) hx hb dX7_steps_109 (by decide) ?_
        refine wc_s hC hml (kX7_at l G (wset Z 12 (bput B 0 2 ((B 0 2) - 0))) k 2) (cwS 2 hts gX7_steps_X7_at rfl rfl rfl (by decide +kernel) ⟨Nat.le_of_ble_eq_true rfl, Nat.le_of_ble_eq_true rfl⟩) hW hS rfl rfl hl.1 (Nat.le_of_ble_eq_true rfl) dX7_steps_110 (fun H locs hW hS => ?_)
        refine lv_re (y := nI (7 + 14 * k + 2)) rfl ?_
        refine lv_dup2_11 hx hb dX7_steps_113 rfl rfl ?_
        refine wr_ald (kA := 0) hC hW (vM (by decide)) ce_m1 rfl (vp_in_nI (show (7 + 14 * k + 2) < 100 by omega) (by decide)) dX7_steps_114 ?_
        refine lv_re (y := B 1 (7 + 14 * k + 2)) (((congrArg ((bput B 0 2 ((B 0 2) - 0)) 1) (nI_clamp (by omega)))).trans (bput_j (by omega))) ?_
        refine lv_iload_n hx hb dX7_steps_115 rfl (lv_at hl 1 rfl) ?_
        refine lv_iadd hx hb dX7_steps_116 ?_
        refine wr_ast (kA := 0) (Z' := wset Z 12 (bput (bput B 0 2 ((B 0 2) - 0)) 1 (nI (7 + 14 * k + 2)).toNatClampNeg ((B 1 (7 + 14 * k + 2)) + x_10))) hC hW hS (vM (by decide)) ce_m1 rfl (vp_in_nI (show (7 + 14 * k + 2) < 100 by omega) (by decide)) wset_off pu_m1 dX7_steps_117 (fun H locs hW hS => ?_)
        rw [nI_clamp (show (7 + 14 * k + 2) < 2 ^ 31 by omega)] at hW
        refine lv_aload_n hx hb dX7_steps_118 rfl (lv_at hl 2 rfl) ?_
        refine wr_get hC hinRX7 hW (vM (by decide)) ce_m0 rfl 0 (by decide) hk0 rfl dX7_steps_119 ?_
        refine lv_iload_n hx hb dX7_steps_122 rfl (lv_at hl 3 rfl) ?_
        refine lv_iconst (v := 3) hx hb dX7_steps_123 (by decide) ?_
        refine wc_s hC hml (kX7_at l G (wset Z 12 (bput (bput B 0 2 ((B 0 2) - 0)) 1 (7 + 14 * k + 2) ((B 1 (7 + 14 * k + 2)) + x_10))) k 3) (cwS 2 hts gX7_steps_X7_at rfl rfl rfl (by decide +kernel) ⟨Nat.le_of_ble_eq_true rfl, Nat.le_of_ble_eq_true rfl⟩) hW hS rfl rfl hl.1 (Nat.le_of_ble_eq_true rfl) dX7_steps_124 (fun H locs hW hS => ?_)
        refine lv_re (y := nI (7 + 14 * k + 3)) rfl ?_
        refine lv_dup2_11 hx hb dX7_steps_127 rfl rfl ?_
        refine wr_ald (kA := 0) hC hW (vM (by decide)) ce_m1 rfl (vp_in_nI (show (7 + 14 * k + 3) < 100 by omega) (by decide)) dX7_steps_128 ?_
        refine lv_re (y := B 1 (7 + 14 * k + 3)) ((((congrArg ((bput (bput B 0 2 ((B 0 2) - 0)) 1 (7 + 14 * k + 2) ((B 1 (7 + 14 * k + 2)) + x_10)) 1) (nI_clamp (by omega)))).trans (bput_q (by omega))).trans (bput_j (by omega))) ?_
        refine lv_iload_n hx hb dX7_steps_129 rfl (lv_at hl 0 rfl) ?_
        refine lv_if_eq (tgt := 137) hx hb dX7_steps_130 (by decide) (fun c_64 => ?_) (fun c_64 => ?_)
        · exact absurd c_64 (by decide)
        · skip
          refine lv_iconst (v := 0) hx hb dX7_steps_133 (by decide) ?_
          refine lv_goto (tgt := 138) hx hb dX7_steps_134 (by decide) ?_
          refine lv_iadd hx hb dX7_steps_138 ?_
          refine wr_ast (kA := 0) (Z' := wset Z 12 (bput (bput (bput B 0 2 ((B 0 2) - 0)) 1 (7 + 14 * k + 2) ((B 1 (7 + 14 * k + 2)) + x_10)) 1 (nI (7 + 14 * k + 3)).toNatClampNeg ((B 1 (7 + 14 * k + 3)) + 0))) hC hW hS (vM (by decide)) ce_m1 rfl (vp_in_nI (show (7 + 14 * k + 3) < 100 by omega) (by decide)) wset_off pu_m1 dX7_steps_139 (fun H locs hW hS => ?_)
          rw [nI_clamp (show (7 + 14 * k + 3) < 2 ^ 31 by omega)] at hW
          refine lv_aload_n hx hb dX7_steps_140 rfl (lv_at hl 2 rfl) ?_
          refine wr_get hC hinRX7 hW (vM (by decide)) ce_m0 rfl 0 (by decide) hk0 rfl dX7_steps_141 ?_
          refine lv_iload_n hx hb dX7_steps_144 rfl (lv_at hl 3 rfl) ?_
          refine lv_bipush (v := 12) hx hb dX7_steps_145 (by decide) ?_
          refine wc_s hC hml (kX7_at l G (wset Z 12 (bput (bput (bput B 0 2 ((B 0 2) - 0)) 1 (7 + 14 * k + 2) ((B 1 (7 + 14 * k + 2)) + x_10)) 1 (7 + 14 * k + 3) ((B 1 (7 + 14 * k + 3)) + 0))) k 12) (cwS 2 hts gX7_steps_X7_at rfl rfl rfl (by decide +kernel) ⟨Nat.le_of_ble_eq_true rfl, Nat.le_of_ble_eq_true rfl⟩) hW hS rfl rfl hl.1 (Nat.le_of_ble_eq_true rfl) dX7_steps_147 (fun H locs hW hS => ?_)
          refine lv_re (y := nI (7 + 14 * k + 12)) rfl ?_
          refine lv_dup2_11 hx hb dX7_steps_150 rfl rfl ?_
          refine wr_ald (kA := 0) hC hW (vM (by decide)) ce_m1 rfl (vp_in_nI (show (7 + 14 * k + 12) < 100 by omega) (by decide)) dX7_steps_151 ?_
          refine lv_re (y := B 1 (7 + 14 * k + 12)) (((((congrArg ((bput (bput (bput B 0 2 ((B 0 2) - 0)) 1 (7 + 14 * k + 2) ((B 1 (7 + 14 * k + 2)) + x_10)) 1 (7 + 14 * k + 3) ((B 1 (7 + 14 * k + 3)) + 0)) 1) (nI_clamp (by omega)))).trans (bput_q (by omega))).trans (bput_q (by omega))).trans (bput_j (by omega))) ?_
          refine lv_iconst (v := 1) hx hb dX7_steps_152 (by decide) ?_
          refine lv_iadd hx hb dX7_steps_153 ?_
          refine wr_ast (kA := 0) (Z' := wset Z 12 (bput (bput (bput (bput B 0 2 ((B 0 2) - 0)) 1 (7 + 14 * k + 2) ((B 1 (7 + 14 * k + 2)) + x_10)) 1 (7 + 14 * k + 3) ((B 1 (7 + 14 * k + 3)) + 0)) 1 (nI (7 + 14 * k + 12)).toNatClampNeg ((B 1 (7 + 14 * k + 12)) + 1))) hC hW hS (vM (by decide)) ce_m1 rfl (vp_in_nI (show (7 + 14 * k + 12) < 100 by omega) (by decide)) wset_off pu_m1 dX7_steps_154 (fun H locs hW hS => ?_)
          rw [nI_clamp (show (7 + 14 * k + 12) < 2 ^ 31 by omega)] at hW
          refine lv_aload_n hx hb dX7_steps_155 rfl (lv_at hl 2 rfl) ?_
          refine wr_get hC hinRX7 hW (vM (by decide)) ce_m0 rfl 0 (by decide) hk0 rfl dX7_steps_156 ?_
          refine lv_iload_n hx hb dX7_steps_159 rfl (lv_at hl 3 rfl) ?_
          refine lv_bipush (v := 13) hx hb dX7_steps_160 (by decide) ?_
          refine wc_s hC hml (kX7_at l G (wset Z 12 (bput (bput (bput (bput B 0 2 ((B 0 2) - 0)) 1 (7 + 14 * k + 2) ((B 1 (7 + 14 * k + 2)) + x_10)) 1 (7 + 14 * k + 3) ((B 1 (7 + 14 * k + 3)) + 0)) 1 (7 + 14 * k + 12) ((B 1 (7 + 14 * k + 12)) + 1))) k 13) (cwS 2 hts gX7_steps_X7_at rfl rfl rfl (by decide +kernel) ⟨Nat.le_of_ble_eq_true rfl, Nat.le_of_ble_eq_true rfl⟩) hW hS rfl rfl hl.1 (Nat.le_of_ble_eq_true rfl) dX7_steps_162 (fun H locs hW hS => ?_)
          refine lv_re (y := nI (7 + 14 * k + 13)) rfl ?_
          refine lv_dup2_11 hx hb dX7_steps_165 rfl rfl ?_
          refine wr_ald (kA := 0) hC hW (vM (by decide)) ce_m1 rfl (vp_in_nI (show (7 + 14 * k + 13) < 100 by omega) (by decide)) dX7_steps_166 ?_
          refine lv_re (y := B 1 (7 + 14 * k + 13)) ((((((congrArg ((bput (bput (bput (bput B 0 2 ((B 0 2) - 0)) 1 (7 + 14 * k + 2) ((B 1 (7 + 14 * k + 2)) + x_10)) 1 (7 + 14 * k + 3) ((B 1 (7 + 14 * k + 3)) + 0)) 1 (7 + 14 * k + 12) ((B 1 (7 + 14 * k + 12)) + 1)) 1) (nI_clamp (by omega)))).trans (bput_q (by omega))).trans (bput_q (by omega))).trans (bput_q (by omega))).trans (bput_j (by omega))) ?_
          refine lv_iload_n hx hb dX7_steps_167 rfl (lv_at hl 0 rfl) ?_
          refine lv_if_eq (tgt := 175) hx hb dX7_steps_168 (by decide) (fun c_65 => ?_) (fun c_65 => ?_)
          · exact absurd c_65 (by decide)
          · skip
            refine lv_iconst (v := 1) hx hb dX7_steps_171 (by decide) ?_
            refine lv_goto (tgt := 176) hx hb dX7_steps_172 (by decide) ?_
            refine lv_iadd hx hb dX7_steps_176 ?_
            refine wr_ast (kA := 0) (Z' := wset Z 12 (bput (bput (bput (bput (bput B 0 2 ((B 0 2) - 0)) 1 (7 + 14 * k + 2) ((B 1 (7 + 14 * k + 2)) + x_10)) 1 (7 + 14 * k + 3) ((B 1 (7 + 14 * k + 3)) + 0)) 1 (7 + 14 * k + 12) ((B 1 (7 + 14 * k + 12)) + 1)) 1 (nI (7 + 14 * k + 13)).toNatClampNeg ((B 1 (7 + 14 * k + 13)) + 1))) hC hW hS (vM (by decide)) ce_m1 rfl (vp_in_nI (show (7 + 14 * k + 13) < 100 by omega) (by decide)) wset_off pu_m1 dX7_steps_177 (fun H locs hW hS => ?_)
            rw [nI_clamp (show (7 + 14 * k + 13) < 2 ^ 31 by omega)] at hW
            refine lv_aload_n hx hb dX7_steps_178 rfl (lv_at hl 2 rfl) ?_
            refine wr_get hC hinRX7 hW (vM (by decide)) ce_m0 rfl 0 (by decide) hk0 rfl dX7_steps_179 ?_
            refine lv_iload_n hx hb dX7_steps_182 rfl (lv_at hl 3 rfl) ?_
            refine lv_iconst (v := 5) hx hb dX7_steps_183 (by decide) ?_
            refine wc_s hC hml (kX7_at l G (wset Z 12 (bput (bput (bput (bput (bput B 0 2 ((B 0 2) - 0)) 1 (7 + 14 * k + 2) ((B 1 (7 + 14 * k + 2)) + x_10)) 1 (7 + 14 * k + 3) ((B 1 (7 + 14 * k + 3)) + 0)) 1 (7 + 14 * k + 12) ((B 1 (7 + 14 * k + 12)) + 1)) 1 (7 + 14 * k + 13) ((B 1 (7 + 14 * k + 13)) + 1))) k 5) (cwS 2 hts gX7_steps_X7_at rfl rfl rfl (by decide +kernel) ⟨Nat.le_of_ble_eq_true rfl, Nat.le_of_ble_eq_true rfl⟩) hW hS rfl rfl hl.1 (Nat.le_of_ble_eq_true rfl) dX7_steps_184 (fun H locs hW hS => ?_)
            refine lv_re (y := nI (7 + 14 * k + 5)) rfl ?_
            refine lv_dup2_11 hx hb dX7_steps_187 rfl rfl ?_
            refine wr_ald (kA := 0) hC hW (vM (by decide)) ce_m1 rfl (vp_in_nI (show (7 + 14 * k + 5) < 100 by omega) (by decide)) dX7_steps_188 ?_
            refine lv_re (y := B 1 (7 + 14 * k + 5)) (((((((congrArg ((bput (bput (bput (bput (bput B 0 2 ((B 0 2) - 0)) 1 (7 + 14 * k + 2) ((B 1 (7 + 14 * k + 2)) + x_10)) 1 (7 + 14 * k + 3) ((B 1 (7 + 14 * k + 3)) + 0)) 1 (7 + 14 * k + 12) ((B 1 (7 + 14 * k + 12)) + 1)) 1 (7 + 14 * k + 13) ((B 1 (7 + 14 * k + 13)) + 1)) 1) (nI_clamp (by omega)))).trans (bput_q (by omega))).trans (bput_q (by omega))).trans (bput_q (by omega))).trans (bput_q (by omega))).trans (bput_j (by omega))) ?_
            refine lv_iconst (v := 1) hx hb dX7_steps_189 (by decide) ?_
            refine lv_isub hx hb dX7_steps_190 ?_
            refine wr_ast (kA := 0) (Z' := wset Z 12 (bput (bput (bput (bput (bput (bput B 0 2 ((B 0 2) - 0)) 1 (7 + 14 * k + 2) ((B 1 (7 + 14 * k + 2)) + x_10)) 1 (7 + 14 * k + 3) ((B 1 (7 + 14 * k + 3)) + 0)) 1 (7 + 14 * k + 12) ((B 1 (7 + 14 * k + 12)) + 1)) 1 (7 + 14 * k + 13) ((B 1 (7 + 14 * k + 13)) + 1)) 1 (nI (7 + 14 * k + 5)).toNatClampNeg ((B 1 (7 + 14 * k + 5)) - 1))) hC hW hS (vM (by decide)) ce_m1 rfl (vp_in_nI (show (7 + 14 * k + 5) < 100 by omega) (by decide)) wset_off pu_m1 dX7_steps_191 (fun H locs hW hS => ?_)
            rw [nI_clamp (show (7 + 14 * k + 5) < 2 ^ 31 by omega)] at hW
            refine lv_aload_n hx hb dX7_steps_192 rfl (lv_at hl 2 rfl) ?_
            refine lv_iload_n hx hb dX7_steps_193 rfl (lv_at hl 3 rfl) ?_
            obtain ⟨B_66, eB_66⟩ : ∃ y, y = (bput (bput (bput (bput (bput (bput B 0 2 ((B 0 2) - 0)) 1 (7 + 14 * k + 2) ((B 1 (7 + 14 * k + 2)) + x_10)) 1 (7 + 14 * k + 3) ((B 1 (7 + 14 * k + 3)) + 0)) 1 (7 + 14 * k + 12) ((B 1 (7 + 14 * k + 12)) + 1)) 1 (7 + 14 * k + 13) ((B 1 (7 + 14 * k + 13)) + 1)) 1 (7 + 14 * k + 5) ((B 1 (7 + 14 * k + 5)) - 1)) := ⟨_, rfl⟩
            rw [← eB_66] at hW
            refine wc_i hC hml (kX7_rests l G Z B_66 k (by first | assumption | omega)) (cwV 1 hts gX7_steps_X7_rests rfl rfl rfl (by decide +kernel) ⟨Nat.le_of_ble_eq_true rfl, Nat.le_of_ble_eq_true rfl⟩) hW hS (vM (by decide)) ce_m0 rfl rfl rfl rfl hl.1 (Nat.le_of_ble_eq_true rfl) dX7_steps_194 (fun H locs hW hS => ?_)
            refine lv_topi (fun x_67 ex_67 => ?_)
            refine lv_if_eq (tgt := 247) hx hb dX7_steps_197 (by decide) (fun c_68 => ?_) (fun c_68 => ?_)
            · skip
              refine lv_aload_n hx hb dX7_steps_247 rfl (lv_at hl 2 rfl) ?_
              refine wr_get hC hinRX7 hW (vM (by decide)) ce_m0 rfl 0 (by decide) hk0 rfl dX7_steps_248 ?_
              refine lv_iload_n hx hb dX7_steps_251 rfl (lv_at hl 3 rfl) ?_
              refine lv_bipush (v := 6) hx hb dX7_steps_252 (by decide) ?_
              refine wc_s hC hml (kX7_at l G (wset Z 12 B_66) k 6) (cwS 2 hts gX7_steps_X7_at rfl rfl rfl (by decide +kernel) ⟨Nat.le_of_ble_eq_true rfl, Nat.le_of_ble_eq_true rfl⟩) hW hS rfl rfl hl.1 (Nat.le_of_ble_eq_true rfl) dX7_steps_254 (fun H locs hW hS => ?_)
              refine lv_re (y := nI (7 + 14 * k + 6)) rfl ?_
              refine lv_aload_n hx hb dX7_steps_257 rfl (lv_at hl 2 rfl) ?_
              refine wr_get hC hinRX7 hW (vM (by decide)) ce_m0 rfl 0 (by decide) hk0 rfl dX7_steps_258 ?_
              refine lv_iload_n hx hb dX7_steps_261 rfl (lv_at hl 3 rfl) ?_
              refine lv_bipush (v := 6) hx hb dX7_steps_262 (by decide) ?_
              refine wc_s hC hml (kX7_at l G (wset Z 12 B_66) k 6) (cwS 2 hts gX7_steps_X7_at rfl rfl rfl (by decide +kernel) ⟨Nat.le_of_ble_eq_true rfl, Nat.le_of_ble_eq_true rfl⟩) hW hS rfl rfl hl.1 (Nat.le_of_ble_eq_true rfl) dX7_steps_264 (fun H locs hW hS => ?_)
              refine lv_re (y := nI (7 + 14 * k + 6)) rfl ?_
              refine wr_ald (kA := 0) hC hW (vM (by decide)) ce_m1 rfl (vp_in_nI (show (7 + 14 * k + 6) < 100 by omega) (by decide)) dX7_steps_267 ?_
              refine lv_re (y := B 1 (7 + 14 * k + 6)) (((((((((congrArg (B_66 1) (nI_clamp (by omega)))).trans ((congrFun (congrFun eB_66 _) _))).trans (bput_q (by omega))).trans (bput_q (by omega))).trans (bput_q (by omega))).trans (bput_q (by omega))).trans (bput_q (by omega))).trans (bput_j (by omega))) ?_
              refine lv_aload_n hx hb dX7_steps_268 rfl (lv_at hl 2 rfl) ?_
              refine wr_get hC hinRX7 hW (vM (by decide)) ce_m0 rfl 0 (by decide) hk0 rfl dX7_steps_269 ?_
              refine lv_iload_n hx hb dX7_steps_272 rfl (lv_at hl 3 rfl) ?_
              refine lv_iconst (v := 5) hx hb dX7_steps_273 (by decide) ?_
              refine wc_s hC hml (kX7_at l G (wset Z 12 B_66) k 5) (cwS 2 hts gX7_steps_X7_at rfl rfl rfl (by decide +kernel) ⟨Nat.le_of_ble_eq_true rfl, Nat.le_of_ble_eq_true rfl⟩) hW hS rfl rfl hl.1 (Nat.le_of_ble_eq_true rfl) dX7_steps_274 (fun H locs hW hS => ?_)
              refine lv_re (y := nI (7 + 14 * k + 5)) rfl ?_
              refine wr_ald (kA := 0) hC hW (vM (by decide)) ce_m1 rfl (vp_in_nI (show (7 + 14 * k + 5) < 100 by omega) (by decide)) dX7_steps_277 ?_
              refine lv_re (y := (B 1 (7 + 14 * k + 5)) - 1) ((((congrArg (B_66 1) (nI_clamp (by omega)))).trans ((congrFun (congrFun eB_66 _) _))).trans (bput_h)) ?_
              refine lv_aload_n hx hb dX7_steps_278 rfl (lv_at hl 2 rfl) ?_
              refine lv_aload_n hx hb dX7_steps_279 rfl (lv_at hl 2 rfl) ?_
              refine wr_get hC hinRX7 hW (vM (by decide)) ce_m0 rfl 0 (by decide) hk0 rfl dX7_steps_280 ?_
              refine lv_iconst (v := 2) hx hb dX7_steps_283 (by decide) ?_
              refine wr_ald (kA := 0) hC hW (vM (by decide)) ce_m1 rfl (vp_in_iff.mpr (by decide)) dX7_steps_284 ?_
              refine lv_re (y := B 1 2) (((((((((congrArg (B_66 1) (show (2 : Int32).toNatClampNeg = 2 by decide))).trans ((congrFun (congrFun eB_66 _) _))).trans (bput_q (by omega))).trans (bput_q (by omega))).trans (bput_q (by omega))).trans (bput_q (by omega))).trans (bput_q (by omega))).trans (bput_j (by omega))) ?_
              refine wc_i hC hml (kX7_highestBy l G Z B_66 (B 1 2) (by first | assumption | omega)) (cwV 1 hts gX7_steps_X7_highestBy rfl rfl rfl (by decide +kernel) ⟨Nat.le_of_ble_eq_true rfl, Nat.le_of_ble_eq_true rfl⟩) hW hS (vM (by decide)) ce_m0 rfl rfl rfl rfl hl.1 (Nat.le_of_ble_eq_true rfl) dX7_steps_285 (fun H locs hW hS => ?_)
              refine lv_topi (fun x_69 ex_69 => ?_)
              refine wc_s hC hml (kX7_nextLevel l G (wset Z 12 B_66) (B 1 (7 + 14 * k + 6)) ((B 1 (7 + 14 * k + 5)) - 1) x_69) (cwS 3 hts gX7_steps_X7_nextLevel rfl rfl rfl (by decide +kernel) ⟨Nat.le_of_ble_eq_true rfl, Nat.le_of_ble_eq_true rfl⟩) hW hS rfl rfl hl.1 (Nat.le_of_ble_eq_true rfl) dX7_steps_288 (fun H locs hW hS => ?_)
              refine lv_topi (fun x_70 ex_70 => ?_)
              refine wr_ast (kA := 0) (Z' := wset Z 12 (bput B_66 1 (nI (7 + 14 * k + 6)).toNatClampNeg x_70)) hC hW hS (vM (by decide)) ce_m1 rfl (vp_in_nI (show (7 + 14 * k + 6) < 100 by omega) (by decide)) wset_off pu_m1 dX7_steps_291 (fun H locs hW hS => ?_)
              rw [nI_clamp (show (7 + 14 * k + 6) < 2 ^ 31 by omega)] at hW
              refine lv_aload_n hx hb dX7_steps_292 rfl (lv_at hl 2 rfl) ?_
              refine wr_get hC hinRX7 hW (vM (by decide)) ce_m0 rfl 0 (by decide) hk0 rfl dX7_steps_293 ?_
              refine lv_iload_n hx hb dX7_steps_296 rfl (lv_at hl 3 rfl) ?_
              refine lv_bipush (v := 7) hx hb dX7_steps_297 (by decide) ?_
              refine wc_s hC hml (kX7_at l G (wset Z 12 (bput B_66 1 (7 + 14 * k + 6) x_70)) k 7) (cwS 2 hts gX7_steps_X7_at rfl rfl rfl (by decide +kernel) ⟨Nat.le_of_ble_eq_true rfl, Nat.le_of_ble_eq_true rfl⟩) hW hS rfl rfl hl.1 (Nat.le_of_ble_eq_true rfl) dX7_steps_299 (fun H locs hW hS => ?_)
              refine lv_re (y := nI (7 + 14 * k + 7)) rfl ?_
              refine lv_aload_n hx hb dX7_steps_302 rfl (lv_at hl 2 rfl) ?_
              refine wr_get hC hinRX7 hW (vM (by decide)) ce_m0 rfl 0 (by decide) hk0 rfl dX7_steps_303 ?_
              refine lv_iconst (v := 5) hx hb dX7_steps_306 (by decide) ?_
              refine wr_ald (kA := 0) hC hW (vM (by decide)) ce_m1 rfl (vp_in_iff.mpr (by decide)) dX7_steps_307 ?_
              refine lv_re (y := B 1 5) ((((((((((congrArg ((bput B_66 1 (7 + 14 * k + 6) x_70) 1) (show (5 : Int32).toNatClampNeg = 5 by decide))).trans (bput_q (by omega))).trans ((congrFun (congrFun eB_66 _) _))).trans (bput_q (by omega))).trans (bput_q (by omega))).trans (bput_q (by omega))).trans (bput_q (by omega))).trans (bput_q (by omega))).trans (bput_q (by decide))) ?_
              refine lv_aload_n hx hb dX7_steps_308 rfl (lv_at hl 2 rfl) ?_
              refine lv_aload_n hx hb dX7_steps_309 rfl (lv_at hl 2 rfl) ?_
              refine wr_get hC hinRX7 hW (vM (by decide)) ce_m0 rfl 0 (by decide) hk0 rfl dX7_steps_310 ?_
              refine lv_iload_n hx hb dX7_steps_313 rfl (lv_at hl 3 rfl) ?_
              refine lv_bipush (v := 6) hx hb dX7_steps_314 (by decide) ?_
              refine wc_s hC hml (kX7_at l G (wset Z 12 (bput B_66 1 (7 + 14 * k + 6) x_70)) k 6) (cwS 2 hts gX7_steps_X7_at rfl rfl rfl (by decide +kernel) ⟨Nat.le_of_ble_eq_true rfl, Nat.le_of_ble_eq_true rfl⟩) hW hS rfl rfl hl.1 (Nat.le_of_ble_eq_true rfl) dX7_steps_316 (fun H locs hW hS => ?_)
              refine lv_re (y := nI (7 + 14 * k + 6)) rfl ?_
              refine wr_ald (kA := 0) hC hW (vM (by decide)) ce_m1 rfl (vp_in_nI (show (7 + 14 * k + 6) < 100 by omega) (by decide)) dX7_steps_319 ?_
              refine lv_re (y := x_70) (((congrArg ((bput B_66 1 (7 + 14 * k + 6) x_70) 1) (nI_clamp (by omega)))).trans (bput_h)) ?_
              refine lv_aload_n hx hb dX7_steps_320 rfl (lv_at hl 2 rfl) ?_
              refine wr_get hC hinRX7 hW (vM (by decide)) ce_m0 rfl 0 (by decide) hk0 rfl dX7_steps_321 ?_
              refine lv_iconst (v := 2) hx hb dX7_steps_324 (by decide) ?_
              refine wr_ald (kA := 0) hC hW (vM (by decide)) ce_m1 rfl (vp_in_iff.mpr (by decide)) dX7_steps_325 ?_
              refine lv_re (y := B 1 2) ((((((((((congrArg ((bput B_66 1 (7 + 14 * k + 6) x_70) 1) (show (2 : Int32).toNatClampNeg = 2 by decide))).trans (bput_q (by omega))).trans ((congrFun (congrFun eB_66 _) _))).trans (bput_q (by omega))).trans (bput_q (by omega))).trans (bput_q (by omega))).trans (bput_q (by omega))).trans (bput_q (by omega))).trans (bput_j (by omega))) ?_
              obtain ⟨B_71, eB_71⟩ : ∃ y, y = (bput B_66 1 (7 + 14 * k + 6) x_70) := ⟨_, rfl⟩
              rw [← eB_71] at hW
              refine wc_i hC hml (kX7_intervalBy l G Z B_71 x_70 (B 1 2)) (cwV 2 hts gX7_steps_X7_intervalBy rfl rfl rfl (by decide +kernel) ⟨Nat.le_of_ble_eq_true rfl, Nat.le_of_ble_eq_true rfl⟩) hW hS (vM (by decide)) ce_m0 rfl rfl rfl rfl hl.1 (Nat.le_of_ble_eq_true rfl) dX7_steps_326 (fun H locs hW hS => ?_)
              refine lv_topi (fun x_72 ex_72 => ?_)
              refine lv_iadd hx hb dX7_steps_329 ?_
              refine wr_ast (kA := 0) (Z' := wset Z 12 (bput B_71 1 (nI (7 + 14 * k + 7)).toNatClampNeg ((B 1 5) + x_72))) hC hW hS (vM (by decide)) ce_m1 rfl (vp_in_nI (show (7 + 14 * k + 7) < 100 by omega) (by decide)) wset_off pu_m1 dX7_steps_330 (fun H locs hW hS => ?_)
              rw [nI_clamp (show (7 + 14 * k + 7) < 2 ^ 31 by omega)] at hW
              have hf : fX7_steps B k = (bput B_71 1 (7 + 14 * k + 7) ((B 1 5) + x_72)) := by
                subst ex_72
                subst eB_71
                subst ex_70
                subst ex_69
                subst ex_67
                subst eB_66
                subst ex_12
                subst ex_11
                subst ex_10
                exact (if_neg c_13).trans ((if_neg c_53).trans ((if_neg c_54).trans ((if_pos c_68).trans rfl)))
              exact we_v hC hr hlocks (congrArg (wset Z 12) hf).symm hW hS dX7_steps_331
            · skip
              refine lv_aload_n hx hb dX7_steps_200 rfl (lv_at hl 2 rfl) ?_
              refine wr_get hC hinRX7 hW (vM (by decide)) ce_m0 rfl 0 (by decide) hk0 rfl dX7_steps_201 ?_
              refine lv_iload_n hx hb dX7_steps_204 rfl (lv_at hl 3 rfl) ?_
              refine lv_bipush (v := 6) hx hb dX7_steps_205 (by decide) ?_
              refine wc_s hC hml (kX7_at l G (wset Z 12 B_66) k 6) (cwS 2 hts gX7_steps_X7_at rfl rfl rfl (by decide +kernel) ⟨Nat.le_of_ble_eq_true rfl, Nat.le_of_ble_eq_true rfl⟩) hW hS rfl rfl hl.1 (Nat.le_of_ble_eq_true rfl) dX7_steps_207 (fun H locs hW hS => ?_)
              refine lv_re (y := nI (7 + 14 * k + 6)) rfl ?_
              refine lv_iconst (v := 0) hx hb dX7_steps_210 (by decide) ?_
              refine wr_ast (kA := 0) (Z' := wset Z 12 (bput B_66 1 (nI (7 + 14 * k + 6)).toNatClampNeg 0)) hC hW hS (vM (by decide)) ce_m1 rfl (vp_in_nI (show (7 + 14 * k + 6) < 100 by omega) (by decide)) wset_off pu_m1 dX7_steps_211 (fun H locs hW hS => ?_)
              rw [nI_clamp (show (7 + 14 * k + 6) < 2 ^ 31 by omega)] at hW
              have hf : fX7_steps B k = LX7_sw k 3 (bput B_66 1 (7 + 14 * k + 6) 0) := by
                subst ex_67
                subst eB_66
                subst ex_12
                subst ex_11
                subst ex_10
                exact (if_neg c_13).trans ((if_neg c_53).trans ((if_neg c_54).trans ((if_neg c_68).trans rfl)))
              exact hlp_1 3 (bput B_66 1 (7 + 14 * k + 6) 0) (by rw [show (bput B_66 1 (7 + 14 * k + 6) 0) 1 (7 + 14 * k + 0) = B 1 (7 + 14 * k + 0) from (((((((bput_q (by omega)).trans ((congrFun (congrFun eB_66 _) _))).trans (bput_q (by omega))).trans (bput_q (by omega))).trans (bput_q (by omega))).trans (bput_q (by omega))).trans (bput_q (by omega))).trans (bput_j (by omega))]; exact hmi) (by rw [show (bput B_66 1 (7 + 14 * k + 6) 0) 1 (7 + 14 * k + 8) = B 1 (7 + 14 * k + 8) from (((((((bput_q (by omega)).trans ((congrFun (congrFun eB_66 _) _))).trans (bput_q (by omega))).trans (bput_q (by omega))).trans (bput_q (by omega))).trans (bput_q (by omega))).trans (bput_q (by omega))).trans (bput_j (by omega))]; exact hw) hf _ _ _ hW hS (lv_sub hl [2, 3] rfl)
    · skip
      refine lv_aload_n hx hb dX7_steps_73 rfl (lv_at hl 2 rfl) ?_
      refine lv_iload_n hx hb dX7_steps_74 rfl (lv_at hl 3 rfl) ?_
      refine wr_put (Z' := wset Z 12 (bput B 0 3 (nI k))) (v := .int (nI k)) hC hinRX7 tyX7 tyX7_ok nmX7 hW hS (vM (by decide)) ce_m0 rfl 9 (by decide) hk2 rfl (tyX7_ok 9 (by decide)) rfl rfl (Nat.le_of_ble_eq_true rfl) wset_off pu_m0_3 dX7_steps_75 (fun H locs hW hS => ?_)
      refine lv_aload_n hx hb dX7_steps_78 rfl (lv_at hl 2 rfl) ?_
      refine lv_iload_n hx hb dX7_steps_79 rfl (lv_at hl 0 rfl) ?_
      refine wr_put (Z' := wset Z 12 (bput (bput B 0 3 (nI k)) 0 4 1)) (v := .int 1) hC hinRX7 tyX7 tyX7_ok nmX7 hW hS (vM (by decide)) ce_m0 rfl 10 (by decide) hk3 rfl (tyX7_ok 10 (by decide)) (by first | rfl | decide | assumption) (by first | rfl | decide) (Nat.le_of_ble_eq_true rfl) wset_off pu_m0_4 dX7_steps_80 (fun H locs hW hS => ?_)
      refine lv_aload_n hx hb dX7_steps_83 rfl (lv_at hl 2 rfl) ?_
      refine lv_dup hx hb dX7_steps_84 rfl ?_
      refine wr_get hC hinRX7 hW (vM (by decide)) ce_m0 rfl 8 (by decide) hk1 rfl dX7_steps_85 ?_
      refine lv_re (y := B 0 2) ((bput_q (by decide)).trans (bput_q (by decide))) ?_
      refine lv_aload_n hx hb dX7_steps_88 rfl (lv_at hl 2 rfl) ?_
      refine wr_get hC hinRX7 hW (vM (by decide)) ce_m0 rfl 8 (by decide) hk1 rfl dX7_steps_89 ?_
      refine lv_re (y := B 0 2) ((bput_q (by decide)).trans (bput_q (by decide))) ?_
      refine lv_if_ge (tgt := 99) hx hb dX7_steps_92 (by decide) (fun c_73 => ?_) (fun c_73 => ?_)
      · skip
        refine lv_iconst (v := 1) hx hb dX7_steps_99 (by decide) ?_
        refine lv_isub hx hb dX7_steps_100 ?_
        refine wr_put (Z' := wset Z 12 (bput (bput (bput B 0 3 (nI k)) 0 4 1) 0 2 ((B 0 2) - 1))) (v := .int ((B 0 2) - 1)) hC hinRX7 tyX7 tyX7_ok nmX7 hW hS (vM (by decide)) ce_m0 rfl 8 (by decide) hk1 rfl (tyX7_ok 8 (by decide)) rfl rfl (Nat.le_of_ble_eq_true rfl) wset_off pu_m0_2 dX7_steps_101 (fun H locs hW hS => ?_)
        refine lv_aload_n hx hb dX7_steps_104 rfl (lv_at hl 2 rfl) ?_
        refine wr_get hC hinRX7 hW (vM (by decide)) ce_m0 rfl 0 (by decide) hk0 rfl dX7_steps_105 ?_
        refine lv_iload_n hx hb dX7_steps_108 rfl (lv_at hl 3 rfl) ?_
        refine lv_iconst (v := 2) hx hb dX7_steps_109 (by decide) ?_
        refine wc_s hC hml (kX7_at l G (wset Z 12 (bput (bput (bput B 0 3 (nI k)) 0 4 1) 0 2 ((B 0 2) - 1))) k 2) (cwS 2 hts gX7_steps_X7_at rfl rfl rfl (by decide +kernel) ⟨Nat.le_of_ble_eq_true rfl, Nat.le_of_ble_eq_true rfl⟩) hW hS rfl rfl hl.1 (Nat.le_of_ble_eq_true rfl) dX7_steps_110 (fun H locs hW hS => ?_)
        refine lv_re (y := nI (7 + 14 * k + 2)) rfl ?_
        refine lv_dup2_11 hx hb dX7_steps_113 rfl rfl ?_
        refine wr_ald (kA := 0) hC hW (vM (by decide)) ce_m1 rfl (vp_in_nI (show (7 + 14 * k + 2) < 100 by omega) (by decide)) dX7_steps_114 ?_
        refine lv_re (y := B 1 (7 + 14 * k + 2)) (((((congrArg ((bput (bput (bput B 0 3 (nI k)) 0 4 1) 0 2 ((B 0 2) - 1)) 1) (nI_clamp (by omega)))).trans (bput_j (by omega))).trans (bput_j (by omega))).trans (bput_j (by omega))) ?_
        refine lv_iload_n hx hb dX7_steps_115 rfl (lv_at hl 1 rfl) ?_
        refine lv_iadd hx hb dX7_steps_116 ?_
        refine wr_ast (kA := 0) (Z' := wset Z 12 (bput (bput (bput (bput B 0 3 (nI k)) 0 4 1) 0 2 ((B 0 2) - 1)) 1 (nI (7 + 14 * k + 2)).toNatClampNeg ((B 1 (7 + 14 * k + 2)) + x_10))) hC hW hS (vM (by decide)) ce_m1 rfl (vp_in_nI (show (7 + 14 * k + 2) < 100 by omega) (by decide)) wset_off pu_m1 dX7_steps_117 (fun H locs hW hS => ?_)
        rw [nI_clamp (show (7 + 14 * k + 2) < 2 ^ 31 by omega)] at hW
        refine lv_aload_n hx hb dX7_steps_118 rfl (lv_at hl 2 rfl) ?_
        refine wr_get hC hinRX7 hW (vM (by decide)) ce_m0 rfl 0 (by decide) hk0 rfl dX7_steps_119 ?_
        refine lv_iload_n hx hb dX7_steps_122 rfl (lv_at hl 3 rfl) ?_
        refine lv_iconst (v := 3) hx hb dX7_steps_123 (by decide) ?_
        refine wc_s hC hml (kX7_at l G (wset Z 12 (bput (bput (bput (bput B 0 3 (nI k)) 0 4 1) 0 2 ((B 0 2) - 1)) 1 (7 + 14 * k + 2) ((B 1 (7 + 14 * k + 2)) + x_10))) k 3) (cwS 2 hts gX7_steps_X7_at rfl rfl rfl (by decide +kernel) ⟨Nat.le_of_ble_eq_true rfl, Nat.le_of_ble_eq_true rfl⟩) hW hS rfl rfl hl.1 (Nat.le_of_ble_eq_true rfl) dX7_steps_124 (fun H locs hW hS => ?_)
        refine lv_re (y := nI (7 + 14 * k + 3)) rfl ?_
        refine lv_dup2_11 hx hb dX7_steps_127 rfl rfl ?_
        refine wr_ald (kA := 0) hC hW (vM (by decide)) ce_m1 rfl (vp_in_nI (show (7 + 14 * k + 3) < 100 by omega) (by decide)) dX7_steps_128 ?_
        refine lv_re (y := B 1 (7 + 14 * k + 3)) ((((((congrArg ((bput (bput (bput (bput B 0 3 (nI k)) 0 4 1) 0 2 ((B 0 2) - 1)) 1 (7 + 14 * k + 2) ((B 1 (7 + 14 * k + 2)) + x_10)) 1) (nI_clamp (by omega)))).trans (bput_q (by omega))).trans (bput_j (by omega))).trans (bput_j (by omega))).trans (bput_j (by omega))) ?_
        refine lv_iload_n hx hb dX7_steps_129 rfl (lv_at hl 0 rfl) ?_
        refine lv_if_eq (tgt := 137) hx hb dX7_steps_130 (by decide) (fun c_74 => ?_) (fun c_74 => ?_)
        · exact absurd c_74 (by decide)
        · skip
          refine lv_iconst (v := 0) hx hb dX7_steps_133 (by decide) ?_
          refine lv_goto (tgt := 138) hx hb dX7_steps_134 (by decide) ?_
          refine lv_iadd hx hb dX7_steps_138 ?_
          refine wr_ast (kA := 0) (Z' := wset Z 12 (bput (bput (bput (bput (bput B 0 3 (nI k)) 0 4 1) 0 2 ((B 0 2) - 1)) 1 (7 + 14 * k + 2) ((B 1 (7 + 14 * k + 2)) + x_10)) 1 (nI (7 + 14 * k + 3)).toNatClampNeg ((B 1 (7 + 14 * k + 3)) + 0))) hC hW hS (vM (by decide)) ce_m1 rfl (vp_in_nI (show (7 + 14 * k + 3) < 100 by omega) (by decide)) wset_off pu_m1 dX7_steps_139 (fun H locs hW hS => ?_)
          rw [nI_clamp (show (7 + 14 * k + 3) < 2 ^ 31 by omega)] at hW
          refine lv_aload_n hx hb dX7_steps_140 rfl (lv_at hl 2 rfl) ?_
          refine wr_get hC hinRX7 hW (vM (by decide)) ce_m0 rfl 0 (by decide) hk0 rfl dX7_steps_141 ?_
          refine lv_iload_n hx hb dX7_steps_144 rfl (lv_at hl 3 rfl) ?_
          refine lv_bipush (v := 12) hx hb dX7_steps_145 (by decide) ?_
          refine wc_s hC hml (kX7_at l G (wset Z 12 (bput (bput (bput (bput (bput B 0 3 (nI k)) 0 4 1) 0 2 ((B 0 2) - 1)) 1 (7 + 14 * k + 2) ((B 1 (7 + 14 * k + 2)) + x_10)) 1 (7 + 14 * k + 3) ((B 1 (7 + 14 * k + 3)) + 0))) k 12) (cwS 2 hts gX7_steps_X7_at rfl rfl rfl (by decide +kernel) ⟨Nat.le_of_ble_eq_true rfl, Nat.le_of_ble_eq_true rfl⟩) hW hS rfl rfl hl.1 (Nat.le_of_ble_eq_true rfl) dX7_steps_147 (fun H locs hW hS => ?_)
          refine lv_re (y := nI (7 + 14 * k + 12)) rfl ?_
          refine lv_dup2_11 hx hb dX7_steps_150 rfl rfl ?_
          refine wr_ald (kA := 0) hC hW (vM (by decide)) ce_m1 rfl (vp_in_nI (show (7 + 14 * k + 12) < 100 by omega) (by decide)) dX7_steps_151 ?_
          refine lv_re (y := B 1 (7 + 14 * k + 12)) (((((((congrArg ((bput (bput (bput (bput (bput B 0 3 (nI k)) 0 4 1) 0 2 ((B 0 2) - 1)) 1 (7 + 14 * k + 2) ((B 1 (7 + 14 * k + 2)) + x_10)) 1 (7 + 14 * k + 3) ((B 1 (7 + 14 * k + 3)) + 0)) 1) (nI_clamp (by omega)))).trans (bput_q (by omega))).trans (bput_q (by omega))).trans (bput_j (by omega))).trans (bput_j (by omega))).trans (bput_j (by omega))) ?_
          refine lv_iconst (v := 1) hx hb dX7_steps_152 (by decide) ?_
          refine lv_iadd hx hb dX7_steps_153 ?_
          refine wr_ast (kA := 0) (Z' := wset Z 12 (bput (bput (bput (bput (bput (bput B 0 3 (nI k)) 0 4 1) 0 2 ((B 0 2) - 1)) 1 (7 + 14 * k + 2) ((B 1 (7 + 14 * k + 2)) + x_10)) 1 (7 + 14 * k + 3) ((B 1 (7 + 14 * k + 3)) + 0)) 1 (nI (7 + 14 * k + 12)).toNatClampNeg ((B 1 (7 + 14 * k + 12)) + 1))) hC hW hS (vM (by decide)) ce_m1 rfl (vp_in_nI (show (7 + 14 * k + 12) < 100 by omega) (by decide)) wset_off pu_m1 dX7_steps_154 (fun H locs hW hS => ?_)
          rw [nI_clamp (show (7 + 14 * k + 12) < 2 ^ 31 by omega)] at hW
          refine lv_aload_n hx hb dX7_steps_155 rfl (lv_at hl 2 rfl) ?_
          refine wr_get hC hinRX7 hW (vM (by decide)) ce_m0 rfl 0 (by decide) hk0 rfl dX7_steps_156 ?_
          refine lv_iload_n hx hb dX7_steps_159 rfl (lv_at hl 3 rfl) ?_
          refine lv_bipush (v := 13) hx hb dX7_steps_160 (by decide) ?_
          refine wc_s hC hml (kX7_at l G (wset Z 12 (bput (bput (bput (bput (bput (bput B 0 3 (nI k)) 0 4 1) 0 2 ((B 0 2) - 1)) 1 (7 + 14 * k + 2) ((B 1 (7 + 14 * k + 2)) + x_10)) 1 (7 + 14 * k + 3) ((B 1 (7 + 14 * k + 3)) + 0)) 1 (7 + 14 * k + 12) ((B 1 (7 + 14 * k + 12)) + 1))) k 13) (cwS 2 hts gX7_steps_X7_at rfl rfl rfl (by decide +kernel) ⟨Nat.le_of_ble_eq_true rfl, Nat.le_of_ble_eq_true rfl⟩) hW hS rfl rfl hl.1 (Nat.le_of_ble_eq_true rfl) dX7_steps_162 (fun H locs hW hS => ?_)
          refine lv_re (y := nI (7 + 14 * k + 13)) rfl ?_
          refine lv_dup2_11 hx hb dX7_steps_165 rfl rfl ?_
          refine wr_ald (kA := 0) hC hW (vM (by decide)) ce_m1 rfl (vp_in_nI (show (7 + 14 * k + 13) < 100 by omega) (by decide)) dX7_steps_166 ?_
          refine lv_re (y := B 1 (7 + 14 * k + 13)) ((((((((congrArg ((bput (bput (bput (bput (bput (bput B 0 3 (nI k)) 0 4 1) 0 2 ((B 0 2) - 1)) 1 (7 + 14 * k + 2) ((B 1 (7 + 14 * k + 2)) + x_10)) 1 (7 + 14 * k + 3) ((B 1 (7 + 14 * k + 3)) + 0)) 1 (7 + 14 * k + 12) ((B 1 (7 + 14 * k + 12)) + 1)) 1) (nI_clamp (by omega)))).trans (bput_q (by omega))).trans (bput_q (by omega))).trans (bput_q (by omega))).trans (bput_j (by omega))).trans (bput_j (by omega))).trans (bput_j (by omega))) ?_
          refine lv_iload_n hx hb dX7_steps_167 rfl (lv_at hl 0 rfl) ?_
          refine lv_if_eq (tgt := 175) hx hb dX7_steps_168 (by decide) (fun c_75 => ?_) (fun c_75 => ?_)
          · exact absurd c_75 (by decide)
          · skip
            refine lv_iconst (v := 1) hx hb dX7_steps_171 (by decide) ?_
            refine lv_goto (tgt := 176) hx hb dX7_steps_172 (by decide) ?_
            refine lv_iadd hx hb dX7_steps_176 ?_
            refine wr_ast (kA := 0) (Z' := wset Z 12 (bput (bput (bput (bput (bput (bput (bput B 0 3 (nI k)) 0 4 1) 0 2 ((B 0 2) - 1)) 1 (7 + 14 * k + 2) ((B 1 (7 + 14 * k + 2)) + x_10)) 1 (7 + 14 * k + 3) ((B 1 (7 + 14 * k + 3)) + 0)) 1 (7 + 14 * k + 12) ((B 1 (7 + 14 * k + 12)) + 1)) 1 (nI (7 + 14 * k + 13)).toNatClampNeg ((B 1 (7 + 14 * k + 13)) + 1))) hC hW hS (vM (by decide)) ce_m1 rfl (vp_in_nI (show (7 + 14 * k + 13) < 100 by omega) (by decide)) wset_off pu_m1 dX7_steps_177 (fun H locs hW hS => ?_)
            rw [nI_clamp (show (7 + 14 * k + 13) < 2 ^ 31 by omega)] at hW
            refine lv_aload_n hx hb dX7_steps_178 rfl (lv_at hl 2 rfl) ?_
            refine wr_get hC hinRX7 hW (vM (by decide)) ce_m0 rfl 0 (by decide) hk0 rfl dX7_steps_179 ?_
            refine lv_iload_n hx hb dX7_steps_182 rfl (lv_at hl 3 rfl) ?_
            refine lv_iconst (v := 5) hx hb dX7_steps_183 (by decide) ?_
            refine wc_s hC hml (kX7_at l G (wset Z 12 (bput (bput (bput (bput (bput (bput (bput B 0 3 (nI k)) 0 4 1) 0 2 ((B 0 2) - 1)) 1 (7 + 14 * k + 2) ((B 1 (7 + 14 * k + 2)) + x_10)) 1 (7 + 14 * k + 3) ((B 1 (7 + 14 * k + 3)) + 0)) 1 (7 + 14 * k + 12) ((B 1 (7 + 14 * k + 12)) + 1)) 1 (7 + 14 * k + 13) ((B 1 (7 + 14 * k + 13)) + 1))) k 5) (cwS 2 hts gX7_steps_X7_at rfl rfl rfl (by decide +kernel) ⟨Nat.le_of_ble_eq_true rfl, Nat.le_of_ble_eq_true rfl⟩) hW hS rfl rfl hl.1 (Nat.le_of_ble_eq_true rfl) dX7_steps_184 (fun H locs hW hS => ?_)
            refine lv_re (y := nI (7 + 14 * k + 5)) rfl ?_
            refine lv_dup2_11 hx hb dX7_steps_187 rfl rfl ?_
            refine wr_ald (kA := 0) hC hW (vM (by decide)) ce_m1 rfl (vp_in_nI (show (7 + 14 * k + 5) < 100 by omega) (by decide)) dX7_steps_188 ?_
            refine lv_re (y := B 1 (7 + 14 * k + 5)) (((((((((congrArg ((bput (bput (bput (bput (bput (bput (bput B 0 3 (nI k)) 0 4 1) 0 2 ((B 0 2) - 1)) 1 (7 + 14 * k + 2) ((B 1 (7 + 14 * k + 2)) + x_10)) 1 (7 + 14 * k + 3) ((B 1 (7 + 14 * k + 3)) + 0)) 1 (7 + 14 * k + 12) ((B 1 (7 + 14 * k + 12)) + 1)) 1 (7 + 14 * k + 13) ((B 1 (7 + 14 * k + 13)) + 1)) 1) (nI_clamp (by omega)))).trans (bput_q (by omega))).trans (bput_q (by omega))).trans (bput_q (by omega))).trans (bput_q (by omega))).trans (bput_j (by omega))).trans (bput_j (by omega))).trans (bput_j (by omega))) ?_
            refine lv_iconst (v := 1) hx hb dX7_steps_189 (by decide) ?_
            refine lv_isub hx hb dX7_steps_190 ?_
            refine wr_ast (kA := 0) (Z' := wset Z 12 (bput (bput (bput (bput (bput (bput (bput (bput B 0 3 (nI k)) 0 4 1) 0 2 ((B 0 2) - 1)) 1 (7 + 14 * k + 2) ((B 1 (7 + 14 * k + 2)) + x_10)) 1 (7 + 14 * k + 3) ((B 1 (7 + 14 * k + 3)) + 0)) 1 (7 + 14 * k + 12) ((B 1 (7 + 14 * k + 12)) + 1)) 1 (7 + 14 * k + 13) ((B 1 (7 + 14 * k + 13)) + 1)) 1 (nI (7 + 14 * k + 5)).toNatClampNeg ((B 1 (7 + 14 * k + 5)) - 1))) hC hW hS (vM (by decide)) ce_m1 rfl (vp_in_nI (show (7 + 14 * k + 5) < 100 by omega) (by decide)) wset_off pu_m1 dX7_steps_191 (fun H locs hW hS => ?_)
            rw [nI_clamp (show (7 + 14 * k + 5) < 2 ^ 31 by omega)] at hW
            refine lv_aload_n hx hb dX7_steps_192 rfl (lv_at hl 2 rfl) ?_
            refine lv_iload_n hx hb dX7_steps_193 rfl (lv_at hl 3 rfl) ?_
            obtain ⟨B_76, eB_76⟩ : ∃ y, y = (bput (bput (bput (bput (bput (bput (bput (bput B 0 3 (nI k)) 0 4 1) 0 2 ((B 0 2) - 1)) 1 (7 + 14 * k + 2) ((B 1 (7 + 14 * k + 2)) + x_10)) 1 (7 + 14 * k + 3) ((B 1 (7 + 14 * k + 3)) + 0)) 1 (7 + 14 * k + 12) ((B 1 (7 + 14 * k + 12)) + 1)) 1 (7 + 14 * k + 13) ((B 1 (7 + 14 * k + 13)) + 1)) 1 (7 + 14 * k + 5) ((B 1 (7 + 14 * k + 5)) - 1)) := ⟨_, rfl⟩
            rw [← eB_76] at hW
            refine wc_i hC hml (kX7_rests l G Z B_76 k (by first | assumption | omega)) (cwV 1 hts gX7_steps_X7_rests rfl rfl rfl (by decide +kernel) ⟨Nat.le_of_ble_eq_true rfl, Nat.le_of_ble_eq_true rfl⟩) hW hS (vM (by decide)) ce_m0 rfl rfl rfl rfl hl.1 (Nat.le_of_ble_eq_true rfl) dX7_steps_194 (fun H locs hW hS => ?_)
            refine lv_topi (fun x_77 ex_77 => ?_)
            refine lv_if_eq (tgt := 247) hx hb dX7_steps_197 (by decide) (fun c_78 => ?_) (fun c_78 => ?_)
            · skip
              refine lv_aload_n hx hb dX7_steps_247 rfl (lv_at hl 2 rfl) ?_
              refine wr_get hC hinRX7 hW (vM (by decide)) ce_m0 rfl 0 (by decide) hk0 rfl dX7_steps_248 ?_
              refine lv_iload_n hx hb dX7_steps_251 rfl (lv_at hl 3 rfl) ?_
              refine lv_bipush (v := 6) hx hb dX7_steps_252 (by decide) ?_
              refine wc_s hC hml (kX7_at l G (wset Z 12 B_76) k 6) (cwS 2 hts gX7_steps_X7_at rfl rfl rfl (by decide +kernel) ⟨Nat.le_of_ble_eq_true rfl, Nat.le_of_ble_eq_true rfl⟩) hW hS rfl rfl hl.1 (Nat.le_of_ble_eq_true rfl) dX7_steps_254 (fun H locs hW hS => ?_)
              refine lv_re (y := nI (7 + 14 * k + 6)) rfl ?_
              refine lv_aload_n hx hb dX7_steps_257 rfl (lv_at hl 2 rfl) ?_
              refine wr_get hC hinRX7 hW (vM (by decide)) ce_m0 rfl 0 (by decide) hk0 rfl dX7_steps_258 ?_
              refine lv_iload_n hx hb dX7_steps_261 rfl (lv_at hl 3 rfl) ?_
              refine lv_bipush (v := 6) hx hb dX7_steps_262 (by decide) ?_
              refine wc_s hC hml (kX7_at l G (wset Z 12 B_76) k 6) (cwS 2 hts gX7_steps_X7_at rfl rfl rfl (by decide +kernel) ⟨Nat.le_of_ble_eq_true rfl, Nat.le_of_ble_eq_true rfl⟩) hW hS rfl rfl hl.1 (Nat.le_of_ble_eq_true rfl) dX7_steps_264 (fun H locs hW hS => ?_)
              refine lv_re (y := nI (7 + 14 * k + 6)) rfl ?_
              refine wr_ald (kA := 0) hC hW (vM (by decide)) ce_m1 rfl (vp_in_nI (show (7 + 14 * k + 6) < 100 by omega) (by decide)) dX7_steps_267 ?_
              refine lv_re (y := B 1 (7 + 14 * k + 6)) (((((((((((congrArg (B_76 1) (nI_clamp (by omega)))).trans ((congrFun (congrFun eB_76 _) _))).trans (bput_q (by omega))).trans (bput_q (by omega))).trans (bput_q (by omega))).trans (bput_q (by omega))).trans (bput_q (by omega))).trans (bput_j (by omega))).trans (bput_j (by omega))).trans (bput_j (by omega))) ?_
              refine lv_aload_n hx hb dX7_steps_268 rfl (lv_at hl 2 rfl) ?_
              refine wr_get hC hinRX7 hW (vM (by decide)) ce_m0 rfl 0 (by decide) hk0 rfl dX7_steps_269 ?_
              refine lv_iload_n hx hb dX7_steps_272 rfl (lv_at hl 3 rfl) ?_
              refine lv_iconst (v := 5) hx hb dX7_steps_273 (by decide) ?_
              refine wc_s hC hml (kX7_at l G (wset Z 12 B_76) k 5) (cwS 2 hts gX7_steps_X7_at rfl rfl rfl (by decide +kernel) ⟨Nat.le_of_ble_eq_true rfl, Nat.le_of_ble_eq_true rfl⟩) hW hS rfl rfl hl.1 (Nat.le_of_ble_eq_true rfl) dX7_steps_274 (fun H locs hW hS => ?_)
              refine lv_re (y := nI (7 + 14 * k + 5)) rfl ?_
              refine wr_ald (kA := 0) hC hW (vM (by decide)) ce_m1 rfl (vp_in_nI (show (7 + 14 * k + 5) < 100 by omega) (by decide)) dX7_steps_277 ?_
              refine lv_re (y := (B 1 (7 + 14 * k + 5)) - 1) ((((congrArg (B_76 1) (nI_clamp (by omega)))).trans ((congrFun (congrFun eB_76 _) _))).trans (bput_h)) ?_
              refine lv_aload_n hx hb dX7_steps_278 rfl (lv_at hl 2 rfl) ?_
              refine lv_aload_n hx hb dX7_steps_279 rfl (lv_at hl 2 rfl) ?_
              refine wr_get hC hinRX7 hW (vM (by decide)) ce_m0 rfl 0 (by decide) hk0 rfl dX7_steps_280 ?_
              refine lv_iconst (v := 2) hx hb dX7_steps_283 (by decide) ?_
              refine wr_ald (kA := 0) hC hW (vM (by decide)) ce_m1 rfl (vp_in_iff.mpr (by decide)) dX7_steps_284 ?_
              refine lv_re (y := B 1 2) (((((((((((congrArg (B_76 1) (show (2 : Int32).toNatClampNeg = 2 by decide))).trans ((congrFun (congrFun eB_76 _) _))).trans (bput_q (by omega))).trans (bput_q (by omega))).trans (bput_q (by omega))).trans (bput_q (by omega))).trans (bput_q (by omega))).trans (bput_j (by omega))).trans (bput_q (by decide))).trans (bput_q (by decide))) ?_
              refine wc_i hC hml (kX7_highestBy l G Z B_76 (B 1 2) (by first | assumption | omega)) (cwV 1 hts gX7_steps_X7_highestBy rfl rfl rfl (by decide +kernel) ⟨Nat.le_of_ble_eq_true rfl, Nat.le_of_ble_eq_true rfl⟩) hW hS (vM (by decide)) ce_m0 rfl rfl rfl rfl hl.1 (Nat.le_of_ble_eq_true rfl) dX7_steps_285 (fun H locs hW hS => ?_)
              refine lv_topi (fun x_79 ex_79 => ?_)
              refine wc_s hC hml (kX7_nextLevel l G (wset Z 12 B_76) (B 1 (7 + 14 * k + 6)) ((B 1 (7 + 14 * k + 5)) - 1) x_79) (cwS 3 hts gX7_steps_X7_nextLevel rfl rfl rfl (by decide +kernel) ⟨Nat.le_of_ble_eq_true rfl, Nat.le_of_ble_eq_true rfl⟩) hW hS rfl rfl hl.1 (Nat.le_of_ble_eq_true rfl) dX7_steps_288 (fun H locs hW hS => ?_)
              refine lv_topi (fun x_80 ex_80 => ?_)
              refine wr_ast (kA := 0) (Z' := wset Z 12 (bput B_76 1 (nI (7 + 14 * k + 6)).toNatClampNeg x_80)) hC hW hS (vM (by decide)) ce_m1 rfl (vp_in_nI (show (7 + 14 * k + 6) < 100 by omega) (by decide)) wset_off pu_m1 dX7_steps_291 (fun H locs hW hS => ?_)
              rw [nI_clamp (show (7 + 14 * k + 6) < 2 ^ 31 by omega)] at hW
              refine lv_aload_n hx hb dX7_steps_292 rfl (lv_at hl 2 rfl) ?_
              refine wr_get hC hinRX7 hW (vM (by decide)) ce_m0 rfl 0 (by decide) hk0 rfl dX7_steps_293 ?_
              refine lv_iload_n hx hb dX7_steps_296 rfl (lv_at hl 3 rfl) ?_
              refine lv_bipush (v := 7) hx hb dX7_steps_297 (by decide) ?_
              refine wc_s hC hml (kX7_at l G (wset Z 12 (bput B_76 1 (7 + 14 * k + 6) x_80)) k 7) (cwS 2 hts gX7_steps_X7_at rfl rfl rfl (by decide +kernel) ⟨Nat.le_of_ble_eq_true rfl, Nat.le_of_ble_eq_true rfl⟩) hW hS rfl rfl hl.1 (Nat.le_of_ble_eq_true rfl) dX7_steps_299 (fun H locs hW hS => ?_)
              refine lv_re (y := nI (7 + 14 * k + 7)) rfl ?_
              refine lv_aload_n hx hb dX7_steps_302 rfl (lv_at hl 2 rfl) ?_
              refine wr_get hC hinRX7 hW (vM (by decide)) ce_m0 rfl 0 (by decide) hk0 rfl dX7_steps_303 ?_
              refine lv_iconst (v := 5) hx hb dX7_steps_306 (by decide) ?_
              refine wr_ald (kA := 0) hC hW (vM (by decide)) ce_m1 rfl (vp_in_iff.mpr (by decide)) dX7_steps_307 ?_
              refine lv_re (y := B 1 5) ((((((((((((congrArg ((bput B_76 1 (7 + 14 * k + 6) x_80) 1) (show (5 : Int32).toNatClampNeg = 5 by decide))).trans (bput_q (by omega))).trans ((congrFun (congrFun eB_76 _) _))).trans (bput_q (by omega))).trans (bput_q (by omega))).trans (bput_q (by omega))).trans (bput_q (by omega))).trans (bput_q (by omega))).trans (bput_q (by decide))).trans (bput_q (by decide))).trans (bput_q (by decide))) ?_
              refine lv_aload_n hx hb dX7_steps_308 rfl (lv_at hl 2 rfl) ?_
              refine lv_aload_n hx hb dX7_steps_309 rfl (lv_at hl 2 rfl) ?_
              refine wr_get hC hinRX7 hW (vM (by decide)) ce_m0 rfl 0 (by decide) hk0 rfl dX7_steps_310 ?_
              refine lv_iload_n hx hb dX7_steps_313 rfl (lv_at hl 3 rfl) ?_
              refine lv_bipush (v := 6) hx hb dX7_steps_314 (by decide) ?_
              refine wc_s hC hml (kX7_at l G (wset Z 12 (bput B_76 1 (7 + 14 * k + 6) x_80)) k 6) (cwS 2 hts gX7_steps_X7_at rfl rfl rfl (by decide +kernel) ⟨Nat.le_of_ble_eq_true rfl, Nat.le_of_ble_eq_true rfl⟩) hW hS rfl rfl hl.1 (Nat.le_of_ble_eq_true rfl) dX7_steps_316 (fun H locs hW hS => ?_)
              refine lv_re (y := nI (7 + 14 * k + 6)) rfl ?_
              refine wr_ald (kA := 0) hC hW (vM (by decide)) ce_m1 rfl (vp_in_nI (show (7 + 14 * k + 6) < 100 by omega) (by decide)) dX7_steps_319 ?_
              refine lv_re (y := x_80) (((congrArg ((bput B_76 1 (7 + 14 * k + 6) x_80) 1) (nI_clamp (by omega)))).trans (bput_h)) ?_
              refine lv_aload_n hx hb dX7_steps_320 rfl (lv_at hl 2 rfl) ?_
              refine wr_get hC hinRX7 hW (vM (by decide)) ce_m0 rfl 0 (by decide) hk0 rfl dX7_steps_321 ?_
              refine lv_iconst (v := 2) hx hb dX7_steps_324 (by decide) ?_
              refine wr_ald (kA := 0) hC hW (vM (by decide)) ce_m1 rfl (vp_in_iff.mpr (by decide)) dX7_steps_325 ?_
              refine lv_re (y := B 1 2) ((((((((((((congrArg ((bput B_76 1 (7 + 14 * k + 6) x_80) 1) (show (2 : Int32).toNatClampNeg = 2 by decide))).trans (bput_q (by omega))).trans ((congrFun (congrFun eB_76 _) _))).trans (bput_q (by omega))).trans (bput_q (by omega))).trans (bput_q (by omega))).trans (bput_q (by omega))).trans (bput_q (by omega))).trans (bput_j (by omega))).trans (bput_q (by decide))).trans (bput_q (by decide))) ?_
              obtain ⟨B_81, eB_81⟩ : ∃ y, y = (bput B_76 1 (7 + 14 * k + 6) x_80) := ⟨_, rfl⟩
              rw [← eB_81] at hW
              refine wc_i hC hml (kX7_intervalBy l G Z B_81 x_80 (B 1 2)) (cwV 2 hts gX7_steps_X7_intervalBy rfl rfl rfl (by decide +kernel) ⟨Nat.le_of_ble_eq_true rfl, Nat.le_of_ble_eq_true rfl⟩) hW hS (vM (by decide)) ce_m0 rfl rfl rfl rfl hl.1 (Nat.le_of_ble_eq_true rfl) dX7_steps_326 (fun H locs hW hS => ?_)
              refine lv_topi (fun x_82 ex_82 => ?_)
              refine lv_iadd hx hb dX7_steps_329 ?_
              refine wr_ast (kA := 0) (Z' := wset Z 12 (bput B_81 1 (nI (7 + 14 * k + 7)).toNatClampNeg ((B 1 5) + x_82))) hC hW hS (vM (by decide)) ce_m1 rfl (vp_in_nI (show (7 + 14 * k + 7) < 100 by omega) (by decide)) wset_off pu_m1 dX7_steps_330 (fun H locs hW hS => ?_)
              rw [nI_clamp (show (7 + 14 * k + 7) < 2 ^ 31 by omega)] at hW
              have hf : fX7_steps B k = (bput B_81 1 (7 + 14 * k + 7) ((B 1 5) + x_82)) := by
                subst ex_82
                subst eB_81
                subst ex_80
                subst ex_79
                subst ex_77
                subst eB_76
                subst ex_12
                subst ex_11
                subst ex_10
                exact (if_neg c_13).trans ((if_pos c_53).trans ((if_pos c_73).trans ((if_pos c_78).trans rfl)))
              exact we_v hC hr hlocks (congrArg (wset Z 12) hf).symm hW hS dX7_steps_331
            · skip
              refine lv_aload_n hx hb dX7_steps_200 rfl (lv_at hl 2 rfl) ?_
              refine wr_get hC hinRX7 hW (vM (by decide)) ce_m0 rfl 0 (by decide) hk0 rfl dX7_steps_201 ?_
              refine lv_iload_n hx hb dX7_steps_204 rfl (lv_at hl 3 rfl) ?_
              refine lv_bipush (v := 6) hx hb dX7_steps_205 (by decide) ?_
              refine wc_s hC hml (kX7_at l G (wset Z 12 B_76) k 6) (cwS 2 hts gX7_steps_X7_at rfl rfl rfl (by decide +kernel) ⟨Nat.le_of_ble_eq_true rfl, Nat.le_of_ble_eq_true rfl⟩) hW hS rfl rfl hl.1 (Nat.le_of_ble_eq_true rfl) dX7_steps_207 (fun H locs hW hS => ?_)
              refine lv_re (y := nI (7 + 14 * k + 6)) rfl ?_
              refine lv_iconst (v := 0) hx hb dX7_steps_210 (by decide) ?_
              refine wr_ast (kA := 0) (Z' := wset Z 12 (bput B_76 1 (nI (7 + 14 * k + 6)).toNatClampNeg 0)) hC hW hS (vM (by decide)) ce_m1 rfl (vp_in_nI (show (7 + 14 * k + 6) < 100 by omega) (by decide)) wset_off pu_m1 dX7_steps_211 (fun H locs hW hS => ?_)
              rw [nI_clamp (show (7 + 14 * k + 6) < 2 ^ 31 by omega)] at hW
              have hf : fX7_steps B k = LX7_sw k 3 (bput B_76 1 (7 + 14 * k + 6) 0) := by
                subst ex_77
                subst eB_76
                subst ex_12
                subst ex_11
                subst ex_10
                exact (if_neg c_13).trans ((if_pos c_53).trans ((if_pos c_73).trans ((if_neg c_78).trans rfl)))
              exact hlp_1 3 (bput B_76 1 (7 + 14 * k + 6) 0) (by rw [show (bput B_76 1 (7 + 14 * k + 6) 0) 1 (7 + 14 * k + 0) = B 1 (7 + 14 * k + 0) from (((((((((bput_q (by omega)).trans ((congrFun (congrFun eB_76 _) _))).trans (bput_q (by omega))).trans (bput_q (by omega))).trans (bput_q (by omega))).trans (bput_q (by omega))).trans (bput_q (by omega))).trans (bput_j (by omega))).trans (bput_j (by omega))).trans (bput_j (by omega))]; exact hmi) (by rw [show (bput B_76 1 (7 + 14 * k + 6) 0) 1 (7 + 14 * k + 8) = B 1 (7 + 14 * k + 8) from (((((((((bput_q (by omega)).trans ((congrFun (congrFun eB_76 _) _))).trans (bput_q (by omega))).trans (bput_q (by omega))).trans (bput_q (by omega))).trans (bput_q (by omega))).trans (bput_q (by omega))).trans (bput_j (by omega))).trans (bput_j (by omega))).trans (bput_j (by omega))]; exact hw) hf _ _ _ hW hS (lv_sub hl [2, 3] rfl)
      · skip
        refine lv_iconst (v := 0) hx hb dX7_steps_95 (by decide) ?_
        refine lv_goto (tgt := 100) hx hb dX7_steps_96 (by decide) ?_
        refine lv_isub hx hb dX7_steps_100 ?_
        refine wr_put (Z' := wset Z 12 (bput (bput (bput B 0 3 (nI k)) 0 4 1) 0 2 ((B 0 2) - 0))) (v := .int ((B 0 2) - 0)) hC hinRX7 tyX7 tyX7_ok nmX7 hW hS (vM (by decide)) ce_m0 rfl 8 (by decide) hk1 rfl (tyX7_ok 8 (by decide)) rfl rfl (Nat.le_of_ble_eq_true rfl) wset_off pu_m0_2 dX7_steps_101 (fun H locs hW hS => ?_)
        refine lv_aload_n hx hb dX7_steps_104 rfl (lv_at hl 2 rfl) ?_
        refine wr_get hC hinRX7 hW (vM (by decide)) ce_m0 rfl 0 (by decide) hk0 rfl dX7_steps_105 ?_
        refine lv_iload_n hx hb dX7_steps_108 rfl (lv_at hl 3 rfl) ?_
        refine lv_iconst (v := 2) hx hb dX7_steps_109 (by decide) ?_
        refine wc_s hC hml (kX7_at l G (wset Z 12 (bput (bput (bput B 0 3 (nI k)) 0 4 1) 0 2 ((B 0 2) - 0))) k 2) (cwS 2 hts gX7_steps_X7_at rfl rfl rfl (by decide +kernel) ⟨Nat.le_of_ble_eq_true rfl, Nat.le_of_ble_eq_true rfl⟩) hW hS rfl rfl hl.1 (Nat.le_of_ble_eq_true rfl) dX7_steps_110 (fun H locs hW hS => ?_)
        refine lv_re (y := nI (7 + 14 * k + 2)) rfl ?_
        refine lv_dup2_11 hx hb dX7_steps_113 rfl rfl ?_
        refine wr_ald (kA := 0) hC hW (vM (by decide)) ce_m1 rfl (vp_in_nI (show (7 + 14 * k + 2) < 100 by omega) (by decide)) dX7_steps_114 ?_
        refine lv_re (y := B 1 (7 + 14 * k + 2)) (((((congrArg ((bput (bput (bput B 0 3 (nI k)) 0 4 1) 0 2 ((B 0 2) - 0)) 1) (nI_clamp (by omega)))).trans (bput_j (by omega))).trans (bput_j (by omega))).trans (bput_j (by omega))) ?_
        refine lv_iload_n hx hb dX7_steps_115 rfl (lv_at hl 1 rfl) ?_
        refine lv_iadd hx hb dX7_steps_116 ?_
        refine wr_ast (kA := 0) (Z' := wset Z 12 (bput (bput (bput (bput B 0 3 (nI k)) 0 4 1) 0 2 ((B 0 2) - 0)) 1 (nI (7 + 14 * k + 2)).toNatClampNeg ((B 1 (7 + 14 * k + 2)) + x_10))) hC hW hS (vM (by decide)) ce_m1 rfl (vp_in_nI (show (7 + 14 * k + 2) < 100 by omega) (by decide)) wset_off pu_m1 dX7_steps_117 (fun H locs hW hS => ?_)
        rw [nI_clamp (show (7 + 14 * k + 2) < 2 ^ 31 by omega)] at hW
        refine lv_aload_n hx hb dX7_steps_118 rfl (lv_at hl 2 rfl) ?_
        refine wr_get hC hinRX7 hW (vM (by decide)) ce_m0 rfl 0 (by decide) hk0 rfl dX7_steps_119 ?_
        refine lv_iload_n hx hb dX7_steps_122 rfl (lv_at hl 3 rfl) ?_
        refine lv_iconst (v := 3) hx hb dX7_steps_123 (by decide) ?_
        refine wc_s hC hml (kX7_at l G (wset Z 12 (bput (bput (bput (bput B 0 3 (nI k)) 0 4 1) 0 2 ((B 0 2) - 0)) 1 (7 + 14 * k + 2) ((B 1 (7 + 14 * k + 2)) + x_10))) k 3) (cwS 2 hts gX7_steps_X7_at rfl rfl rfl (by decide +kernel) ⟨Nat.le_of_ble_eq_true rfl, Nat.le_of_ble_eq_true rfl⟩) hW hS rfl rfl hl.1 (Nat.le_of_ble_eq_true rfl) dX7_steps_124 (fun H locs hW hS => ?_)
        refine lv_re (y := nI (7 + 14 * k + 3)) rfl ?_
        refine lv_dup2_11 hx hb dX7_steps_127 rfl rfl ?_
        refine wr_ald (kA := 0) hC hW (vM (by decide)) ce_m1 rfl (vp_in_nI (show (7 + 14 * k + 3) < 100 by omega) (by decide)) dX7_steps_128 ?_
        refine lv_re (y := B 1 (7 + 14 * k + 3)) ((((((congrArg ((bput (bput (bput (bput B 0 3 (nI k)) 0 4 1) 0 2 ((B 0 2) - 0)) 1 (7 + 14 * k + 2) ((B 1 (7 + 14 * k + 2)) + x_10)) 1) (nI_clamp (by omega)))).trans (bput_q (by omega))).trans (bput_j (by omega))).trans (bput_j (by omega))).trans (bput_j (by omega))) ?_
        refine lv_iload_n hx hb dX7_steps_129 rfl (lv_at hl 0 rfl) ?_
        refine lv_if_eq (tgt := 137) hx hb dX7_steps_130 (by decide) (fun c_83 => ?_) (fun c_83 => ?_)
        · exact absurd c_83 (by decide)
        · skip
          refine lv_iconst (v := 0) hx hb dX7_steps_133 (by decide) ?_
          refine lv_goto (tgt := 138) hx hb dX7_steps_134 (by decide) ?_
          refine lv_iadd hx hb dX7_steps_138 ?_
          refine wr_ast (kA := 0) (Z' := wset Z 12 (bput (bput (bput (bput (bput B 0 3 (nI k)) 0 4 1) 0 2 ((B 0 2) - 0)) 1 (7 + 14 * k + 2) ((B 1 (7 + 14 * k + 2)) + x_10)) 1 (nI (7 + 14 * k + 3)).toNatClampNeg ((B 1 (7 + 14 * k + 3)) + 0))) hC hW hS (vM (by decide)) ce_m1 rfl (vp_in_nI (show (7 + 14 * k + 3) < 100 by omega) (by decide)) wset_off pu_m1 dX7_steps_139 (fun H locs hW hS => ?_)
          rw [nI_clamp (show (7 + 14 * k + 3) < 2 ^ 31 by omega)] at hW
          refine lv_aload_n hx hb dX7_steps_140 rfl (lv_at hl 2 rfl) ?_
          refine wr_get hC hinRX7 hW (vM (by decide)) ce_m0 rfl 0 (by decide) hk0 rfl dX7_steps_141 ?_
          refine lv_iload_n hx hb dX7_steps_144 rfl (lv_at hl 3 rfl) ?_
          refine lv_bipush (v := 12) hx hb dX7_steps_145 (by decide) ?_
          refine wc_s hC hml (kX7_at l G (wset Z 12 (bput (bput (bput (bput (bput B 0 3 (nI k)) 0 4 1) 0 2 ((B 0 2) - 0)) 1 (7 + 14 * k + 2) ((B 1 (7 + 14 * k + 2)) + x_10)) 1 (7 + 14 * k + 3) ((B 1 (7 + 14 * k + 3)) + 0))) k 12) (cwS 2 hts gX7_steps_X7_at rfl rfl rfl (by decide +kernel) ⟨Nat.le_of_ble_eq_true rfl, Nat.le_of_ble_eq_true rfl⟩) hW hS rfl rfl hl.1 (Nat.le_of_ble_eq_true rfl) dX7_steps_147 (fun H locs hW hS => ?_)
          refine lv_re (y := nI (7 + 14 * k + 12)) rfl ?_
          refine lv_dup2_11 hx hb dX7_steps_150 rfl rfl ?_
          refine wr_ald (kA := 0) hC hW (vM (by decide)) ce_m1 rfl (vp_in_nI (show (7 + 14 * k + 12) < 100 by omega) (by decide)) dX7_steps_151 ?_
          refine lv_re (y := B 1 (7 + 14 * k + 12)) (((((((congrArg ((bput (bput (bput (bput (bput B 0 3 (nI k)) 0 4 1) 0 2 ((B 0 2) - 0)) 1 (7 + 14 * k + 2) ((B 1 (7 + 14 * k + 2)) + x_10)) 1 (7 + 14 * k + 3) ((B 1 (7 + 14 * k + 3)) + 0)) 1) (nI_clamp (by omega)))).trans (bput_q (by omega))).trans (bput_q (by omega))).trans (bput_j (by omega))).trans (bput_j (by omega))).trans (bput_j (by omega))) ?_
          refine lv_iconst (v := 1) hx hb dX7_steps_152 (by decide) ?_
          refine lv_iadd hx hb dX7_steps_153 ?_
          refine wr_ast (kA := 0) (Z' := wset Z 12 (bput (bput (bput (bput (bput (bput B 0 3 (nI k)) 0 4 1) 0 2 ((B 0 2) - 0)) 1 (7 + 14 * k + 2) ((B 1 (7 + 14 * k + 2)) + x_10)) 1 (7 + 14 * k + 3) ((B 1 (7 + 14 * k + 3)) + 0)) 1 (nI (7 + 14 * k + 12)).toNatClampNeg ((B 1 (7 + 14 * k + 12)) + 1))) hC hW hS (vM (by decide)) ce_m1 rfl (vp_in_nI (show (7 + 14 * k + 12) < 100 by omega) (by decide)) wset_off pu_m1 dX7_steps_154 (fun H locs hW hS => ?_)
          rw [nI_clamp (show (7 + 14 * k + 12) < 2 ^ 31 by omega)] at hW
          refine lv_aload_n hx hb dX7_steps_155 rfl (lv_at hl 2 rfl) ?_
          refine wr_get hC hinRX7 hW (vM (by decide)) ce_m0 rfl 0 (by decide) hk0 rfl dX7_steps_156 ?_
          refine lv_iload_n hx hb dX7_steps_159 rfl (lv_at hl 3 rfl) ?_
          refine lv_bipush (v := 13) hx hb dX7_steps_160 (by decide) ?_
          refine wc_s hC hml (kX7_at l G (wset Z 12 (bput (bput (bput (bput (bput (bput B 0 3 (nI k)) 0 4 1) 0 2 ((B 0 2) - 0)) 1 (7 + 14 * k + 2) ((B 1 (7 + 14 * k + 2)) + x_10)) 1 (7 + 14 * k + 3) ((B 1 (7 + 14 * k + 3)) + 0)) 1 (7 + 14 * k + 12) ((B 1 (7 + 14 * k + 12)) + 1))) k 13) (cwS 2 hts gX7_steps_X7_at rfl rfl rfl (by decide +kernel) ⟨Nat.le_of_ble_eq_true rfl, Nat.le_of_ble_eq_true rfl⟩) hW hS rfl rfl hl.1 (Nat.le_of_ble_eq_true rfl) dX7_steps_162 (fun H locs hW hS => ?_)
          refine lv_re (y := nI (7 + 14 * k + 13)) rfl ?_
          refine lv_dup2_11 hx hb dX7_steps_165 rfl rfl ?_
          refine wr_ald (kA := 0) hC hW (vM (by decide)) ce_m1 rfl (vp_in_nI (show (7 + 14 * k + 13) < 100 by omega) (by decide)) dX7_steps_166 ?_
          refine lv_re (y := B 1 (7 + 14 * k + 13)) ((((((((congrArg ((bput (bput (bput (bput (bput (bput B 0 3 (nI k)) 0 4 1) 0 2 ((B 0 2) - 0)) 1 (7 + 14 * k + 2) ((B 1 (7 + 14 * k + 2)) + x_10)) 1 (7 + 14 * k + 3) ((B 1 (7 + 14 * k + 3)) + 0)) 1 (7 + 14 * k + 12) ((B 1 (7 + 14 * k + 12)) + 1)) 1) (nI_clamp (by omega)))).trans (bput_q (by omega))).trans (bput_q (by omega))).trans (bput_q (by omega))).trans (bput_j (by omega))).trans (bput_j (by omega))).trans (bput_j (by omega))) ?_
          refine lv_iload_n hx hb dX7_steps_167 rfl (lv_at hl 0 rfl) ?_
          refine lv_if_eq (tgt := 175) hx hb dX7_steps_168 (by decide) (fun c_84 => ?_) (fun c_84 => ?_)
          · exact absurd c_84 (by decide)
          · skip
            refine lv_iconst (v := 1) hx hb dX7_steps_171 (by decide) ?_
            refine lv_goto (tgt := 176) hx hb dX7_steps_172 (by decide) ?_
            refine lv_iadd hx hb dX7_steps_176 ?_
            refine wr_ast (kA := 0) (Z' := wset Z 12 (bput (bput (bput (bput (bput (bput (bput B 0 3 (nI k)) 0 4 1) 0 2 ((B 0 2) - 0)) 1 (7 + 14 * k + 2) ((B 1 (7 + 14 * k + 2)) + x_10)) 1 (7 + 14 * k + 3) ((B 1 (7 + 14 * k + 3)) + 0)) 1 (7 + 14 * k + 12) ((B 1 (7 + 14 * k + 12)) + 1)) 1 (nI (7 + 14 * k + 13)).toNatClampNeg ((B 1 (7 + 14 * k + 13)) + 1))) hC hW hS (vM (by decide)) ce_m1 rfl (vp_in_nI (show (7 + 14 * k + 13) < 100 by omega) (by decide)) wset_off pu_m1 dX7_steps_177 (fun H locs hW hS => ?_)
            rw [nI_clamp (show (7 + 14 * k + 13) < 2 ^ 31 by omega)] at hW
            refine lv_aload_n hx hb dX7_steps_178 rfl (lv_at hl 2 rfl) ?_
            refine wr_get hC hinRX7 hW (vM (by decide)) ce_m0 rfl 0 (by decide) hk0 rfl dX7_steps_179 ?_
            refine lv_iload_n hx hb dX7_steps_182 rfl (lv_at hl 3 rfl) ?_
            refine lv_iconst (v := 5) hx hb dX7_steps_183 (by decide) ?_
            refine wc_s hC hml (kX7_at l G (wset Z 12 (bput (bput (bput (bput (bput (bput (bput B 0 3 (nI k)) 0 4 1) 0 2 ((B 0 2) - 0)) 1 (7 + 14 * k + 2) ((B 1 (7 + 14 * k + 2)) + x_10)) 1 (7 + 14 * k + 3) ((B 1 (7 + 14 * k + 3)) + 0)) 1 (7 + 14 * k + 12) ((B 1 (7 + 14 * k + 12)) + 1)) 1 (7 + 14 * k + 13) ((B 1 (7 + 14 * k + 13)) + 1))) k 5) (cwS 2 hts gX7_steps_X7_at rfl rfl rfl (by decide +kernel) ⟨Nat.le_of_ble_eq_true rfl, Nat.le_of_ble_eq_true rfl⟩) hW hS rfl rfl hl.1 (Nat.le_of_ble_eq_true rfl) dX7_steps_184 (fun H locs hW hS => ?_)
            refine lv_re (y := nI (7 + 14 * k + 5)) rfl ?_
            refine lv_dup2_11 hx hb dX7_steps_187 rfl rfl ?_
            refine wr_ald (kA := 0) hC hW (vM (by decide)) ce_m1 rfl (vp_in_nI (show (7 + 14 * k + 5) < 100 by omega) (by decide)) dX7_steps_188 ?_
            refine lv_re (y := B 1 (7 + 14 * k + 5)) (((((((((congrArg ((bput (bput (bput (bput (bput (bput (bput B 0 3 (nI k)) 0 4 1) 0 2 ((B 0 2) - 0)) 1 (7 + 14 * k + 2) ((B 1 (7 + 14 * k + 2)) + x_10)) 1 (7 + 14 * k + 3) ((B 1 (7 + 14 * k + 3)) + 0)) 1 (7 + 14 * k + 12) ((B 1 (7 + 14 * k + 12)) + 1)) 1 (7 + 14 * k + 13) ((B 1 (7 + 14 * k + 13)) + 1)) 1) (nI_clamp (by omega)))).trans (bput_q (by omega))).trans (bput_q (by omega))).trans (bput_q (by omega))).trans (bput_q (by omega))).trans (bput_j (by omega))).trans (bput_j (by omega))).trans (bput_j (by omega))) ?_
            refine lv_iconst (v := 1) hx hb dX7_steps_189 (by decide) ?_
            refine lv_isub hx hb dX7_steps_190 ?_
            refine wr_ast (kA := 0) (Z' := wset Z 12 (bput (bput (bput (bput (bput (bput (bput (bput B 0 3 (nI k)) 0 4 1) 0 2 ((B 0 2) - 0)) 1 (7 + 14 * k + 2) ((B 1 (7 + 14 * k + 2)) + x_10)) 1 (7 + 14 * k + 3) ((B 1 (7 + 14 * k + 3)) + 0)) 1 (7 + 14 * k + 12) ((B 1 (7 + 14 * k + 12)) + 1)) 1 (7 + 14 * k + 13) ((B 1 (7 + 14 * k + 13)) + 1)) 1 (nI (7 + 14 * k + 5)).toNatClampNeg ((B 1 (7 + 14 * k + 5)) - 1))) hC hW hS (vM (by decide)) ce_m1 rfl (vp_in_nI (show (7 + 14 * k + 5) < 100 by omega) (by decide)) wset_off pu_m1 dX7_steps_191 (fun H locs hW hS => ?_)
            rw [nI_clamp (show (7 + 14 * k + 5) < 2 ^ 31 by omega)] at hW
            refine lv_aload_n hx hb dX7_steps_192 rfl (lv_at hl 2 rfl) ?_
            refine lv_iload_n hx hb dX7_steps_193 rfl (lv_at hl 3 rfl) ?_
            obtain ⟨B_85, eB_85⟩ : ∃ y, y = (bput (bput (bput (bput (bput (bput (bput (bput B 0 3 (nI k)) 0 4 1) 0 2 ((B 0 2) - 0)) 1 (7 + 14 * k + 2) ((B 1 (7 + 14 * k + 2)) + x_10)) 1 (7 + 14 * k + 3) ((B 1 (7 + 14 * k + 3)) + 0)) 1 (7 + 14 * k + 12) ((B 1 (7 + 14 * k + 12)) + 1)) 1 (7 + 14 * k + 13) ((B 1 (7 + 14 * k + 13)) + 1)) 1 (7 + 14 * k + 5) ((B 1 (7 + 14 * k + 5)) - 1)) := ⟨_, rfl⟩
            rw [← eB_85] at hW
            refine wc_i hC hml (kX7_rests l G Z B_85 k (by first | assumption | omega)) (cwV 1 hts gX7_steps_X7_rests rfl rfl rfl (by decide +kernel) ⟨Nat.le_of_ble_eq_true rfl, Nat.le_of_ble_eq_true rfl⟩) hW hS (vM (by decide)) ce_m0 rfl rfl rfl rfl hl.1 (Nat.le_of_ble_eq_true rfl) dX7_steps_194 (fun H locs hW hS => ?_)
            refine lv_topi (fun x_86 ex_86 => ?_)
            refine lv_if_eq (tgt := 247) hx hb dX7_steps_197 (by decide) (fun c_87 => ?_) (fun c_87 => ?_)
            · skip
              refine lv_aload_n hx hb dX7_steps_247 rfl (lv_at hl 2 rfl) ?_
              refine wr_get hC hinRX7 hW (vM (by decide)) ce_m0 rfl 0 (by decide) hk0 rfl dX7_steps_248 ?_
              refine lv_iload_n hx hb dX7_steps_251 rfl (lv_at hl 3 rfl) ?_
              refine lv_bipush (v := 6) hx hb dX7_steps_252 (by decide) ?_
              refine wc_s hC hml (kX7_at l G (wset Z 12 B_85) k 6) (cwS 2 hts gX7_steps_X7_at rfl rfl rfl (by decide +kernel) ⟨Nat.le_of_ble_eq_true rfl, Nat.le_of_ble_eq_true rfl⟩) hW hS rfl rfl hl.1 (Nat.le_of_ble_eq_true rfl) dX7_steps_254 (fun H locs hW hS => ?_)
              refine lv_re (y := nI (7 + 14 * k + 6)) rfl ?_
              refine lv_aload_n hx hb dX7_steps_257 rfl (lv_at hl 2 rfl) ?_
              refine wr_get hC hinRX7 hW (vM (by decide)) ce_m0 rfl 0 (by decide) hk0 rfl dX7_steps_258 ?_
              refine lv_iload_n hx hb dX7_steps_261 rfl (lv_at hl 3 rfl) ?_
              refine lv_bipush (v := 6) hx hb dX7_steps_262 (by decide) ?_
              refine wc_s hC hml (kX7_at l G (wset Z 12 B_85) k 6) (cwS 2 hts gX7_steps_X7_at rfl rfl rfl (by decide +kernel) ⟨Nat.le_of_ble_eq_true rfl, Nat.le_of_ble_eq_true rfl⟩) hW hS rfl rfl hl.1 (Nat.le_of_ble_eq_true rfl) dX7_steps_264 (fun H locs hW hS => ?_)
              refine lv_re (y := nI (7 + 14 * k + 6)) rfl ?_
              refine wr_ald (kA := 0) hC hW (vM (by decide)) ce_m1 rfl (vp_in_nI (show (7 + 14 * k + 6) < 100 by omega) (by decide)) dX7_steps_267 ?_
              refine lv_re (y := B 1 (7 + 14 * k + 6)) (((((((((((congrArg (B_85 1) (nI_clamp (by omega)))).trans ((congrFun (congrFun eB_85 _) _))).trans (bput_q (by omega))).trans (bput_q (by omega))).trans (bput_q (by omega))).trans (bput_q (by omega))).trans (bput_q (by omega))).trans (bput_j (by omega))).trans (bput_j (by omega))).trans (bput_j (by omega))) ?_
              refine lv_aload_n hx hb dX7_steps_268 rfl (lv_at hl 2 rfl) ?_
              refine wr_get hC hinRX7 hW (vM (by decide)) ce_m0 rfl 0 (by decide) hk0 rfl dX7_steps_269 ?_
              refine lv_iload_n hx hb dX7_steps_272 rfl (lv_at hl 3 rfl) ?_
              refine lv_iconst (v := 5) hx hb dX7_steps_273 (by decide) ?_
              refine wc_s hC hml (kX7_at l G (wset Z 12 B_85) k 5) (cwS 2 hts gX7_steps_X7_at rfl rfl rfl (by decide +kernel) ⟨Nat.le_of_ble_eq_true rfl, Nat.le_of_ble_eq_true rfl⟩) hW hS rfl rfl hl.1 (Nat.le_of_ble_eq_true rfl) dX7_steps_274 (fun H locs hW hS => ?_)
              refine lv_re (y := nI (7 + 14 * k + 5)) rfl ?_
              refine wr_ald (kA := 0) hC hW (vM (by decide)) ce_m1 rfl (vp_in_nI (show (7 + 14 * k + 5) < 100 by omega) (by decide)) dX7_steps_277 ?_
              refine lv_re (y := (B 1 (7 + 14 * k + 5)) - 1) ((((congrArg (B_85 1) (nI_clamp (by omega)))).trans ((congrFun (congrFun eB_85 _) _))).trans (bput_h)) ?_
              refine lv_aload_n hx hb dX7_steps_278 rfl (lv_at hl 2 rfl) ?_
              refine lv_aload_n hx hb dX7_steps_279 rfl (lv_at hl 2 rfl) ?_
              refine wr_get hC hinRX7 hW (vM (by decide)) ce_m0 rfl 0 (by decide) hk0 rfl dX7_steps_280 ?_
              refine lv_iconst (v := 2) hx hb dX7_steps_283 (by decide) ?_
              refine wr_ald (kA := 0) hC hW (vM (by decide)) ce_m1 rfl (vp_in_iff.mpr (by decide)) dX7_steps_284 ?_
              refine lv_re (y := B 1 2) (((((((((((congrArg (B_85 1) (show (2 : Int32).toNatClampNeg = 2 by decide))).trans ((congrFun (congrFun eB_85 _) _))).trans (bput_q (by omega))).trans (bput_q (by omega))).trans (bput_q (by omega))).trans (bput_q (by omega))).trans (bput_q (by omega))).trans (bput_j (by omega))).trans (bput_q (by decide))).trans (bput_q (by decide))) ?_
              refine wc_i hC hml (kX7_highestBy l G Z B_85 (B 1 2) (by first | assumption | omega)) (cwV 1 hts gX7_steps_X7_highestBy rfl rfl rfl (by decide +kernel) ⟨Nat.le_of_ble_eq_true rfl, Nat.le_of_ble_eq_true rfl⟩) hW hS (vM (by decide)) ce_m0 rfl rfl rfl rfl hl.1 (Nat.le_of_ble_eq_true rfl) dX7_steps_285 (fun H locs hW hS => ?_)
              refine lv_topi (fun x_88 ex_88 => ?_)
              refine wc_s hC hml (kX7_nextLevel l G (wset Z 12 B_85) (B 1 (7 + 14 * k + 6)) ((B 1 (7 + 14 * k + 5)) - 1) x_88) (cwS 3 hts gX7_steps_X7_nextLevel rfl rfl rfl (by decide +kernel) ⟨Nat.le_of_ble_eq_true rfl, Nat.le_of_ble_eq_true rfl⟩) hW hS rfl rfl hl.1 (Nat.le_of_ble_eq_true rfl) dX7_steps_288 (fun H locs hW hS => ?_)
              refine lv_topi (fun x_89 ex_89 => ?_)
              refine wr_ast (kA := 0) (Z' := wset Z 12 (bput B_85 1 (nI (7 + 14 * k + 6)).toNatClampNeg x_89)) hC hW hS (vM (by decide)) ce_m1 rfl (vp_in_nI (show (7 + 14 * k + 6) < 100 by omega) (by decide)) wset_off pu_m1 dX7_steps_291 (fun H locs hW hS => ?_)
              rw [nI_clamp (show (7 + 14 * k + 6) < 2 ^ 31 by omega)] at hW
              refine lv_aload_n hx hb dX7_steps_292 rfl (lv_at hl 2 rfl) ?_
              refine wr_get hC hinRX7 hW (vM (by decide)) ce_m0 rfl 0 (by decide) hk0 rfl dX7_steps_293 ?_
              refine lv_iload_n hx hb dX7_steps_296 rfl (lv_at hl 3 rfl) ?_
              refine lv_bipush (v := 7) hx hb dX7_steps_297 (by decide) ?_
              refine wc_s hC hml (kX7_at l G (wset Z 12 (bput B_85 1 (7 + 14 * k + 6) x_89)) k 7) (cwS 2 hts gX7_steps_X7_at rfl rfl rfl (by decide +kernel) ⟨Nat.le_of_ble_eq_true rfl, Nat.le_of_ble_eq_true rfl⟩) hW hS rfl rfl hl.1 (Nat.le_of_ble_eq_true rfl) dX7_steps_299 (fun H locs hW hS => ?_)
              refine lv_re (y := nI (7 + 14 * k + 7)) rfl ?_
              refine lv_aload_n hx hb dX7_steps_302 rfl (lv_at hl 2 rfl) ?_
              refine wr_get hC hinRX7 hW (vM (by decide)) ce_m0 rfl 0 (by decide) hk0 rfl dX7_steps_303 ?_
              refine lv_iconst (v := 5) hx hb dX7_steps_306 (by decide) ?_
              refine wr_ald (kA := 0) hC hW (vM (by decide)) ce_m1 rfl (vp_in_iff.mpr (by decide)) dX7_steps_307 ?_
              refine lv_re (y := B 1 5) ((((((((((((congrArg ((bput B_85 1 (7 + 14 * k + 6) x_89) 1) (show (5 : Int32).toNatClampNeg = 5 by decide))).trans (bput_q (by omega))).trans ((congrFun (congrFun eB_85 _) _))).trans (bput_q (by omega))).trans (bput_q (by omega))).trans (bput_q (by omega))).trans (bput_q (by omega))).trans (bput_q (by omega))).trans (bput_q (by decide))).trans (bput_q (by decide))).trans (bput_q (by decide))) ?_
              refine lv_aload_n hx hb dX7_steps_308 rfl (lv_at hl 2 rfl) ?_
              refine lv_aload_n hx hb dX7_steps_309 rfl (lv_at hl 2 rfl) ?_
              refine wr_get hC hinRX7 hW (vM (by decide)) ce_m0 rfl 0 (by decide) hk0 rfl dX7_steps_310 ?_
              refine lv_iload_n hx hb dX7_steps_313 rfl (lv_at hl 3 rfl) ?_
              refine lv_bipush (v := 6) hx hb dX7_steps_314 (by decide) ?_
              refine wc_s hC hml (kX7_at l G (wset Z 12 (bput B_85 1 (7 + 14 * k + 6) x_89)) k 6) (cwS 2 hts gX7_steps_X7_at rfl rfl rfl (by decide +kernel) ⟨Nat.le_of_ble_eq_true rfl, Nat.le_of_ble_eq_true rfl⟩) hW hS rfl rfl hl.1 (Nat.le_of_ble_eq_true rfl) dX7_steps_316 (fun H locs hW hS => ?_)
              refine lv_re (y := nI (7 + 14 * k + 6)) rfl ?_
              refine wr_ald (kA := 0) hC hW (vM (by decide)) ce_m1 rfl (vp_in_nI (show (7 + 14 * k + 6) < 100 by omega) (by decide)) dX7_steps_319 ?_
              refine lv_re (y := x_89) (((congrArg ((bput B_85 1 (7 + 14 * k + 6) x_89) 1) (nI_clamp (by omega)))).trans (bput_h)) ?_
              refine lv_aload_n hx hb dX7_steps_320 rfl (lv_at hl 2 rfl) ?_
              refine wr_get hC hinRX7 hW (vM (by decide)) ce_m0 rfl 0 (by decide) hk0 rfl dX7_steps_321 ?_
              refine lv_iconst (v := 2) hx hb dX7_steps_324 (by decide) ?_
              refine wr_ald (kA := 0) hC hW (vM (by decide)) ce_m1 rfl (vp_in_iff.mpr (by decide)) dX7_steps_325 ?_
              refine lv_re (y := B 1 2) ((((((((((((congrArg ((bput B_85 1 (7 + 14 * k + 6) x_89) 1) (show (2 : Int32).toNatClampNeg = 2 by decide))).trans (bput_q (by omega))).trans ((congrFun (congrFun eB_85 _) _))).trans (bput_q (by omega))).trans (bput_q (by omega))).trans (bput_q (by omega))).trans (bput_q (by omega))).trans (bput_q (by omega))).trans (bput_j (by omega))).trans (bput_q (by decide))).trans (bput_q (by decide))) ?_
              obtain ⟨B_90, eB_90⟩ : ∃ y, y = (bput B_85 1 (7 + 14 * k + 6) x_89) := ⟨_, rfl⟩
              rw [← eB_90] at hW
              refine wc_i hC hml (kX7_intervalBy l G Z B_90 x_89 (B 1 2)) (cwV 2 hts gX7_steps_X7_intervalBy rfl rfl rfl (by decide +kernel) ⟨Nat.le_of_ble_eq_true rfl, Nat.le_of_ble_eq_true rfl⟩) hW hS (vM (by decide)) ce_m0 rfl rfl rfl rfl hl.1 (Nat.le_of_ble_eq_true rfl) dX7_steps_326 (fun H locs hW hS => ?_)
              refine lv_topi (fun x_91 ex_91 => ?_)
              refine lv_iadd hx hb dX7_steps_329 ?_
              refine wr_ast (kA := 0) (Z' := wset Z 12 (bput B_90 1 (nI (7 + 14 * k + 7)).toNatClampNeg ((B 1 5) + x_91))) hC hW hS (vM (by decide)) ce_m1 rfl (vp_in_nI (show (7 + 14 * k + 7) < 100 by omega) (by decide)) wset_off pu_m1 dX7_steps_330 (fun H locs hW hS => ?_)
              rw [nI_clamp (show (7 + 14 * k + 7) < 2 ^ 31 by omega)] at hW
              have hf : fX7_steps B k = (bput B_90 1 (7 + 14 * k + 7) ((B 1 5) + x_91)) := by
                subst ex_91
                subst eB_90
                subst ex_89
                subst ex_88
                subst ex_86
                subst eB_85
                subst ex_12
                subst ex_11
                subst ex_10
                exact (if_neg c_13).trans ((if_pos c_53).trans ((if_neg c_73).trans ((if_pos c_87).trans rfl)))
              exact we_v hC hr hlocks (congrArg (wset Z 12) hf).symm hW hS dX7_steps_331
            · skip
              refine lv_aload_n hx hb dX7_steps_200 rfl (lv_at hl 2 rfl) ?_
              refine wr_get hC hinRX7 hW (vM (by decide)) ce_m0 rfl 0 (by decide) hk0 rfl dX7_steps_201 ?_
              refine lv_iload_n hx hb dX7_steps_204 rfl (lv_at hl 3 rfl) ?_
              refine lv_bipush (v := 6) hx hb dX7_steps_205 (by decide) ?_
              refine wc_s hC hml (kX7_at l G (wset Z 12 B_85) k 6) (cwS 2 hts gX7_steps_X7_at rfl rfl rfl (by decide +kernel) ⟨Nat.le_of_ble_eq_true rfl, Nat.le_of_ble_eq_true rfl⟩) hW hS rfl rfl hl.1 (Nat.le_of_ble_eq_true rfl) dX7_steps_207 (fun H locs hW hS => ?_)
              refine lv_re (y := nI (7 + 14 * k + 6)) rfl ?_
              refine lv_iconst (v := 0) hx hb dX7_steps_210 (by decide) ?_
              refine wr_ast (kA := 0) (Z' := wset Z 12 (bput B_85 1 (nI (7 + 14 * k + 6)).toNatClampNeg 0)) hC hW hS (vM (by decide)) ce_m1 rfl (vp_in_nI (show (7 + 14 * k + 6) < 100 by omega) (by decide)) wset_off pu_m1 dX7_steps_211 (fun H locs hW hS => ?_)
              rw [nI_clamp (show (7 + 14 * k + 6) < 2 ^ 31 by omega)] at hW
              have hf : fX7_steps B k = LX7_sw k 3 (bput B_85 1 (7 + 14 * k + 6) 0) := by
                subst ex_86
                subst eB_85
                subst ex_12
                subst ex_11
                subst ex_10
                exact (if_neg c_13).trans ((if_pos c_53).trans ((if_neg c_73).trans ((if_neg c_87).trans rfl)))
              exact hlp_1 3 (bput B_85 1 (7 + 14 * k + 6) 0) (by rw [show (bput B_85 1 (7 + 14 * k + 6) 0) 1 (7 + 14 * k + 0) = B 1 (7 + 14 * k + 0) from (((((((((bput_q (by omega)).trans ((congrFun (congrFun eB_85 _) _))).trans (bput_q (by omega))).trans (bput_q (by omega))).trans (bput_q (by omega))).trans (bput_q (by omega))).trans (bput_q (by omega))).trans (bput_j (by omega))).trans (bput_j (by omega))).trans (bput_j (by omega))]; exact hmi) (by rw [show (bput B_85 1 (7 + 14 * k + 6) 0) 1 (7 + 14 * k + 8) = B 1 (7 + 14 * k + 8) from (((((((((bput_q (by omega)).trans ((congrFun (congrFun eB_85 _) _))).trans (bput_q (by omega))).trans (bput_q (by omega))).trans (bput_q (by omega))).trans (bput_q (by omega))).trans (bput_q (by omega))).trans (bput_j (by omega))).trans (bput_j (by omega))).trans (bput_j (by omega))]; exact hw) hf _ _ _ hW hS (lv_sub hl [2, 3] rfl)

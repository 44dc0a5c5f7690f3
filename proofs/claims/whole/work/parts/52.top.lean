def fX6_of (Z : wZ) (a1 : Int32) (a2 : Int32) : Int32 :=
  if hX0_find (Z 0) a1 then (if a2 = 0 then ((Z 0) (3 + a1.toNatClampNeg) 2) + 1000000
    else if a2 = 1 then ((Z 0) (3 + a1.toNatClampNeg) 3) + 1000000
    else if a2 = 2 then (Z 0) (3 + a1.toNatClampNeg) 0
    else if a2 = 3 then (Z 0) (3 + a1.toNatClampNeg) 1
    else if a2 = 4 then (let x_7 := fX5_moves a1.toNatClampNeg (Z 0)
      if x_7 = 0 then 0
      else 1)
    else if a2 = 5 then (Z 0) (3 + a1.toNatClampNeg) 5
    else if a2 = 6 then (Z 0) (3 + a1.toNatClampNeg) 6
    else if a2 = 7 then (let x_12 := fX5_moves a1.toNatClampNeg (Z 0)
      if x_12 = 0 then (-6)
      else ((Z 0) (3 + a1.toNatClampNeg) 7) - ((Z 0) 0 2))
    else if a2 = 8 then (Z 0) (3 + a1.toNatClampNeg) 10
    else if a2 = 9 then (Z 0) (3 + a1.toNatClampNeg) 8
    else if a2 = 10 then (Z 0) (3 + a1.toNatClampNeg) 9
    else if a2 = 11 then (let x_18 := fX5_saysAfter a1.toNatClampNeg (Z 0) ((Z 0) (3 + a1.toNatClampNeg) 5)
      x_18 + 1000000)
    else (-2))
  else (-1)
abbrev rX6_of : Room := { frames := 1, cells := 0, slots := 0, locals := 21 }
set_option maxHeartbeats 4000000 in
set_option maxRecDepth 100000 in
theorem kX6_of (l : Launch) (G : wG) (Z : wZ)  (a1 : Int32) (a2 : Int32)  : mI l yX6_of wsX6_of rX6_of G [.ref (G.2.2.1 11 0), .int a1, .int a2] Z (fX6_of Z a1 a2) Z := by
  refine Met.ofW (cc := cX6_of) (maxL := 4) (ret := (some .int)) (by decide) rfl ?_
  intro p e s m args below meth c s₁ B0 hml hv
  obtain ⟨rfl, hW, hK, hL⟩ := hv
  have hlocks := B0.notSynchronized
  have hr := B0.returns
  have hC : wX p s m c cX6_of _ wsX6_of RX6 G := ⟨B0.exec, B0.bytes, findClass_of_methodNamed B0.named, atoms_spec (ws := wsX6_of) B0.pre, hK, hL⟩
  have hx := hC.1
  have hb := hC.2.1
  have hts := hC.2.2.2.1
  have hinRX0 : ∀ w ∈ wsX00, w ∈ wsX6_of := by decide +kernel
  have hinRX5 : ∀ w ∈ wsX50, w ∈ wsX6_of := by decide +kernel
  have hinRX6 : ∀ w ∈ wsX60, w ∈ wsX6_of := by decide +kernel
  have hk0 := hts (.fieldLink RX6 10 "RampShafts" "bench" "LRampShafts$Bench;") (by decide +kernel)
  have hk1 := hts (.fieldLink RX6 90 "RampShafts$Shaft" "says" "I") (by decide +kernel)
  have hk2 := hts (.constant RX6 96 (1000000)) (by decide +kernel)
  have hk3 := hts (.fieldLink RX6 97 "RampShafts$Shaft" "stands" "I") (by decide +kernel)
  have hk4 := hts (.fieldLink RX6 100 "RampShafts$Shaft" "micro" "I") (by decide +kernel)
  have hk5 := hts (.fieldLink RX6 103 "RampShafts$Shaft" "load" "I") (by decide +kernel)
  have hk6 := hts (.fieldLink RX6 110 "RampShafts$Shaft" "left" "I") (by decide +kernel)
  have hk7 := hts (.fieldLink RX6 113 "RampShafts$Shaft" "level" "I") (by decide +kernel)
  have hk8 := hts (.fieldLink RX6 116 "RampShafts$Shaft" "next" "I") (by decide +kernel)
  have hk9 := hts (.fieldLink RX6 119 "RampShafts$Bench" "time" "I") (by decide +kernel)
  have hk10 := hts (.fieldLink RX6 122 "RampShafts$Shaft" "waitCount" "I") (by decide +kernel)
  have hk11 := hts (.fieldLink RX6 125 "RampShafts$Shaft" "steps" "I") (by decide +kernel)
  have hk12 := hts (.fieldLink RX6 128 "RampShafts$Shaft" "lost" "I") (by decide +kernel)
  have hS : va_S (wA G) s.heap s.heap [] := va_S.rf
  have hl := lv_entry ([.ref (G.2.2.1 11 0), .int a1, .int a2]) (n := 4) (Nat.le_of_ble_eq_true rfl)
  rw [lg_entry_eq]
  generalize (lg_sl ([.ref (G.2.2.1 11 0), .int a1, .int a2]) ++ List.replicate (4 - (lg_sl ([.ref (G.2.2.1 11 0), .int a1, .int a2])).length) Slot.unset).toArray = ls at hl ⊢
  have hl : lv_has ls 4 [(0, .ref (G.2.2.1 11 0)), (1, .int a1), (2, .int a2)] := hl
  refine lv_aload_n hx hb dX6_of_0 rfl (lv_at hl 0 rfl) ?_
  refine wr_get hC hinRX6 hW (vS (by decide)) ((wE_c (Z' := wset Z 11 (Z 11)) (by first | (simp [wset]; done) | (simp only [wset]; split <;> first | (exfalso; omega) | simp))).trans ce_s0) rfl 0 (by decide) hk0 rfl dX6_of_1 ?_
  refine lv_iload_n hx hb dX6_of_4 rfl (lv_at hl 1 rfl) ?_
  have hW := wW_eq (Z' := (wset Z 0 (Z 0))) hW (by
    funext i9
    by_cases e0 : i9 = 0
    all_goals first | (simp [wset, e0]; done) | (exfalso; omega) | (subst_vars; simp [wset]; done) | (subst_vars; simp_all [wset]; done))
  refine wc_q hC hml (kX0_find l G Z 0 (by decide) (Z 0) a1) (cwV 1 hts gX6_of_X0_find rfl rfl rfl (by decide +kernel) ⟨Nat.le_of_ble_eq_true rfl, Nat.le_of_ble_eq_true rfl⟩) hW hS (vB (by decide) (by decide)) (ce_b0 (by decide)) rfl rfl rfl rfl hl.1 (Nat.le_of_ble_eq_true rfl) dX6_of_5 (fun H locs hW hS => ?_)
  by_cases c_1 : hX0_find (Z 0) a1
  · refine lv_rev (v' := .ref (G.2.2.1 0 (3 + a1.toNatClampNeg))) (congrArg va_rf (if_pos c_1)) ?_
    refine lv_astore_n (lv' := [(3, .ref (G.2.2.1 0 (3 + a1.toNatClampNeg))), (0, .ref (G.2.2.1 11 0)), (1, .int a1), (2, .int a2)]) hx hb dX6_of_8 rfl hl (by decide) rfl (fun ls hl => ?_)
    refine lv_aload_n hx hb dX6_of_9 rfl (lv_at hl 0 rfl) ?_
    refine lv_ifnonnull (tgt := 15) hx hb dX6_of_10 (by decide) ?_
    refine lv_iload_n hx hb dX6_of_15 rfl (lv_at hl 3 rfl) ?_
    by_cases c_2 : a2 = 0
    · refine lv_re c_2 ?_
      refine lv_tableIn (tgt := 80) (off := 64) hx hb dX6_of_16 (by decide) (by decide) (by decide) (by decide) ?_
      refine lv_aload_n hx hb dX6_of_80 rfl (lv_at hl 0 rfl) ?_
      refine wr_get hC hinRX5 hW (vBs (by decide) (find_lt c_1)) (ce_bs (by decide) (find_lt c_1)) rfl 2 (by decide) hk1 rfl dX6_of_81 ?_
      refine lv_ldc (v := 1000000) hx hb hC.2.2.1 hk2 dX6_of_84 ?_
      refine lv_iadd hx hb dX6_of_86 ?_
      have hW := wW_eq (Z' := Z) hW (by
        funext i9
        by_cases e0 : i9 = 0
        all_goals first | (simp [wset, e0]; done) | (exfalso; omega) | (subst_vars; simp [wset]; done) | (subst_vars; simp_all [wset]; done))
      have hf : fX6_of Z a1 a2 = ((Z 0) (3 + a1.toNatClampNeg) 2) + 1000000 := (if_pos c_1).trans ((if_pos c_2).trans rfl)
      exact we_i hC hr hlocks hf.symm rfl hW hS dX6_of_87
    by_cases c_3 : a2 = 1
    · refine lv_re c_3 ?_
      refine lv_tableIn (tgt := 88) (off := 72) hx hb dX6_of_16 (by decide) (by decide) (by decide) (by decide) ?_
      refine lv_aload_n hx hb dX6_of_88 rfl (lv_at hl 0 rfl) ?_
      refine wr_get hC hinRX5 hW (vBs (by decide) (find_lt c_1)) (ce_bs (by decide) (find_lt c_1)) rfl 3 (by decide) hk3 rfl dX6_of_89 ?_
      refine lv_ldc (v := 1000000) hx hb hC.2.2.1 hk2 dX6_of_92 ?_
      refine lv_iadd hx hb dX6_of_94 ?_
      have hW := wW_eq (Z' := Z) hW (by
        funext i9
        by_cases e0 : i9 = 0
        all_goals first | (simp [wset, e0]; done) | (exfalso; omega) | (subst_vars; simp [wset]; done) | (subst_vars; simp_all [wset]; done))
      have hf : fX6_of Z a1 a2 = ((Z 0) (3 + a1.toNatClampNeg) 3) + 1000000 := (if_pos c_1).trans ((if_neg c_2).trans ((if_pos c_3).trans rfl))
      exact we_i hC hr hlocks hf.symm rfl hW hS dX6_of_95
    by_cases c_4 : a2 = 2
    · refine lv_re c_4 ?_
      refine lv_tableIn (tgt := 96) (off := 80) hx hb dX6_of_16 (by decide) (by decide) (by decide) (by decide) ?_
      refine lv_aload_n hx hb dX6_of_96 rfl (lv_at hl 0 rfl) ?_
      refine wr_get hC hinRX5 hW (vBs (by decide) (find_lt c_1)) (ce_bs (by decide) (find_lt c_1)) rfl 0 (by decide) hk4 rfl dX6_of_97 ?_
      have hW := wW_eq (Z' := Z) hW (by
        funext i9
        by_cases e0 : i9 = 0
        all_goals first | (simp [wset, e0]; done) | (exfalso; omega) | (subst_vars; simp [wset]; done) | (subst_vars; simp_all [wset]; done))
      have hf : fX6_of Z a1 a2 = (Z 0) (3 + a1.toNatClampNeg) 0 := (if_pos c_1).trans ((if_neg c_2).trans ((if_neg c_3).trans ((if_pos c_4).trans rfl)))
      exact we_i hC hr hlocks hf.symm rfl hW hS dX6_of_100
    by_cases c_5 : a2 = 3
    · refine lv_re c_5 ?_
      refine lv_tableIn (tgt := 101) (off := 85) hx hb dX6_of_16 (by decide) (by decide) (by decide) (by decide) ?_
      refine lv_aload_n hx hb dX6_of_101 rfl (lv_at hl 0 rfl) ?_
      refine wr_get hC hinRX5 hW (vBs (by decide) (find_lt c_1)) (ce_bs (by decide) (find_lt c_1)) rfl 1 (by decide) hk5 rfl dX6_of_102 ?_
      have hW := wW_eq (Z' := Z) hW (by
        funext i9
        by_cases e0 : i9 = 0
        all_goals first | (simp [wset, e0]; done) | (exfalso; omega) | (subst_vars; simp [wset]; done) | (subst_vars; simp_all [wset]; done))
      have hf : fX6_of Z a1 a2 = (Z 0) (3 + a1.toNatClampNeg) 1 := (if_pos c_1).trans ((if_neg c_2).trans ((if_neg c_3).trans ((if_neg c_4).trans ((if_pos c_5).trans rfl))))
      exact we_i hC hr hlocks hf.symm rfl hW hS dX6_of_105
    by_cases c_6 : a2 = 4
    · refine lv_re c_6 ?_
      refine lv_tableIn (tgt := 106) (off := 90) hx hb dX6_of_16 (by decide) (by decide) (by decide) (by decide) ?_
      refine lv_aload_n hx hb dX6_of_106 rfl (lv_at hl 0 rfl) ?_
      refine wc_i hC hml (kX5_moves l G Z 0 (by decide) a1.toNatClampNeg (find_lt c_1) (Z 0)) (cwV 0 hts gX6_of_X5_moves rfl rfl rfl (by decide +kernel) ⟨Nat.le_of_ble_eq_true rfl, Nat.le_of_ble_eq_true rfl⟩) hW hS (vBs (by decide) (find_lt c_1)) (ce_bs (by decide) (find_lt c_1)) rfl rfl rfl rfl hl.1 (Nat.le_of_ble_eq_true rfl) dX6_of_107 (fun H locs hW hS => ?_)
      refine lv_topi (fun x_7 ex_7 => ?_)
      refine lv_if_eq (tgt := 117) hx hb dX6_of_110 (by decide) (fun c_8 => ?_) (fun c_8 => ?_)
      · skip
        refine lv_iconst (v := 0) hx hb dX6_of_117 (by decide) ?_
        have hW := wW_eq (Z' := Z) hW (by
          funext i9
          by_cases e0 : i9 = 0
          all_goals first | (simp [wset, e0]; done) | (exfalso; omega) | (subst_vars; simp [wset]; done) | (subst_vars; simp_all [wset]; done))
        have hf : fX6_of Z a1 a2 = 0 := by
          subst ex_7
          exact (if_pos c_1).trans ((if_neg c_2).trans ((if_neg c_3).trans ((if_neg c_4).trans ((if_neg c_5).trans ((if_pos c_6).trans ((if_pos c_8).trans rfl))))))
        exact we_i hC hr hlocks hf.symm rfl hW hS dX6_of_118
      · skip
        refine lv_iconst (v := 1) hx hb dX6_of_113 (by decide) ?_
        refine lv_goto (tgt := 118) hx hb dX6_of_114 (by decide) ?_
        have hW := wW_eq (Z' := Z) hW (by
          funext i9
          by_cases e0 : i9 = 0
          all_goals first | (simp [wset, e0]; done) | (exfalso; omega) | (subst_vars; simp [wset]; done) | (subst_vars; simp_all [wset]; done))
        have hf : fX6_of Z a1 a2 = 1 := by
          subst ex_7
          exact (if_pos c_1).trans ((if_neg c_2).trans ((if_neg c_3).trans ((if_neg c_4).trans ((if_neg c_5).trans ((if_pos c_6).trans ((if_neg c_8).trans rfl))))))
        exact we_i hC hr hlocks hf.symm rfl hW hS dX6_of_118
    by_cases c_9 : a2 = 5
    · refine lv_re c_9 ?_
      refine lv_tableIn (tgt := 119) (off := 103) hx hb dX6_of_16 (by decide) (by decide) (by decide) (by decide) ?_
      refine lv_aload_n hx hb dX6_of_119 rfl (lv_at hl 0 rfl) ?_
      refine wr_get hC hinRX5 hW (vBs (by decide) (find_lt c_1)) (ce_bs (by decide) (find_lt c_1)) rfl 5 (by decide) hk6 rfl dX6_of_120 ?_
      have hW := wW_eq (Z' := Z) hW (by
        funext i9
        by_cases e0 : i9 = 0
        all_goals first | (simp [wset, e0]; done) | (exfalso; omega) | (subst_vars; simp [wset]; done) | (subst_vars; simp_all [wset]; done))
      have hf : fX6_of Z a1 a2 = (Z 0) (3 + a1.toNatClampNeg) 5 := (if_pos c_1).trans ((if_neg c_2).trans ((if_neg c_3).trans ((if_neg c_4).trans ((if_neg c_5).trans ((if_neg c_6).trans ((if_pos c_9).trans rfl))))))
      exact we_i hC hr hlocks hf.symm rfl hW hS dX6_of_123
    by_cases c_10 : a2 = 6
    · refine lv_re c_10 ?_
      refine lv_tableIn (tgt := 124) (off := 108) hx hb dX6_of_16 (by decide) (by decide) (by decide) (by decide) ?_
      refine lv_aload_n hx hb dX6_of_124 rfl (lv_at hl 0 rfl) ?_
      refine wr_get hC hinRX5 hW (vBs (by decide) (find_lt c_1)) (ce_bs (by decide) (find_lt c_1)) rfl 6 (by decide) hk7 rfl dX6_of_125 ?_
      have hW := wW_eq (Z' := Z) hW (by
        funext i9
        by_cases e0 : i9 = 0
        all_goals first | (simp [wset, e0]; done) | (exfalso; omega) | (subst_vars; simp [wset]; done) | (subst_vars; simp_all [wset]; done))
      have hf : fX6_of Z a1 a2 = (Z 0) (3 + a1.toNatClampNeg) 6 := (if_pos c_1).trans ((if_neg c_2).trans ((if_neg c_3).trans ((if_neg c_4).trans ((if_neg c_5).trans ((if_neg c_6).trans ((if_neg c_9).trans ((if_pos c_10).trans rfl)))))))
      exact we_i hC hr hlocks hf.symm rfl hW hS dX6_of_128
    by_cases c_11 : a2 = 7
    · refine lv_re c_11 ?_
      refine lv_tableIn (tgt := 129) (off := 113) hx hb dX6_of_16 (by decide) (by decide) (by decide) (by decide) ?_
      refine lv_aload_n hx hb dX6_of_129 rfl (lv_at hl 0 rfl) ?_
      refine wc_i hC hml (kX5_moves l G Z 0 (by decide) a1.toNatClampNeg (find_lt c_1) (Z 0)) (cwV 0 hts gX6_of_X5_moves rfl rfl rfl (by decide +kernel) ⟨Nat.le_of_ble_eq_true rfl, Nat.le_of_ble_eq_true rfl⟩) hW hS (vBs (by decide) (find_lt c_1)) (ce_bs (by decide) (find_lt c_1)) rfl rfl rfl rfl hl.1 (Nat.le_of_ble_eq_true rfl) dX6_of_130 (fun H locs hW hS => ?_)
      refine lv_topi (fun x_12 ex_12 => ?_)
      refine lv_if_eq (tgt := 151) hx hb dX6_of_133 (by decide) (fun c_13 => ?_) (fun c_13 => ?_)
      · skip
        refine lv_bipush (v := (-6)) hx hb dX6_of_151 (by decide) ?_
        have hW := wW_eq (Z' := Z) hW (by
          funext i9
          by_cases e0 : i9 = 0
          all_goals first | (simp [wset, e0]; done) | (exfalso; omega) | (subst_vars; simp [wset]; done) | (subst_vars; simp_all [wset]; done))
        have hf : fX6_of Z a1 a2 = (-6) := by
          subst ex_12
          exact (if_pos c_1).trans ((if_neg c_2).trans ((if_neg c_3).trans ((if_neg c_4).trans ((if_neg c_5).trans ((if_neg c_6).trans ((if_neg c_9).trans ((if_neg c_10).trans ((if_pos c_11).trans ((if_pos c_13).trans rfl)))))))))
        exact we_i hC hr hlocks hf.symm rfl hW hS dX6_of_153
      · skip
        refine lv_aload_n hx hb dX6_of_136 rfl (lv_at hl 0 rfl) ?_
        refine wr_get hC hinRX5 hW (vBs (by decide) (find_lt c_1)) (ce_bs (by decide) (find_lt c_1)) rfl 7 (by decide) hk8 rfl dX6_of_137 ?_
        refine lv_aload_n hx hb dX6_of_140 rfl (lv_at hl 1 rfl) ?_
        refine wr_get hC hinRX6 hW (vS (by decide)) ((wE_c (Z' := wset Z 11 (Z 11)) (by first | (simp [wset]; done) | (simp only [wset]; split <;> first | (exfalso; omega) | simp))).trans ce_s0) rfl 0 (by decide) hk0 rfl dX6_of_141 ?_
        refine wr_get hC hinRX0 hW (vB (by decide) (by decide)) (ce_b0 (by decide)) rfl 7 (by decide) hk9 rfl dX6_of_144 ?_
        refine lv_isub hx hb dX6_of_147 ?_
        refine lv_goto (tgt := 153) hx hb dX6_of_148 (by decide) ?_
        have hW := wW_eq (Z' := Z) hW (by
          funext i9
          by_cases e0 : i9 = 0
          all_goals first | (simp [wset, e0]; done) | (exfalso; omega) | (subst_vars; simp [wset]; done) | (subst_vars; simp_all [wset]; done))
        have hf : fX6_of Z a1 a2 = ((Z 0) (3 + a1.toNatClampNeg) 7) - ((Z 0) 0 2) := by
          subst ex_12
          exact (if_pos c_1).trans ((if_neg c_2).trans ((if_neg c_3).trans ((if_neg c_4).trans ((if_neg c_5).trans ((if_neg c_6).trans ((if_neg c_9).trans ((if_neg c_10).trans ((if_pos c_11).trans ((if_neg c_13).trans rfl)))))))))
        exact we_i hC hr hlocks hf.symm rfl hW hS dX6_of_153
    by_cases c_14 : a2 = 8
    · refine lv_re c_14 ?_
      refine lv_tableIn (tgt := 154) (off := 138) hx hb dX6_of_16 (by decide) (by decide) (by decide) (by decide) ?_
      refine lv_aload_n hx hb dX6_of_154 rfl (lv_at hl 0 rfl) ?_
      refine wr_get hC hinRX5 hW (vBs (by decide) (find_lt c_1)) (ce_bs (by decide) (find_lt c_1)) rfl 10 (by decide) hk10 rfl dX6_of_155 ?_
      have hW := wW_eq (Z' := Z) hW (by
        funext i9
        by_cases e0 : i9 = 0
        all_goals first | (simp [wset, e0]; done) | (exfalso; omega) | (subst_vars; simp [wset]; done) | (subst_vars; simp_all [wset]; done))
      have hf : fX6_of Z a1 a2 = (Z 0) (3 + a1.toNatClampNeg) 10 := (if_pos c_1).trans ((if_neg c_2).trans ((if_neg c_3).trans ((if_neg c_4).trans ((if_neg c_5).trans ((if_neg c_6).trans ((if_neg c_9).trans ((if_neg c_10).trans ((if_neg c_11).trans ((if_pos c_14).trans rfl)))))))))
      exact we_i hC hr hlocks hf.symm rfl hW hS dX6_of_158
    by_cases c_15 : a2 = 9
    · refine lv_re c_15 ?_
      refine lv_tableIn (tgt := 159) (off := 143) hx hb dX6_of_16 (by decide) (by decide) (by decide) (by decide) ?_
      refine lv_aload_n hx hb dX6_of_159 rfl (lv_at hl 0 rfl) ?_
      refine wr_get hC hinRX5 hW (vBs (by decide) (find_lt c_1)) (ce_bs (by decide) (find_lt c_1)) rfl 8 (by decide) hk11 rfl dX6_of_160 ?_
      have hW := wW_eq (Z' := Z) hW (by
        funext i9
        by_cases e0 : i9 = 0
        all_goals first | (simp [wset, e0]; done) | (exfalso; omega) | (subst_vars; simp [wset]; done) | (subst_vars; simp_all [wset]; done))
      have hf : fX6_of Z a1 a2 = (Z 0) (3 + a1.toNatClampNeg) 8 := (if_pos c_1).trans ((if_neg c_2).trans ((if_neg c_3).trans ((if_neg c_4).trans ((if_neg c_5).trans ((if_neg c_6).trans ((if_neg c_9).trans ((if_neg c_10).trans ((if_neg c_11).trans ((if_neg c_14).trans ((if_pos c_15).trans rfl))))))))))
      exact we_i hC hr hlocks hf.symm rfl hW hS dX6_of_163
    by_cases c_16 : a2 = 10
    · refine lv_re c_16 ?_
      refine lv_tableIn (tgt := 164) (off := 148) hx hb dX6_of_16 (by decide) (by decide) (by decide) (by decide) ?_
      refine lv_aload_n hx hb dX6_of_164 rfl (lv_at hl 0 rfl) ?_
      refine wr_get hC hinRX5 hW (vBs (by decide) (find_lt c_1)) (ce_bs (by decide) (find_lt c_1)) rfl 9 (by decide) hk12 rfl dX6_of_165 ?_
      have hW := wW_eq (Z' := Z) hW (by
        funext i9
        by_cases e0 : i9 = 0
        all_goals first | (simp [wset, e0]; done) | (exfalso; omega) | (subst_vars; simp [wset]; done) | (subst_vars; simp_all [wset]; done))
      have hf : fX6_of Z a1 a2 = (Z 0) (3 + a1.toNatClampNeg) 9 := (if_pos c_1).trans ((if_neg c_2).trans ((if_neg c_3).trans ((if_neg c_4).trans ((if_neg c_5).trans ((if_neg c_6).trans ((if_neg c_9).trans ((if_neg c_10).trans ((if_neg c_11).trans ((if_neg c_14).trans ((if_neg c_15).trans ((if_pos c_16).trans rfl)))))))))))
      exact we_i hC hr hlocks hf.symm rfl hW hS dX6_of_168
    by_cases c_17 : a2 = 11
    · refine lv_re c_17 ?_
      refine lv_tableIn (tgt := 169) (off := 153) hx hb dX6_of_16 (by decide) (by decide) (by decide) (by decide) ?_
      refine lv_aload_n hx hb dX6_of_169 rfl (lv_at hl 0 rfl) ?_
      refine lv_aload_n hx hb dX6_of_170 rfl (lv_at hl 0 rfl) ?_
      refine wr_get hC hinRX5 hW (vBs (by decide) (find_lt c_1)) (ce_bs (by decide) (find_lt c_1)) rfl 5 (by decide) hk6 rfl dX6_of_171 ?_
      refine wc_i hC hml (kX5_saysAfter l G Z 0 (by decide) a1.toNatClampNeg (find_lt c_1) (Z 0) ((Z 0) (3 + a1.toNatClampNeg) 5)) (cwV 1 hts gX6_of_X5_saysAfter rfl rfl rfl (by decide +kernel) ⟨Nat.le_of_ble_eq_true rfl, Nat.le_of_ble_eq_true rfl⟩) hW hS (vBs (by decide) (find_lt c_1)) (ce_bs (by decide) (find_lt c_1)) rfl rfl rfl rfl hl.1 (Nat.le_of_ble_eq_true rfl) dX6_of_174 (fun H locs hW hS => ?_)
      refine lv_topi (fun x_18 ex_18 => ?_)
      refine lv_ldc (v := 1000000) hx hb hC.2.2.1 hk2 dX6_of_177 ?_
      refine lv_iadd hx hb dX6_of_179 ?_
      have hW := wW_eq (Z' := Z) hW (by
        funext i9
        by_cases e0 : i9 = 0
        all_goals first | (simp [wset, e0]; done) | (exfalso; omega) | (subst_vars; simp [wset]; done) | (subst_vars; simp_all [wset]; done))
      have hf : fX6_of Z a1 a2 = x_18 + 1000000 := by
        subst ex_18
        exact (if_pos c_1).trans ((if_neg c_2).trans ((if_neg c_3).trans ((if_neg c_4).trans ((if_neg c_5).trans ((if_neg c_6).trans ((if_neg c_9).trans ((if_neg c_10).trans ((if_neg c_11).trans ((if_neg c_14).trans ((if_neg c_15).trans ((if_neg c_16).trans ((if_pos c_17).trans rfl))))))))))))
      exact we_i hC hr hlocks hf.symm rfl hW hS dX6_of_180
    refine lv_tableOut (tgt := 181) hx hb dX6_of_16 (by
      have hz : ∀ k : Int32, ¬ a2 = k → ¬ a2.toInt = k.toInt := fun k h q => h (Int32.toInt_inj.mp q)
      have c_2z : ¬ a2.toInt = 0 := fun q => hz 0 c_2 (q.trans (by decide))
      have c_3z : ¬ a2.toInt = 1 := fun q => hz 1 c_3 (q.trans (by decide))
      have c_4z : ¬ a2.toInt = 2 := fun q => hz 2 c_4 (q.trans (by decide))
      have c_5z : ¬ a2.toInt = 3 := fun q => hz 3 c_5 (q.trans (by decide))
      have c_6z : ¬ a2.toInt = 4 := fun q => hz 4 c_6 (q.trans (by decide))
      have c_9z : ¬ a2.toInt = 5 := fun q => hz 5 c_9 (q.trans (by decide))
      have c_10z : ¬ a2.toInt = 6 := fun q => hz 6 c_10 (q.trans (by decide))
      have c_11z : ¬ a2.toInt = 7 := fun q => hz 7 c_11 (q.trans (by decide))
      have c_14z : ¬ a2.toInt = 8 := fun q => hz 8 c_14 (q.trans (by decide))
      have c_15z : ¬ a2.toInt = 9 := fun q => hz 9 c_15 (q.trans (by decide))
      have c_16z : ¬ a2.toInt = 10 := fun q => hz 10 c_16 (q.trans (by decide))
      have c_17z : ¬ a2.toInt = 11 := fun q => hz 11 c_17 (q.trans (by decide))
      omega) (by decide) ?_
    refine lv_bipush (v := (-2)) hx hb dX6_of_181 (by decide) ?_
    have hW := wW_eq (Z' := Z) hW (by
      funext i9
      by_cases e0 : i9 = 0
      all_goals first | (simp [wset, e0]; done) | (exfalso; omega) | (subst_vars; simp [wset]; done) | (subst_vars; simp_all [wset]; done))
    have hf : fX6_of Z a1 a2 = (-2) := (if_pos c_1).trans ((if_neg c_2).trans ((if_neg c_3).trans ((if_neg c_4).trans ((if_neg c_5).trans ((if_neg c_6).trans ((if_neg c_9).trans ((if_neg c_10).trans ((if_neg c_11).trans ((if_neg c_14).trans ((if_neg c_15).trans ((if_neg c_16).trans ((if_neg c_17).trans rfl))))))))))))
    exact we_i hC hr hlocks hf.symm rfl hW hS dX6_of_183
  · refine lv_rev (v' := .null) (congrArg va_rf (if_neg c_1)) ?_
    refine lv_astore_nN (lv' := [(3, .null), (0, .ref (G.2.2.1 11 0)), (1, .int a1), (2, .int a2)]) hx hb dX6_of_8 rfl hl (by decide) rfl (fun ls hl => ?_)
    refine lv_aload_nN hx hb dX6_of_9 rfl (lv_at hl 0 rfl) ?_
    refine lv_ifnonnullN hx hb dX6_of_10 ?_
    refine lv_iconst (v := (-1)) hx hb dX6_of_13 (by decide) ?_
    have hW := wW_eq (Z' := Z) hW (by
      funext i9
      by_cases e0 : i9 = 0
      all_goals first | (simp [wset, e0]; done) | (exfalso; omega) | (subst_vars; simp [wset]; done) | (subst_vars; simp_all [wset]; done))
    have hf : fX6_of Z a1 a2 = (-1) := (if_neg c_1).trans rfl
    exact we_i hC hr hlocks hf.symm rfl hW hS dX6_of_14
def fX6_waiting (Z : wZ) (a1 : Int32) (a2 : Int32) : Int32 :=
  if hX0_find (Z 0) a1 then (if a2 < 0 then (-1)
    else if ((Z 0) (3 + a1.toNatClampNeg) 10) ≤ a2 then (-1)
    else if a2 < 3 then ((Z 0) (7 + a1.toNatClampNeg) a2.toNatClampNeg) + 1000000
    else (-1))
  else (-1)
abbrev rX6_waiting : Room := { frames := 1, cells := 0, slots := 0, locals := 21 }
set_option maxHeartbeats 4000000 in
set_option maxRecDepth 100000 in
theorem kX6_waiting (l : Launch) (G : wG) (Z : wZ)  (a1 : Int32) (a2 : Int32)  : mI l yX6_waiting wsX6_waiting rX6_waiting G [.ref (G.2.2.1 11 0), .int a1, .int a2] Z (fX6_waiting Z a1 a2) Z := by
  refine Met.ofW (cc := cX6_waiting) (maxL := 4) (ret := (some .int)) (by decide) rfl ?_
  intro p e s m args below meth c s₁ B0 hml hv
  obtain ⟨rfl, hW, hK, hL⟩ := hv
  have hlocks := B0.notSynchronized
  have hr := B0.returns
  have hC : wX p s m c cX6_waiting _ wsX6_waiting RX6 G := ⟨B0.exec, B0.bytes, findClass_of_methodNamed B0.named, atoms_spec (ws := wsX6_waiting) B0.pre, hK, hL⟩
  have hx := hC.1
  have hb := hC.2.1
  have hts := hC.2.2.2.1
  have hinRX5 : ∀ w ∈ wsX50, w ∈ wsX6_waiting := by decide +kernel
  have hinRX6 : ∀ w ∈ wsX60, w ∈ wsX6_waiting := by decide +kernel
  have hk0 := hts (.fieldLink RX6 10 "RampShafts" "bench" "LRampShafts$Bench;") (by decide +kernel)
  have hk1 := hts (.fieldLink RX6 122 "RampShafts$Shaft" "waitCount" "I") (by decide +kernel)
  have hk2 := hts (.fieldLink RX6 134 "RampShafts$Shaft" "waits" "[I") (by decide +kernel)
  have hk3 := hts (.constant RX6 96 (1000000)) (by decide +kernel)
  have hS : va_S (wA G) s.heap s.heap [] := va_S.rf
  have hl := lv_entry ([.ref (G.2.2.1 11 0), .int a1, .int a2]) (n := 4) (Nat.le_of_ble_eq_true rfl)
  rw [lg_entry_eq]
  generalize (lg_sl ([.ref (G.2.2.1 11 0), .int a1, .int a2]) ++ List.replicate (4 - (lg_sl ([.ref (G.2.2.1 11 0), .int a1, .int a2])).length) Slot.unset).toArray = ls at hl ⊢
  have hl : lv_has ls 4 [(0, .ref (G.2.2.1 11 0)), (1, .int a1), (2, .int a2)] := hl
  refine lv_aload_n hx hb dX6_waiting_0 rfl (lv_at hl 0 rfl) ?_
  refine wr_get hC hinRX6 hW (vS (by decide)) ((wE_c (Z' := wset Z 11 (Z 11)) (by first | (simp [wset]; done) | (simp only [wset]; split <;> first | (exfalso; omega) | simp))).trans ce_s0) rfl 0 (by decide) hk0 rfl dX6_waiting_1 ?_
  refine lv_iload_n hx hb dX6_waiting_4 rfl (lv_at hl 1 rfl) ?_
  have hW := wW_eq (Z' := (wset Z 0 (Z 0))) hW (by
    funext i9
    by_cases e0 : i9 = 0
    all_goals first | (simp [wset, e0]; done) | (exfalso; omega) | (subst_vars; simp [wset]; done) | (subst_vars; simp_all [wset]; done))
  refine wc_q hC hml (kX0_find l G Z 0 (by decide) (Z 0) a1) (cwV 1 hts gX6_waiting_X0_find rfl rfl rfl (by decide +kernel) ⟨Nat.le_of_ble_eq_true rfl, Nat.le_of_ble_eq_true rfl⟩) hW hS (vB (by decide) (by decide)) (ce_b0 (by decide)) rfl rfl rfl rfl hl.1 (Nat.le_of_ble_eq_true rfl) dX6_waiting_5 (fun H locs hW hS => ?_)
  by_cases c_1 : hX0_find (Z 0) a1
  · refine lv_rev (v' := .ref (G.2.2.1 0 (3 + a1.toNatClampNeg))) (congrArg va_rf (if_pos c_1)) ?_
    refine lv_astore_n (lv' := [(3, .ref (G.2.2.1 0 (3 + a1.toNatClampNeg))), (0, .ref (G.2.2.1 11 0)), (1, .int a1), (2, .int a2)]) hx hb dX6_waiting_8 rfl hl (by decide) rfl (fun ls hl => ?_)
    refine lv_aload_n hx hb dX6_waiting_9 rfl (lv_at hl 0 rfl) ?_
    refine lv_ifnull hx hb dX6_waiting_10 ?_
    refine lv_iload_n hx hb dX6_waiting_13 rfl (lv_at hl 3 rfl) ?_
    refine lv_if_lt (tgt := 34) hx hb dX6_waiting_14 (by decide) (fun c_2 => ?_) (fun c_2 => ?_)
    · skip
      refine lv_iconst (v := (-1)) hx hb dX6_waiting_34 (by decide) ?_
      have hW := wW_eq (Z' := Z) hW (by
        funext i9
        by_cases e0 : i9 = 0
        all_goals first | (simp [wset, e0]; done) | (exfalso; omega) | (subst_vars; simp [wset]; done) | (subst_vars; simp_all [wset]; done))
      have hf : fX6_waiting Z a1 a2 = (-1) := (if_pos c_1).trans ((if_pos c_2).trans rfl)
      exact we_i hC hr hlocks hf.symm rfl hW hS dX6_waiting_35
    · skip
      refine lv_iload_n hx hb dX6_waiting_17 rfl (lv_at hl 3 rfl) ?_
      refine lv_aload_n hx hb dX6_waiting_18 rfl (lv_at hl 0 rfl) ?_
      refine wr_get hC hinRX5 hW (vBs (by decide) (find_lt c_1)) (ce_bs (by decide) (find_lt c_1)) rfl 10 (by decide) hk1 rfl dX6_waiting_19 ?_
      refine lv_icmp_ge (tgt := 34) hx hb dX6_waiting_22 (by decide) (fun c_3 => ?_) (fun c_3 => ?_)
      · skip
        refine lv_iconst (v := (-1)) hx hb dX6_waiting_34 (by decide) ?_
        have hW := wW_eq (Z' := Z) hW (by
          funext i9
          by_cases e0 : i9 = 0
          all_goals first | (simp [wset, e0]; done) | (exfalso; omega) | (subst_vars; simp [wset]; done) | (subst_vars; simp_all [wset]; done))
        have hf : fX6_waiting Z a1 a2 = (-1) := (if_pos c_1).trans ((if_neg c_2).trans ((if_pos c_3).trans rfl))
        exact we_i hC hr hlocks hf.symm rfl hW hS dX6_waiting_35
      · skip
        refine lv_iload_n hx hb dX6_waiting_25 rfl (lv_at hl 3 rfl) ?_
        refine lv_aload_n hx hb dX6_waiting_26 rfl (lv_at hl 0 rfl) ?_
        refine wr_get hC hinRX5 hW (vBs (by decide) (find_lt c_1)) (ce_bs (by decide) (find_lt c_1)) rfl 11 (by decide) hk2 rfl dX6_waiting_27 ?_
        refine wr_alen (v := 3) hC hW (vBw (by decide) (find_lt c_1)) (ce_bw (by decide) (find_lt c_1)) (ty := .int) rfl rfl dX6_waiting_30 ?_
        refine lv_icmp_lt (tgt := 36) hx hb dX6_waiting_31 (by decide) (fun c_4 => ?_) (fun c_4 => ?_)
        · skip
          refine lv_aload_n hx hb dX6_waiting_36 rfl (lv_at hl 0 rfl) ?_
          refine wr_get hC hinRX5 hW (vBs (by decide) (find_lt c_1)) (ce_bs (by decide) (find_lt c_1)) rfl 11 (by decide) hk2 rfl dX6_waiting_37 ?_
          refine lv_iload_n hx hb dX6_waiting_40 rfl (lv_at hl 3 rfl) ?_
          have hv_5 : vp_in a2 3 := in_lt (N := 3) (by decide) (by decide) c_2 c_4
          refine wr_ald (kA := 0) hC hW (vBw (by decide) (find_lt c_1)) (ce_bw (by decide) (find_lt c_1)) rfl hv_5 dX6_waiting_41 ?_
          refine lv_ldc (v := 1000000) hx hb hC.2.2.1 hk3 dX6_waiting_42 ?_
          refine lv_iadd hx hb dX6_waiting_44 ?_
          have hW := wW_eq (Z' := Z) hW (by
            funext i9
            by_cases e0 : i9 = 0
            all_goals first | (simp [wset, e0]; done) | (exfalso; omega) | (subst_vars; simp [wset]; done) | (subst_vars; simp_all [wset]; done))
          have hf : fX6_waiting Z a1 a2 = ((Z 0) (7 + a1.toNatClampNeg) a2.toNatClampNeg) + 1000000 := (if_pos c_1).trans ((if_neg c_2).trans ((if_neg c_3).trans ((if_pos c_4).trans rfl)))
          exact we_i hC hr hlocks hf.symm rfl hW hS dX6_waiting_45
        · skip
          refine lv_iconst (v := (-1)) hx hb dX6_waiting_34 (by decide) ?_
          have hW := wW_eq (Z' := Z) hW (by
            funext i9
            by_cases e0 : i9 = 0
            all_goals first | (simp [wset, e0]; done) | (exfalso; omega) | (subst_vars; simp [wset]; done) | (subst_vars; simp_all [wset]; done))
          have hf : fX6_waiting Z a1 a2 = (-1) := (if_pos c_1).trans ((if_neg c_2).trans ((if_neg c_3).trans ((if_neg c_4).trans rfl)))
          exact we_i hC hr hlocks hf.symm rfl hW hS dX6_waiting_35
  · refine lv_rev (v' := .null) (congrArg va_rf (if_neg c_1)) ?_
    refine lv_astore_nN (lv' := [(3, .null), (0, .ref (G.2.2.1 11 0)), (1, .int a1), (2, .int a2)]) hx hb dX6_waiting_8 rfl hl (by decide) rfl (fun ls hl => ?_)
    refine lv_aload_nN hx hb dX6_waiting_9 rfl (lv_at hl 0 rfl) ?_
    refine lv_ifnullN (tgt := 34) hx hb dX6_waiting_10 (by decide) ?_
    refine lv_iconst (v := (-1)) hx hb dX6_waiting_34 (by decide) ?_
    have hW := wW_eq (Z' := Z) hW (by
      funext i9
      by_cases e0 : i9 = 0
      all_goals first | (simp [wset, e0]; done) | (exfalso; omega) | (subst_vars; simp [wset]; done) | (subst_vars; simp_all [wset]; done))
    have hf : fX6_waiting Z a1 a2 = (-1) := (if_neg c_1).trans rfl
    exact we_i hC hr hlocks hf.symm rfl hW hS dX6_waiting_35
def fX6_planned (Z : wZ) (a1 : Int32) (a2 : Int32) : Int32 :=
  if a1 < 0 then (-1)
  else if ((Z 0) 0 1) ≤ a1 then (-1)
  else if a1 < 12 then (if a2 = 0 then (Z 0) 11 a1.toNatClampNeg
    else if a2 = 1 then (Z 0) 12 a1.toNatClampNeg
    else if a2 = 2 then ((Z 0) 13 a1.toNatClampNeg) + 1000000
    else (-2))
  else (-1)
abbrev rX6_planned : Room := { frames := 0, cells := 0, slots := 0, locals := 0 }
set_option maxHeartbeats 4000000 in
set_option maxRecDepth 100000 in
theorem kX6_planned (l : Launch) (G : wG) (Z : wZ)  (a1 : Int32) (a2 : Int32)  : mI l yX6_planned wsX6_planned rX6_planned G [.ref (G.2.2.1 11 0), .int a1, .int a2] Z (fX6_planned Z a1 a2) Z := by
  refine Met.ofW (cc := cX6_planned) (maxL := 3) (ret := (some .int)) (by decide) rfl ?_
  intro p e s m args below meth c s₁ B0 hml hv
  obtain ⟨rfl, hW, hK, hL⟩ := hv
  have hlocks := B0.notSynchronized
  have hr := B0.returns
  have hC : wX p s m c cX6_planned _ wsX6_planned RX6 G := ⟨B0.exec, B0.bytes, findClass_of_methodNamed B0.named, atoms_spec (ws := wsX6_planned) B0.pre, hK, hL⟩
  have hx := hC.1
  have hb := hC.2.1
  have hts := hC.2.2.2.1
  have hinRX0 : ∀ w ∈ wsX00, w ∈ wsX6_planned := by decide +kernel
  have hinRX6 : ∀ w ∈ wsX60, w ∈ wsX6_planned := by decide +kernel
  have hk0 := hts (.fieldLink RX6 10 "RampShafts" "bench" "LRampShafts$Bench;") (by decide +kernel)
  have hk1 := hts (.fieldLink RX6 138 "RampShafts$Bench" "planCount" "I") (by decide +kernel)
  have hk2 := hts (.fieldLink RX6 141 "RampShafts$Bench" "planTimes" "[I") (by decide +kernel)
  have hk3 := hts (.fieldLink RX6 144 "RampShafts$Bench" "planShafts" "[I") (by decide +kernel)
  have hk4 := hts (.fieldLink RX6 147 "RampShafts$Bench" "planPlaces" "[I") (by decide +kernel)
  have hk5 := hts (.constant RX6 96 (1000000)) (by decide +kernel)
  have hS : va_S (wA G) s.heap s.heap [] := va_S.rf
  have hl := lv_entry ([.ref (G.2.2.1 11 0), .int a1, .int a2]) (n := 3) (Nat.le_of_ble_eq_true rfl)
  rw [lg_entry_eq]
  generalize (lg_sl ([.ref (G.2.2.1 11 0), .int a1, .int a2]) ++ List.replicate (3 - (lg_sl ([.ref (G.2.2.1 11 0), .int a1, .int a2])).length) Slot.unset).toArray = ls at hl ⊢
  have hl : lv_has ls 3 [(0, .ref (G.2.2.1 11 0)), (1, .int a1), (2, .int a2)] := hl
  refine lv_iload_n hx hb dX6_planned_0 rfl (lv_at hl 1 rfl) ?_
  refine lv_if_lt (tgt := 21) hx hb dX6_planned_1 (by decide) (fun c_1 => ?_) (fun c_1 => ?_)
  · skip
    refine lv_iconst (v := (-1)) hx hb dX6_planned_21 (by decide) ?_
    have hf : fX6_planned Z a1 a2 = (-1) := (if_pos c_1).trans rfl
    exact we_i hC hr hlocks hf.symm rfl hW hS dX6_planned_22
  · skip
    refine lv_iload_n hx hb dX6_planned_4 rfl (lv_at hl 1 rfl) ?_
    refine lv_aload_n hx hb dX6_planned_5 rfl (lv_at hl 0 rfl) ?_
    refine wr_get hC hinRX6 hW (vS (by decide)) ((wE_c (Z' := wset Z 11 (Z 11)) (by first | (simp [wset]; done) | (simp only [wset]; split <;> first | (exfalso; omega) | simp))).trans ce_s0) rfl 0 (by decide) hk0 rfl dX6_planned_6 ?_
    refine wr_get hC hinRX0 hW (vB (by decide) (by decide)) ((wE_c (Z' := wset Z 0 (Z 0)) (by first | (simp [wset]; done) | (simp only [wset]; split <;> first | (exfalso; omega) | simp))).trans (ce_b0 (by decide))) rfl 6 (by decide) hk1 rfl dX6_planned_9 ?_
    refine lv_icmp_ge (tgt := 21) hx hb dX6_planned_12 (by decide) (fun c_2 => ?_) (fun c_2 => ?_)
    · skip
      refine lv_iconst (v := (-1)) hx hb dX6_planned_21 (by decide) ?_
      have hf : fX6_planned Z a1 a2 = (-1) := (if_neg c_1).trans ((if_pos c_2).trans rfl)
      exact we_i hC hr hlocks hf.symm rfl hW hS dX6_planned_22
    · skip
      refine lv_iload_n hx hb dX6_planned_15 rfl (lv_at hl 1 rfl) ?_
      refine lv_bipush (v := 12) hx hb dX6_planned_16 (by decide) ?_
      refine lv_icmp_lt (tgt := 23) hx hb dX6_planned_18 (by decide) (fun c_3 => ?_) (fun c_3 => ?_)
      · skip
        refine lv_iload_n hx hb dX6_planned_23 rfl (lv_at hl 2 rfl) ?_
        by_cases c_4 : a2 = 0
        · refine lv_re c_4 ?_
          refine lv_tableIn (tgt := 52) (off := 28) hx hb dX6_planned_24 (by decide) (by decide) (by decide) (by decide) ?_
          refine lv_aload_n hx hb dX6_planned_52 rfl (lv_at hl 0 rfl) ?_
          refine wr_get hC hinRX6 hW (vS (by decide)) ((wE_c (Z' := wset Z 11 (Z 11)) (by first | (simp [wset]; done) | (simp only [wset]; split <;> first | (exfalso; omega) | simp))).trans ce_s0) rfl 0 (by decide) hk0 rfl dX6_planned_53 ?_
          refine wr_get hC hinRX0 hW (vB (by decide) (by decide)) ((wE_c (Z' := wset Z 0 (Z 0)) (by first | (simp [wset]; done) | (simp only [wset]; split <;> first | (exfalso; omega) | simp))).trans (ce_b0 (by decide))) rfl 2 (by decide) hk2 rfl dX6_planned_56 ?_
          refine lv_iload_n hx hb dX6_planned_59 rfl (lv_at hl 1 rfl) ?_
          have hv_5 : vp_in a1 12 := in_lt (N := 12) (by decide) (by decide) c_1 c_3
          refine wr_ald (kA := 0) hC hW (vB (by decide) (by decide)) ((wE_c (Z' := wset Z 0 (Z 0)) (by first | (simp [wset]; done) | (simp only [wset]; split <;> first | (exfalso; omega) | simp))).trans (ce_bp (by decide) (by decide))) rfl hv_5 dX6_planned_60 ?_
          have hf : fX6_planned Z a1 a2 = (Z 0) 11 a1.toNatClampNeg := (if_neg c_1).trans ((if_neg c_2).trans ((if_pos c_3).trans ((if_pos c_4).trans rfl)))
          exact we_i hC hr hlocks hf.symm rfl hW hS dX6_planned_61
        by_cases c_6 : a2 = 1
        · refine lv_re c_6 ?_
          refine lv_tableIn (tgt := 62) (off := 38) hx hb dX6_planned_24 (by decide) (by decide) (by decide) (by decide) ?_
          refine lv_aload_n hx hb dX6_planned_62 rfl (lv_at hl 0 rfl) ?_
          refine wr_get hC hinRX6 hW (vS (by decide)) ((wE_c (Z' := wset Z 11 (Z 11)) (by first | (simp [wset]; done) | (simp only [wset]; split <;> first | (exfalso; omega) | simp))).trans ce_s0) rfl 0 (by decide) hk0 rfl dX6_planned_63 ?_
          refine wr_get hC hinRX0 hW (vB (by decide) (by decide)) ((wE_c (Z' := wset Z 0 (Z 0)) (by first | (simp [wset]; done) | (simp only [wset]; split <;> first | (exfalso; omega) | simp))).trans (ce_b0 (by decide))) rfl 3 (by decide) hk3 rfl dX6_planned_66 ?_
          refine lv_iload_n hx hb dX6_planned_69 rfl (lv_at hl 1 rfl) ?_
          have hv_7 : vp_in a1 12 := in_lt (N := 12) (by decide) (by decide) c_1 c_3
          refine wr_ald (kA := 0) hC hW (vB (by decide) (by decide)) ((wE_c (Z' := wset Z 0 (Z 0)) (by first | (simp [wset]; done) | (simp only [wset]; split <;> first | (exfalso; omega) | simp))).trans (ce_bp (by decide) (by decide))) rfl hv_7 dX6_planned_70 ?_
          have hf : fX6_planned Z a1 a2 = (Z 0) 12 a1.toNatClampNeg := (if_neg c_1).trans ((if_neg c_2).trans ((if_pos c_3).trans ((if_neg c_4).trans ((if_pos c_6).trans rfl))))
          exact we_i hC hr hlocks hf.symm rfl hW hS dX6_planned_71
        by_cases c_8 : a2 = 2
        · refine lv_re c_8 ?_
          refine lv_tableIn (tgt := 72) (off := 48) hx hb dX6_planned_24 (by decide) (by decide) (by decide) (by decide) ?_
          refine lv_aload_n hx hb dX6_planned_72 rfl (lv_at hl 0 rfl) ?_
          refine wr_get hC hinRX6 hW (vS (by decide)) ((wE_c (Z' := wset Z 11 (Z 11)) (by first | (simp [wset]; done) | (simp only [wset]; split <;> first | (exfalso; omega) | simp))).trans ce_s0) rfl 0 (by decide) hk0 rfl dX6_planned_73 ?_
          refine wr_get hC hinRX0 hW (vB (by decide) (by decide)) ((wE_c (Z' := wset Z 0 (Z 0)) (by first | (simp [wset]; done) | (simp only [wset]; split <;> first | (exfalso; omega) | simp))).trans (ce_b0 (by decide))) rfl 4 (by decide) hk4 rfl dX6_planned_76 ?_
          refine lv_iload_n hx hb dX6_planned_79 rfl (lv_at hl 1 rfl) ?_
          have hv_9 : vp_in a1 12 := in_lt (N := 12) (by decide) (by decide) c_1 c_3
          refine wr_ald (kA := 0) hC hW (vB (by decide) (by decide)) ((wE_c (Z' := wset Z 0 (Z 0)) (by first | (simp [wset]; done) | (simp only [wset]; split <;> first | (exfalso; omega) | simp))).trans (ce_bp (by decide) (by decide))) rfl hv_9 dX6_planned_80 ?_
          refine lv_ldc (v := 1000000) hx hb hC.2.2.1 hk5 dX6_planned_81 ?_
          refine lv_iadd hx hb dX6_planned_83 ?_
          have hf : fX6_planned Z a1 a2 = ((Z 0) 13 a1.toNatClampNeg) + 1000000 := (if_neg c_1).trans ((if_neg c_2).trans ((if_pos c_3).trans ((if_neg c_4).trans ((if_neg c_6).trans ((if_pos c_8).trans rfl)))))
          exact we_i hC hr hlocks hf.symm rfl hW hS dX6_planned_84
        refine lv_tableOut (tgt := 85) hx hb dX6_planned_24 (by
          have hz : ∀ k : Int32, ¬ a2 = k → ¬ a2.toInt = k.toInt := fun k h q => h (Int32.toInt_inj.mp q)
          have c_4z : ¬ a2.toInt = 0 := fun q => hz 0 c_4 (q.trans (by decide))
          have c_6z : ¬ a2.toInt = 1 := fun q => hz 1 c_6 (q.trans (by decide))
          have c_8z : ¬ a2.toInt = 2 := fun q => hz 2 c_8 (q.trans (by decide))
          omega) (by decide) ?_
        refine lv_bipush (v := (-2)) hx hb dX6_planned_85 (by decide) ?_
        have hf : fX6_planned Z a1 a2 = (-2) := (if_neg c_1).trans ((if_neg c_2).trans ((if_pos c_3).trans ((if_neg c_4).trans ((if_neg c_6).trans ((if_neg c_8).trans rfl)))))
        exact we_i hC hr hlocks hf.symm rfl hW hS dX6_planned_87
      · skip
        refine lv_iconst (v := (-1)) hx hb dX6_planned_21 (by decide) ?_
        have hf : fX6_planned Z a1 a2 = (-1) := (if_neg c_1).trans ((if_neg c_2).trans ((if_neg c_3).trans rfl))
        exact we_i hC hr hlocks hf.symm rfl hW hS dX6_planned_22
def fX6_count (Z : wZ) (a1 : Int32) : Int32 :=
  if a1 = 0 then (Z 0) 0 2
  else if a1 = 1 then (Z 0) 0 0
  else if a1 = 2 then (let x_4 := fX0_movingSet (Z 0)
    x_4)
  else if a1 = 3 then (let x_6 := fX0_displacedSet (Z 0)
    x_6)
  else if a1 = 4 then (Z 0) 0 1
  else if a1 = 5 then (let x_9 := fX0_stepsSoFar (Z 0)
    x_9)
  else if a1 = 6 then (let x_11 := fX0_lostSoFar (Z 0)
    x_11)
  else if a1 = 7 then (let x_13 := fX3_highestLevel (Z 0)
    x_13)
  else if a1 = 8 then (let x_15 := fX3_valueOf (Z 0) (a1 - 8)
    x_15)
  else if a1 = 9 then (let x_17 := fX3_valueOf (Z 0) (a1 - 8)
    x_17)
  else if a1 = 10 then (let x_19 := fX3_valueOf (Z 0) (a1 - 8)
    x_19)
  else if a1 = 11 then (let x_21 := fX3_valueOf (Z 0) (a1 - 8)
    x_21)
  else if a1 = 12 then (let x_23 := fX3_valueOf (Z 0) (a1 - 8)
    x_23)
  else if a1 = 13 then (Z 11) 6 0
  else if a1 = 14 then (Z 11) 1 1
  else (-2)
abbrev rX6_count : Room := { frames := 2, cells := 0, slots := 0, locals := 42 }
set_option maxHeartbeats 4000000 in
set_option maxRecDepth 100000 in
theorem kX6_count (l : Launch) (G : wG) (Z : wZ)  (a1 : Int32)  : mI l yX6_count wsX6_count rX6_count G [.ref (G.2.2.1 11 0), .int a1] Z (fX6_count Z a1) Z := by
  refine Met.ofW (cc := cX6_count) (maxL := 2) (ret := (some .int)) (by decide) rfl ?_
  intro p e s m args below meth c s₁ B0 hml hv
  obtain ⟨rfl, hW, hK, hL⟩ := hv
  have hlocks := B0.notSynchronized
  have hr := B0.returns
  have hC : wX p s m c cX6_count _ wsX6_count RX6 G := ⟨B0.exec, B0.bytes, findClass_of_methodNamed B0.named, atoms_spec (ws := wsX6_count) B0.pre, hK, hL⟩
  have hx := hC.1
  have hb := hC.2.1
  have hts := hC.2.2.2.1
  have hinRX0 : ∀ w ∈ wsX00, w ∈ wsX6_count := by decide +kernel
  have hinRX1 : ∀ w ∈ wsX10, w ∈ wsX6_count := by decide +kernel
  have hinRX2 : ∀ w ∈ wsX20, w ∈ wsX6_count := by decide +kernel
  have hinRX6 : ∀ w ∈ wsX60, w ∈ wsX6_count := by decide +kernel
  have hk0 := hts (.fieldLink RX6 10 "RampShafts" "bench" "LRampShafts$Bench;") (by decide +kernel)
  have hk1 := hts (.fieldLink RX6 119 "RampShafts$Bench" "time" "I") (by decide +kernel)
  have hk2 := hts (.fieldLink RX6 150 "RampShafts$Bench" "shaftCount" "I") (by decide +kernel)
  have hk3 := hts (.fieldLink RX6 138 "RampShafts$Bench" "planCount" "I") (by decide +kernel)
  have hk4 := hts (.fieldLink RX6 50 "RampShafts$Bench" "ramp" "LRampShafts$Ramp;") (by decide +kernel)
  have hk5 := hts (.fieldLink RX6 45 "RampShafts" "pad" "LRampShafts$Pad;") (by decide +kernel)
  have hk6 := hts (.fieldLink RX6 172 "RampShafts$Pad" "length" "I") (by decide +kernel)
  have hk7 := hts (.fieldLink RX6 22 "RampShafts" "history" "LRampShafts$History;") (by decide +kernel)
  have hk8 := hts (.fieldLink RX6 177 "RampShafts$History" "kept" "I") (by decide +kernel)
  have hS : va_S (wA G) s.heap s.heap [] := va_S.rf
  have hl := lv_entry ([.ref (G.2.2.1 11 0), .int a1]) (n := 2) (Nat.le_of_ble_eq_true rfl)
  rw [lg_entry_eq]
  generalize (lg_sl ([.ref (G.2.2.1 11 0), .int a1]) ++ List.replicate (2 - (lg_sl ([.ref (G.2.2.1 11 0), .int a1])).length) Slot.unset).toArray = ls at hl ⊢
  have hl : lv_has ls 2 [(0, .ref (G.2.2.1 11 0)), (1, .int a1)] := hl
  refine lv_iload_n hx hb dX6_count_0 rfl (lv_at hl 1 rfl) ?_
  by_cases c_1 : a1 = 0
  · refine lv_re c_1 ?_
    refine lv_tableIn (tgt := 76) (off := 75) hx hb dX6_count_1 (by decide) (by decide) (by decide) (by decide) ?_
    refine lv_aload_n hx hb dX6_count_76 rfl (lv_at hl 0 rfl) ?_
    refine wr_get hC hinRX6 hW (vS (by decide)) ((wE_c (Z' := wset Z 11 (Z 11)) (by first | (simp [wset]; done) | (simp only [wset]; split <;> first | (exfalso; omega) | simp))).trans ce_s0) rfl 0 (by decide) hk0 rfl dX6_count_77 ?_
    refine wr_get hC hinRX0 hW (vB (by decide) (by decide)) ((wE_c (Z' := wset Z 0 (Z 0)) (by first | (simp [wset]; done) | (simp only [wset]; split <;> first | (exfalso; omega) | simp))).trans (ce_b0 (by decide))) rfl 7 (by decide) hk1 rfl dX6_count_80 ?_
    have hf : fX6_count Z a1 = (Z 0) 0 2 := (if_pos c_1).trans rfl
    exact we_i hC hr hlocks hf.symm rfl hW hS dX6_count_83
  by_cases c_2 : a1 = 1
  · refine lv_re c_2 ?_
    refine lv_tableIn (tgt := 84) (off := 83) hx hb dX6_count_1 (by decide) (by decide) (by decide) (by decide) ?_
    refine lv_aload_n hx hb dX6_count_84 rfl (lv_at hl 0 rfl) ?_
    refine wr_get hC hinRX6 hW (vS (by decide)) ((wE_c (Z' := wset Z 11 (Z 11)) (by first | (simp [wset]; done) | (simp only [wset]; split <;> first | (exfalso; omega) | simp))).trans ce_s0) rfl 0 (by decide) hk0 rfl dX6_count_85 ?_
    refine wr_get hC hinRX0 hW (vB (by decide) (by decide)) ((wE_c (Z' := wset Z 0 (Z 0)) (by first | (simp [wset]; done) | (simp only [wset]; split <;> first | (exfalso; omega) | simp))).trans (ce_b0 (by decide))) rfl 5 (by decide) hk2 rfl dX6_count_88 ?_
    have hf : fX6_count Z a1 = (Z 0) 0 0 := (if_neg c_1).trans ((if_pos c_2).trans rfl)
    exact we_i hC hr hlocks hf.symm rfl hW hS dX6_count_91
  by_cases c_3 : a1 = 2
  · refine lv_re c_3 ?_
    refine lv_tableIn (tgt := 92) (off := 91) hx hb dX6_count_1 (by decide) (by decide) (by decide) (by decide) ?_
    refine lv_aload_n hx hb dX6_count_92 rfl (lv_at hl 0 rfl) ?_
    refine wr_get hC hinRX6 hW (vS (by decide)) ((wE_c (Z' := wset Z 11 (Z 11)) (by first | (simp [wset]; done) | (simp only [wset]; split <;> first | (exfalso; omega) | simp))).trans ce_s0) rfl 0 (by decide) hk0 rfl dX6_count_93 ?_
    have hW := wW_eq (Z' := (wset Z 0 (Z 0))) hW (by
      funext i9
      by_cases e0 : i9 = 0
      all_goals first | (simp [wset, e0]; done) | (exfalso; omega) | (subst_vars; simp [wset]; done) | (subst_vars; simp_all [wset]; done))
    refine wc_i hC hml (kX0_movingSet l G Z 0 (by decide) (Z 0)) (cwV 0 hts gX6_count_X0_movingSet rfl rfl rfl (by decide +kernel) ⟨Nat.le_of_ble_eq_true rfl, Nat.le_of_ble_eq_true rfl⟩) hW hS (vB (by decide) (by decide)) (ce_b0 (by decide)) rfl rfl rfl rfl hl.1 (Nat.le_of_ble_eq_true rfl) dX6_count_96 (fun H locs hW hS => ?_)
    refine lv_topi (fun x_4 ex_4 => ?_)
    have hW := wW_eq (Z' := Z) hW (by
      funext i9
      by_cases e0 : i9 = 0
      all_goals first | (simp [wset, e0]; done) | (exfalso; omega) | (subst_vars; simp [wset]; done) | (subst_vars; simp_all [wset]; done))
    have hf : fX6_count Z a1 = x_4 := by
      subst ex_4
      exact (if_neg c_1).trans ((if_neg c_2).trans ((if_pos c_3).trans rfl))
    exact we_i hC hr hlocks hf.symm rfl hW hS dX6_count_99
  by_cases c_5 : a1 = 3
  · refine lv_re c_5 ?_
    refine lv_tableIn (tgt := 100) (off := 99) hx hb dX6_count_1 (by decide) (by decide) (by decide) (by decide) ?_
    refine lv_aload_n hx hb dX6_count_100 rfl (lv_at hl 0 rfl) ?_
    refine wr_get hC hinRX6 hW (vS (by decide)) ((wE_c (Z' := wset Z 11 (Z 11)) (by first | (simp [wset]; done) | (simp only [wset]; split <;> first | (exfalso; omega) | simp))).trans ce_s0) rfl 0 (by decide) hk0 rfl dX6_count_101 ?_
    have hW := wW_eq (Z' := (wset Z 0 (Z 0))) hW (by
      funext i9
      by_cases e0 : i9 = 0
      all_goals first | (simp [wset, e0]; done) | (exfalso; omega) | (subst_vars; simp [wset]; done) | (subst_vars; simp_all [wset]; done))
    refine wc_i hC hml (kX0_displacedSet l G Z 0 (by decide) (Z 0)) (cwV 0 hts gX6_count_X0_displacedSet rfl rfl rfl (by decide +kernel) ⟨Nat.le_of_ble_eq_true rfl, Nat.le_of_ble_eq_true rfl⟩) hW hS (vB (by decide) (by decide)) (ce_b0 (by decide)) rfl rfl rfl rfl hl.1 (Nat.le_of_ble_eq_true rfl) dX6_count_104 (fun H locs hW hS => ?_)
    refine lv_topi (fun x_6 ex_6 => ?_)
    have hW := wW_eq (Z' := Z) hW (by
      funext i9
      by_cases e0 : i9 = 0
      all_goals first | (simp [wset, e0]; done) | (exfalso; omega) | (subst_vars; simp [wset]; done) | (subst_vars; simp_all [wset]; done))
    have hf : fX6_count Z a1 = x_6 := by
      subst ex_6
      exact (if_neg c_1).trans ((if_neg c_2).trans ((if_neg c_3).trans ((if_pos c_5).trans rfl)))
    exact we_i hC hr hlocks hf.symm rfl hW hS dX6_count_107
  by_cases c_7 : a1 = 4
  · refine lv_re c_7 ?_
    refine lv_tableIn (tgt := 108) (off := 107) hx hb dX6_count_1 (by decide) (by decide) (by decide) (by decide) ?_
    refine lv_aload_n hx hb dX6_count_108 rfl (lv_at hl 0 rfl) ?_
    refine wr_get hC hinRX6 hW (vS (by decide)) ((wE_c (Z' := wset Z 11 (Z 11)) (by first | (simp [wset]; done) | (simp only [wset]; split <;> first | (exfalso; omega) | simp))).trans ce_s0) rfl 0 (by decide) hk0 rfl dX6_count_109 ?_
    refine wr_get hC hinRX0 hW (vB (by decide) (by decide)) ((wE_c (Z' := wset Z 0 (Z 0)) (by first | (simp [wset]; done) | (simp only [wset]; split <;> first | (exfalso; omega) | simp))).trans (ce_b0 (by decide))) rfl 6 (by decide) hk3 rfl dX6_count_112 ?_
    have hf : fX6_count Z a1 = (Z 0) 0 1 := (if_neg c_1).trans ((if_neg c_2).trans ((if_neg c_3).trans ((if_neg c_5).trans ((if_pos c_7).trans rfl))))
    exact we_i hC hr hlocks hf.symm rfl hW hS dX6_count_115
  by_cases c_8 : a1 = 5
  · refine lv_re c_8 ?_
    refine lv_tableIn (tgt := 116) (off := 115) hx hb dX6_count_1 (by decide) (by decide) (by decide) (by decide) ?_
    refine lv_aload_n hx hb dX6_count_116 rfl (lv_at hl 0 rfl) ?_
    refine wr_get hC hinRX6 hW (vS (by decide)) ((wE_c (Z' := wset Z 11 (Z 11)) (by first | (simp [wset]; done) | (simp only [wset]; split <;> first | (exfalso; omega) | simp))).trans ce_s0) rfl 0 (by decide) hk0 rfl dX6_count_117 ?_
    have hW := wW_eq (Z' := (wset Z 0 (Z 0))) hW (by
      funext i9
      by_cases e0 : i9 = 0
      all_goals first | (simp [wset, e0]; done) | (exfalso; omega) | (subst_vars; simp [wset]; done) | (subst_vars; simp_all [wset]; done))
    refine wc_i hC hml (kX0_stepsSoFar l G Z 0 (by decide) (Z 0)) (cwV 0 hts gX6_count_X0_stepsSoFar rfl rfl rfl (by decide +kernel) ⟨Nat.le_of_ble_eq_true rfl, Nat.le_of_ble_eq_true rfl⟩) hW hS (vB (by decide) (by decide)) (ce_b0 (by decide)) rfl rfl rfl rfl hl.1 (Nat.le_of_ble_eq_true rfl) dX6_count_120 (fun H locs hW hS => ?_)
    refine lv_topi (fun x_9 ex_9 => ?_)
    have hW := wW_eq (Z' := Z) hW (by
      funext i9
      by_cases e0 : i9 = 0
      all_goals first | (simp [wset, e0]; done) | (exfalso; omega) | (subst_vars; simp [wset]; done) | (subst_vars; simp_all [wset]; done))
    have hf : fX6_count Z a1 = x_9 := by
      subst ex_9
      exact (if_neg c_1).trans ((if_neg c_2).trans ((if_neg c_3).trans ((if_neg c_5).trans ((if_neg c_7).trans ((if_pos c_8).trans rfl)))))
    exact we_i hC hr hlocks hf.symm rfl hW hS dX6_count_123
  by_cases c_10 : a1 = 6
  · refine lv_re c_10 ?_
    refine lv_tableIn (tgt := 124) (off := 123) hx hb dX6_count_1 (by decide) (by decide) (by decide) (by decide) ?_
    refine lv_aload_n hx hb dX6_count_124 rfl (lv_at hl 0 rfl) ?_
    refine wr_get hC hinRX6 hW (vS (by decide)) ((wE_c (Z' := wset Z 11 (Z 11)) (by first | (simp [wset]; done) | (simp only [wset]; split <;> first | (exfalso; omega) | simp))).trans ce_s0) rfl 0 (by decide) hk0 rfl dX6_count_125 ?_
    have hW := wW_eq (Z' := (wset Z 0 (Z 0))) hW (by
      funext i9
      by_cases e0 : i9 = 0
      all_goals first | (simp [wset, e0]; done) | (exfalso; omega) | (subst_vars; simp [wset]; done) | (subst_vars; simp_all [wset]; done))
    refine wc_i hC hml (kX0_lostSoFar l G Z 0 (by decide) (Z 0)) (cwV 0 hts gX6_count_X0_lostSoFar rfl rfl rfl (by decide +kernel) ⟨Nat.le_of_ble_eq_true rfl, Nat.le_of_ble_eq_true rfl⟩) hW hS (vB (by decide) (by decide)) (ce_b0 (by decide)) rfl rfl rfl rfl hl.1 (Nat.le_of_ble_eq_true rfl) dX6_count_128 (fun H locs hW hS => ?_)
    refine lv_topi (fun x_11 ex_11 => ?_)
    have hW := wW_eq (Z' := Z) hW (by
      funext i9
      by_cases e0 : i9 = 0
      all_goals first | (simp [wset, e0]; done) | (exfalso; omega) | (subst_vars; simp [wset]; done) | (subst_vars; simp_all [wset]; done))
    have hf : fX6_count Z a1 = x_11 := by
      subst ex_11
      exact (if_neg c_1).trans ((if_neg c_2).trans ((if_neg c_3).trans ((if_neg c_5).trans ((if_neg c_7).trans ((if_neg c_8).trans ((if_pos c_10).trans rfl))))))
    exact we_i hC hr hlocks hf.symm rfl hW hS dX6_count_131
  by_cases c_12 : a1 = 7
  · refine lv_re c_12 ?_
    refine lv_tableIn (tgt := 132) (off := 131) hx hb dX6_count_1 (by decide) (by decide) (by decide) (by decide) ?_
    refine lv_aload_n hx hb dX6_count_132 rfl (lv_at hl 0 rfl) ?_
    refine wr_get hC hinRX6 hW (vS (by decide)) ((wE_c (Z' := wset Z 11 (Z 11)) (by first | (simp [wset]; done) | (simp only [wset]; split <;> first | (exfalso; omega) | simp))).trans ce_s0) rfl 0 (by decide) hk0 rfl dX6_count_133 ?_
    refine wr_get hC hinRX0 hW (vB (by decide) (by decide)) ((wE_c (Z' := wset Z 0 (Z 0)) (by first | (simp [wset]; done) | (simp only [wset]; split <;> first | (exfalso; omega) | simp))).trans (ce_b0 (by decide))) rfl 0 (by decide) hk4 rfl dX6_count_136 ?_
    have hW := wW_eq (Z' := (wset Z 0 (Z 0))) hW (by
      funext i9
      by_cases e0 : i9 = 0
      all_goals first | (simp [wset, e0]; done) | (exfalso; omega) | (subst_vars; simp [wset]; done) | (subst_vars; simp_all [wset]; done))
    refine wc_i hC hml (kX3_highestLevel l G Z 0 (by decide) (Z 0)) (cwV 0 hts gX6_count_X3_highestLevel rfl rfl rfl (by decide +kernel) ⟨Nat.le_of_ble_eq_true rfl, Nat.le_of_ble_eq_true rfl⟩) hW hS (vB (by decide) (by decide)) (ce_b1 (by decide)) rfl rfl rfl rfl hl.1 (Nat.le_of_ble_eq_true rfl) dX6_count_139 (fun H locs hW hS => ?_)
    refine lv_topi (fun x_13 ex_13 => ?_)
    have hW := wW_eq (Z' := Z) hW (by
      funext i9
      by_cases e0 : i9 = 0
      all_goals first | (simp [wset, e0]; done) | (exfalso; omega) | (subst_vars; simp [wset]; done) | (subst_vars; simp_all [wset]; done))
    have hf : fX6_count Z a1 = x_13 := by
      subst ex_13
      exact (if_neg c_1).trans ((if_neg c_2).trans ((if_neg c_3).trans ((if_neg c_5).trans ((if_neg c_7).trans ((if_neg c_8).trans ((if_neg c_10).trans ((if_pos c_12).trans rfl)))))))
    exact we_i hC hr hlocks hf.symm rfl hW hS dX6_count_142
  by_cases c_14 : a1 = 8
  · refine lv_re c_14 ?_
    refine lv_tableIn (tgt := 143) (off := 142) hx hb dX6_count_1 (by decide) (by decide) (by decide) (by decide) ?_
    refine lv_aload_n hx hb dX6_count_143 rfl (lv_at hl 0 rfl) ?_
    refine wr_get hC hinRX6 hW (vS (by decide)) ((wE_c (Z' := wset Z 11 (Z 11)) (by first | (simp [wset]; done) | (simp only [wset]; split <;> first | (exfalso; omega) | simp))).trans ce_s0) rfl 0 (by decide) hk0 rfl dX6_count_144 ?_
    refine wr_get hC hinRX0 hW (vB (by decide) (by decide)) ((wE_c (Z' := wset Z 0 (Z 0)) (by first | (simp [wset]; done) | (simp only [wset]; split <;> first | (exfalso; omega) | simp))).trans (ce_b0 (by decide))) rfl 0 (by decide) hk4 rfl dX6_count_147 ?_
    refine lv_iload_n hx hb dX6_count_150 rfl (lv_at hl 1 rfl) ?_
    refine lv_bipush (v := 8) hx hb dX6_count_151 (by decide) ?_
    refine lv_isub hx hb dX6_count_153 ?_
    have hW := wW_eq (Z' := (wset Z 0 (Z 0))) hW (by
      funext i9
      by_cases e0 : i9 = 0
      all_goals first | (simp [wset, e0]; done) | (exfalso; omega) | (subst_vars; simp [wset]; done) | (subst_vars; simp_all [wset]; done))
    refine wc_i hC hml (kX3_valueOf l G Z 0 (by decide) (Z 0) (a1 - 8)) (cwV 1 hts gX6_count_X3_valueOf rfl rfl rfl (by decide +kernel) ⟨Nat.le_of_ble_eq_true rfl, Nat.le_of_ble_eq_true rfl⟩) hW hS (vB (by decide) (by decide)) (ce_b1 (by decide)) rfl rfl rfl rfl hl.1 (Nat.le_of_ble_eq_true rfl) dX6_count_154 (fun H locs hW hS => ?_)
    refine lv_topi (fun x_15 ex_15 => ?_)
    have hW := wW_eq (Z' := Z) hW (by
      funext i9
      by_cases e0 : i9 = 0
      all_goals first | (simp [wset, e0]; done) | (exfalso; omega) | (subst_vars; simp [wset]; done) | (subst_vars; simp_all [wset]; done))
    have hf : fX6_count Z a1 = x_15 := by
      subst ex_15
      exact (if_neg c_1).trans ((if_neg c_2).trans ((if_neg c_3).trans ((if_neg c_5).trans ((if_neg c_7).trans ((if_neg c_8).trans ((if_neg c_10).trans ((if_neg c_12).trans ((if_pos c_14).trans rfl))))))))
    exact we_i hC hr hlocks hf.symm rfl hW hS dX6_count_157
  by_cases c_16 : a1 = 9
  · refine lv_re c_16 ?_
    refine lv_tableIn (tgt := 143) (off := 142) hx hb dX6_count_1 (by decide) (by decide) (by decide) (by decide) ?_
    refine lv_aload_n hx hb dX6_count_143 rfl (lv_at hl 0 rfl) ?_
    refine wr_get hC hinRX6 hW (vS (by decide)) ((wE_c (Z' := wset Z 11 (Z 11)) (by first | (simp [wset]; done) | (simp only [wset]; split <;> first | (exfalso; omega) | simp))).trans ce_s0) rfl 0 (by decide) hk0 rfl dX6_count_144 ?_
    refine wr_get hC hinRX0 hW (vB (by decide) (by decide)) ((wE_c (Z' := wset Z 0 (Z 0)) (by first | (simp [wset]; done) | (simp only [wset]; split <;> first | (exfalso; omega) | simp))).trans (ce_b0 (by decide))) rfl 0 (by decide) hk4 rfl dX6_count_147 ?_
    refine lv_iload_n hx hb dX6_count_150 rfl (lv_at hl 1 rfl) ?_
    refine lv_bipush (v := 8) hx hb dX6_count_151 (by decide) ?_
    refine lv_isub hx hb dX6_count_153 ?_
    have hW := wW_eq (Z' := (wset Z 0 (Z 0))) hW (by
      funext i9
      by_cases e0 : i9 = 0
      all_goals first | (simp [wset, e0]; done) | (exfalso; omega) | (subst_vars; simp [wset]; done) | (subst_vars; simp_all [wset]; done))
    refine wc_i hC hml (kX3_valueOf l G Z 0 (by decide) (Z 0) (a1 - 8)) (cwV 1 hts gX6_count_X3_valueOf rfl rfl rfl (by decide +kernel) ⟨Nat.le_of_ble_eq_true rfl, Nat.le_of_ble_eq_true rfl⟩) hW hS (vB (by decide) (by decide)) (ce_b1 (by decide)) rfl rfl rfl rfl hl.1 (Nat.le_of_ble_eq_true rfl) dX6_count_154 (fun H locs hW hS => ?_)
    refine lv_topi (fun x_17 ex_17 => ?_)
    have hW := wW_eq (Z' := Z) hW (by
      funext i9
      by_cases e0 : i9 = 0
      all_goals first | (simp [wset, e0]; done) | (exfalso; omega) | (subst_vars; simp [wset]; done) | (subst_vars; simp_all [wset]; done))
    have hf : fX6_count Z a1 = x_17 := by
      subst ex_17
      exact (if_neg c_1).trans ((if_neg c_2).trans ((if_neg c_3).trans ((if_neg c_5).trans ((if_neg c_7).trans ((if_neg c_8).trans ((if_neg c_10).trans ((if_neg c_12).trans ((if_neg c_14).trans ((if_pos c_16).trans rfl)))))))))
    exact we_i hC hr hlocks hf.symm rfl hW hS dX6_count_157
  by_cases c_18 : a1 = 10
  · refine lv_re c_18 ?_
    refine lv_tableIn (tgt := 143) (off := 142) hx hb dX6_count_1 (by decide) (by decide) (by decide) (by decide) ?_
    refine lv_aload_n hx hb dX6_count_143 rfl (lv_at hl 0 rfl) ?_
    refine wr_get hC hinRX6 hW (vS (by decide)) ((wE_c (Z' := wset Z 11 (Z 11)) (by first | (simp [wset]; done) | (simp only [wset]; split <;> first | (exfalso; omega) | simp))).trans ce_s0) rfl 0 (by decide) hk0 rfl dX6_count_144 ?_
    refine wr_get hC hinRX0 hW (vB (by decide) (by decide)) ((wE_c (Z' := wset Z 0 (Z 0)) (by first | (simp [wset]; done) | (simp only [wset]; split <;> first | (exfalso; omega) | simp))).trans (ce_b0 (by decide))) rfl 0 (by decide) hk4 rfl dX6_count_147 ?_
    refine lv_iload_n hx hb dX6_count_150 rfl (lv_at hl 1 rfl) ?_
    refine lv_bipush (v := 8) hx hb dX6_count_151 (by decide) ?_
    refine lv_isub hx hb dX6_count_153 ?_
    have hW := wW_eq (Z' := (wset Z 0 (Z 0))) hW (by
      funext i9
      by_cases e0 : i9 = 0
      all_goals first | (simp [wset, e0]; done) | (exfalso; omega) | (subst_vars; simp [wset]; done) | (subst_vars; simp_all [wset]; done))
    refine wc_i hC hml (kX3_valueOf l G Z 0 (by decide) (Z 0) (a1 - 8)) (cwV 1 hts gX6_count_X3_valueOf rfl rfl rfl (by decide +kernel) ⟨Nat.le_of_ble_eq_true rfl, Nat.le_of_ble_eq_true rfl⟩) hW hS (vB (by decide) (by decide)) (ce_b1 (by decide)) rfl rfl rfl rfl hl.1 (Nat.le_of_ble_eq_true rfl) dX6_count_154 (fun H locs hW hS => ?_)
    refine lv_topi (fun x_19 ex_19 => ?_)
    have hW := wW_eq (Z' := Z) hW (by
      funext i9
      by_cases e0 : i9 = 0
      all_goals first | (simp [wset, e0]; done) | (exfalso; omega) | (subst_vars; simp [wset]; done) | (subst_vars; simp_all [wset]; done))
    have hf : fX6_count Z a1 = x_19 := by
      subst ex_19
      exact (if_neg c_1).trans ((if_neg c_2).trans ((if_neg c_3).trans ((if_neg c_5).trans ((if_neg c_7).trans ((if_neg c_8).trans ((if_neg c_10).trans ((if_neg c_12).trans ((if_neg c_14).trans ((if_neg c_16).trans ((if_pos c_18).trans rfl))))))))))
    exact we_i hC hr hlocks hf.symm rfl hW hS dX6_count_157
  by_cases c_20 : a1 = 11
  · refine lv_re c_20 ?_
    refine lv_tableIn (tgt := 143) (off := 142) hx hb dX6_count_1 (by decide) (by decide) (by decide) (by decide) ?_
    refine lv_aload_n hx hb dX6_count_143 rfl (lv_at hl 0 rfl) ?_
    refine wr_get hC hinRX6 hW (vS (by decide)) ((wE_c (Z' := wset Z 11 (Z 11)) (by first | (simp [wset]; done) | (simp only [wset]; split <;> first | (exfalso; omega) | simp))).trans ce_s0) rfl 0 (by decide) hk0 rfl dX6_count_144 ?_
    refine wr_get hC hinRX0 hW (vB (by decide) (by decide)) ((wE_c (Z' := wset Z 0 (Z 0)) (by first | (simp [wset]; done) | (simp only [wset]; split <;> first | (exfalso; omega) | simp))).trans (ce_b0 (by decide))) rfl 0 (by decide) hk4 rfl dX6_count_147 ?_
    refine lv_iload_n hx hb dX6_count_150 rfl (lv_at hl 1 rfl) ?_
    refine lv_bipush (v := 8) hx hb dX6_count_151 (by decide) ?_
    refine lv_isub hx hb dX6_count_153 ?_
    have hW := wW_eq (Z' := (wset Z 0 (Z 0))) hW (by
      funext i9
      by_cases e0 : i9 = 0
      all_goals first | (simp [wset, e0]; done) | (exfalso; omega) | (subst_vars; simp [wset]; done) | (subst_vars; simp_all [wset]; done))
    refine wc_i hC hml (kX3_valueOf l G Z 0 (by decide) (Z 0) (a1 - 8)) (cwV 1 hts gX6_count_X3_valueOf rfl rfl rfl (by decide +kernel) ⟨Nat.le_of_ble_eq_true rfl, Nat.le_of_ble_eq_true rfl⟩) hW hS (vB (by decide) (by decide)) (ce_b1 (by decide)) rfl rfl rfl rfl hl.1 (Nat.le_of_ble_eq_true rfl) dX6_count_154 (fun H locs hW hS => ?_)
    refine lv_topi (fun x_21 ex_21 => ?_)
    have hW := wW_eq (Z' := Z) hW (by
      funext i9
      by_cases e0 : i9 = 0
      all_goals first | (simp [wset, e0]; done) | (exfalso; omega) | (subst_vars; simp [wset]; done) | (subst_vars; simp_all [wset]; done))
    have hf : fX6_count Z a1 = x_21 := by
      subst ex_21
      exact (if_neg c_1).trans ((if_neg c_2).trans ((if_neg c_3).trans ((if_neg c_5).trans ((if_neg c_7).trans ((if_neg c_8).trans ((if_neg c_10).trans ((if_neg c_12).trans ((if_neg c_14).trans ((if_neg c_16).trans ((if_neg c_18).trans ((if_pos c_20).trans rfl)))))))))))
    exact we_i hC hr hlocks hf.symm rfl hW hS dX6_count_157
  by_cases c_22 : a1 = 12
  · refine lv_re c_22 ?_
    refine lv_tableIn (tgt := 143) (off := 142) hx hb dX6_count_1 (by decide) (by decide) (by decide) (by decide) ?_
    refine lv_aload_n hx hb dX6_count_143 rfl (lv_at hl 0 rfl) ?_
    refine wr_get hC hinRX6 hW (vS (by decide)) ((wE_c (Z' := wset Z 11 (Z 11)) (by first | (simp [wset]; done) | (simp only [wset]; split <;> first | (exfalso; omega) | simp))).trans ce_s0) rfl 0 (by decide) hk0 rfl dX6_count_144 ?_
    refine wr_get hC hinRX0 hW (vB (by decide) (by decide)) ((wE_c (Z' := wset Z 0 (Z 0)) (by first | (simp [wset]; done) | (simp only [wset]; split <;> first | (exfalso; omega) | simp))).trans (ce_b0 (by decide))) rfl 0 (by decide) hk4 rfl dX6_count_147 ?_
    refine lv_iload_n hx hb dX6_count_150 rfl (lv_at hl 1 rfl) ?_
    refine lv_bipush (v := 8) hx hb dX6_count_151 (by decide) ?_
    refine lv_isub hx hb dX6_count_153 ?_
    have hW := wW_eq (Z' := (wset Z 0 (Z 0))) hW (by
      funext i9
      by_cases e0 : i9 = 0
      all_goals first | (simp [wset, e0]; done) | (exfalso; omega) | (subst_vars; simp [wset]; done) | (subst_vars; simp_all [wset]; done))
    refine wc_i hC hml (kX3_valueOf l G Z 0 (by decide) (Z 0) (a1 - 8)) (cwV 1 hts gX6_count_X3_valueOf rfl rfl rfl (by decide +kernel) ⟨Nat.le_of_ble_eq_true rfl, Nat.le_of_ble_eq_true rfl⟩) hW hS (vB (by decide) (by decide)) (ce_b1 (by decide)) rfl rfl rfl rfl hl.1 (Nat.le_of_ble_eq_true rfl) dX6_count_154 (fun H locs hW hS => ?_)
    refine lv_topi (fun x_23 ex_23 => ?_)
    have hW := wW_eq (Z' := Z) hW (by
      funext i9
      by_cases e0 : i9 = 0
      all_goals first | (simp [wset, e0]; done) | (exfalso; omega) | (subst_vars; simp [wset]; done) | (subst_vars; simp_all [wset]; done))
    have hf : fX6_count Z a1 = x_23 := by
      subst ex_23
      exact (if_neg c_1).trans ((if_neg c_2).trans ((if_neg c_3).trans ((if_neg c_5).trans ((if_neg c_7).trans ((if_neg c_8).trans ((if_neg c_10).trans ((if_neg c_12).trans ((if_neg c_14).trans ((if_neg c_16).trans ((if_neg c_18).trans ((if_neg c_20).trans ((if_pos c_22).trans rfl))))))))))))
    exact we_i hC hr hlocks hf.symm rfl hW hS dX6_count_157
  by_cases c_24 : a1 = 13
  · refine lv_re c_24 ?_
    refine lv_tableIn (tgt := 158) (off := 157) hx hb dX6_count_1 (by decide) (by decide) (by decide) (by decide) ?_
    refine lv_aload_n hx hb dX6_count_158 rfl (lv_at hl 0 rfl) ?_
    refine wr_get hC hinRX6 hW (vS (by decide)) ((wE_c (Z' := wset Z 11 (Z 11)) (by first | (simp [wset]; done) | (simp only [wset]; split <;> first | (exfalso; omega) | simp))).trans ce_s0) rfl 6 (by decide) hk5 rfl dX6_count_159 ?_
    refine wr_get hC hinRX2 hW (vS (by decide)) ((wE_c (Z' := wset Z 11 (Z 11)) (by first | (simp [wset]; done) | (simp only [wset]; split <;> first | (exfalso; omega) | simp))).trans ce_s6) rfl 1 (by decide) hk6 rfl dX6_count_162 ?_
    have hf : fX6_count Z a1 = (Z 11) 6 0 := (if_neg c_1).trans ((if_neg c_2).trans ((if_neg c_3).trans ((if_neg c_5).trans ((if_neg c_7).trans ((if_neg c_8).trans ((if_neg c_10).trans ((if_neg c_12).trans ((if_neg c_14).trans ((if_neg c_16).trans ((if_neg c_18).trans ((if_neg c_20).trans ((if_neg c_22).trans ((if_pos c_24).trans rfl)))))))))))))
    exact we_i hC hr hlocks hf.symm rfl hW hS dX6_count_165
  by_cases c_25 : a1 = 14
  · refine lv_re c_25 ?_
    refine lv_tableIn (tgt := 166) (off := 165) hx hb dX6_count_1 (by decide) (by decide) (by decide) (by decide) ?_
    refine lv_aload_n hx hb dX6_count_166 rfl (lv_at hl 0 rfl) ?_
    refine wr_get hC hinRX6 hW (vS (by decide)) ((wE_c (Z' := wset Z 11 (Z 11)) (by first | (simp [wset]; done) | (simp only [wset]; split <;> first | (exfalso; omega) | simp))).trans ce_s0) rfl 2 (by decide) hk7 rfl dX6_count_167 ?_
    refine wr_get hC hinRX1 hW (vS (by decide)) ((wE_c (Z' := wset Z 11 (Z 11)) (by first | (simp [wset]; done) | (simp only [wset]; split <;> first | (exfalso; omega) | simp))).trans ce_s1) rfl 2 (by decide) hk8 rfl dX6_count_170 ?_
    have hf : fX6_count Z a1 = (Z 11) 1 1 := (if_neg c_1).trans ((if_neg c_2).trans ((if_neg c_3).trans ((if_neg c_5).trans ((if_neg c_7).trans ((if_neg c_8).trans ((if_neg c_10).trans ((if_neg c_12).trans ((if_neg c_14).trans ((if_neg c_16).trans ((if_neg c_18).trans ((if_neg c_20).trans ((if_neg c_22).trans ((if_neg c_24).trans ((if_pos c_25).trans rfl))))))))))))))
    exact we_i hC hr hlocks hf.symm rfl hW hS dX6_count_173
  refine lv_tableOut (tgt := 174) hx hb dX6_count_1 (by
    have hz : ∀ k : Int32, ¬ a1 = k → ¬ a1.toInt = k.toInt := fun k h q => h (Int32.toInt_inj.mp q)
    have c_1z : ¬ a1.toInt = 0 := fun q => hz 0 c_1 (q.trans (by decide))
    have c_2z : ¬ a1.toInt = 1 := fun q => hz 1 c_2 (q.trans (by decide))
    have c_3z : ¬ a1.toInt = 2 := fun q => hz 2 c_3 (q.trans (by decide))
    have c_5z : ¬ a1.toInt = 3 := fun q => hz 3 c_5 (q.trans (by decide))
    have c_7z : ¬ a1.toInt = 4 := fun q => hz 4 c_7 (q.trans (by decide))
    have c_8z : ¬ a1.toInt = 5 := fun q => hz 5 c_8 (q.trans (by decide))
    have c_10z : ¬ a1.toInt = 6 := fun q => hz 6 c_10 (q.trans (by decide))
    have c_12z : ¬ a1.toInt = 7 := fun q => hz 7 c_12 (q.trans (by decide))
    have c_14z : ¬ a1.toInt = 8 := fun q => hz 8 c_14 (q.trans (by decide))
    have c_16z : ¬ a1.toInt = 9 := fun q => hz 9 c_16 (q.trans (by decide))
    have c_18z : ¬ a1.toInt = 10 := fun q => hz 10 c_18 (q.trans (by decide))
    have c_20z : ¬ a1.toInt = 11 := fun q => hz 11 c_20 (q.trans (by decide))
    have c_22z : ¬ a1.toInt = 12 := fun q => hz 12 c_22 (q.trans (by decide))
    have c_24z : ¬ a1.toInt = 13 := fun q => hz 13 c_24 (q.trans (by decide))
    have c_25z : ¬ a1.toInt = 14 := fun q => hz 14 c_25 (q.trans (by decide))
    omega) (by decide) ?_
  refine lv_bipush (v := (-2)) hx hb dX6_count_174 (by decide) ?_
  have hf : fX6_count Z a1 = (-2) := (if_neg c_1).trans ((if_neg c_2).trans ((if_neg c_3).trans ((if_neg c_5).trans ((if_neg c_7).trans ((if_neg c_8).trans ((if_neg c_10).trans ((if_neg c_12).trans ((if_neg c_14).trans ((if_neg c_16).trans ((if_neg c_18).trans ((if_neg c_20).trans ((if_neg c_22).trans ((if_neg c_24).trans ((if_neg c_25).trans rfl))))))))))))))
  exact we_i hC hr hlocks hf.symm rfl hW hS dX6_count_176
def fX6_interval (Z : wZ) (a1 : Int32) : Int32 :=
  if a1 < 0 then (-2)
  else if a1 ≤ 99 then (let x_3 := fX3_intervalOf (Z 0) a1
    x_3)
  else (-2)
abbrev rX6_interval : Room := { frames := 1, cells := 0, slots := 0, locals := 22 }
set_option maxHeartbeats 4000000 in
set_option maxRecDepth 100000 in
theorem kX6_interval (l : Launch) (G : wG) (Z : wZ)  (a1 : Int32)  : mI l yX6_interval wsX6_interval rX6_interval G [.ref (G.2.2.1 11 0), .int a1] Z (fX6_interval Z a1) Z := by
  refine Met.ofW (cc := cX6_interval) (maxL := 2) (ret := (some .int)) (by decide) rfl ?_
  intro p e s m args below meth c s₁ B0 hml hv
  obtain ⟨rfl, hW, hK, hL⟩ := hv
  have hlocks := B0.notSynchronized
  have hr := B0.returns
  have hC : wX p s m c cX6_interval _ wsX6_interval RX6 G := ⟨B0.exec, B0.bytes, findClass_of_methodNamed B0.named, atoms_spec (ws := wsX6_interval) B0.pre, hK, hL⟩
  have hx := hC.1
  have hb := hC.2.1
  have hts := hC.2.2.2.1
  have hinRX0 : ∀ w ∈ wsX00, w ∈ wsX6_interval := by decide +kernel
  have hinRX6 : ∀ w ∈ wsX60, w ∈ wsX6_interval := by decide +kernel
  have hk0 := hts (.fieldLink RX6 10 "RampShafts" "bench" "LRampShafts$Bench;") (by decide +kernel)
  have hk1 := hts (.fieldLink RX6 50 "RampShafts$Bench" "ramp" "LRampShafts$Ramp;") (by decide +kernel)
  have hS : va_S (wA G) s.heap s.heap [] := va_S.rf
  have hl := lv_entry ([.ref (G.2.2.1 11 0), .int a1]) (n := 2) (Nat.le_of_ble_eq_true rfl)
  rw [lg_entry_eq]
  generalize (lg_sl ([.ref (G.2.2.1 11 0), .int a1]) ++ List.replicate (2 - (lg_sl ([.ref (G.2.2.1 11 0), .int a1])).length) Slot.unset).toArray = ls at hl ⊢
  have hl : lv_has ls 2 [(0, .ref (G.2.2.1 11 0)), (1, .int a1)] := hl
  refine lv_iload_n hx hb dX6_interval_0 rfl (lv_at hl 1 rfl) ?_
  refine lv_if_lt (tgt := 10) hx hb dX6_interval_1 (by decide) (fun c_1 => ?_) (fun c_1 => ?_)
  · skip
    refine lv_bipush (v := (-2)) hx hb dX6_interval_10 (by decide) ?_
    have hf : fX6_interval Z a1 = (-2) := (if_pos c_1).trans rfl
    exact we_i hC hr hlocks hf.symm rfl hW hS dX6_interval_12
  · skip
    refine lv_iload_n hx hb dX6_interval_4 rfl (lv_at hl 1 rfl) ?_
    refine lv_bipush (v := 99) hx hb dX6_interval_5 (by decide) ?_
    refine lv_icmp_le (tgt := 13) hx hb dX6_interval_7 (by decide) (fun c_2 => ?_) (fun c_2 => ?_)
    · skip
      refine lv_aload_n hx hb dX6_interval_13 rfl (lv_at hl 0 rfl) ?_
      refine wr_get hC hinRX6 hW (vS (by decide)) ((wE_c (Z' := wset Z 11 (Z 11)) (by first | (simp [wset]; done) | (simp only [wset]; split <;> first | (exfalso; omega) | simp))).trans ce_s0) rfl 0 (by decide) hk0 rfl dX6_interval_14 ?_
      refine wr_get hC hinRX0 hW (vB (by decide) (by decide)) ((wE_c (Z' := wset Z 0 (Z 0)) (by first | (simp [wset]; done) | (simp only [wset]; split <;> first | (exfalso; omega) | simp))).trans (ce_b0 (by decide))) rfl 0 (by decide) hk1 rfl dX6_interval_17 ?_
      refine lv_iload_n hx hb dX6_interval_20 rfl (lv_at hl 1 rfl) ?_
      have hW := wW_eq (Z' := (wset Z 0 (Z 0))) hW (by
        funext i9
        by_cases e0 : i9 = 0
        all_goals first | (simp [wset, e0]; done) | (exfalso; omega) | (subst_vars; simp [wset]; done) | (subst_vars; simp_all [wset]; done))
      refine wc_i hC hml (kX3_intervalOf l G Z 0 (by decide) (Z 0) a1) (cwV 1 hts gX6_interval_X3_intervalOf rfl rfl rfl (by decide +kernel) ⟨Nat.le_of_ble_eq_true rfl, Nat.le_of_ble_eq_true rfl⟩) hW hS (vB (by decide) (by decide)) (ce_b1 (by decide)) rfl rfl rfl rfl hl.1 (Nat.le_of_ble_eq_true rfl) dX6_interval_21 (fun H locs hW hS => ?_)
      refine lv_topi (fun x_3 ex_3 => ?_)
      have hW := wW_eq (Z' := Z) hW (by
        funext i9
        by_cases e0 : i9 = 0
        all_goals first | (simp [wset, e0]; done) | (exfalso; omega) | (subst_vars; simp [wset]; done) | (subst_vars; simp_all [wset]; done))
      have hf : fX6_interval Z a1 = x_3 := by
        subst ex_3
        exact (if_neg c_1).trans ((if_pos c_2).trans rfl)
      exact we_i hC hr hlocks hf.symm rfl hW hS dX6_interval_24
    · skip
      refine lv_bipush (v := (-2)) hx hb dX6_interval_10 (by decide) ?_
      have hf : fX6_interval Z a1 = (-2) := (if_neg c_1).trans ((if_neg c_2).trans rfl)
      exact we_i hC hr hlocks hf.symm rfl hW hS dX6_interval_12
def fX6_stopsAt (Z : wZ) (a1 : Int32) : Int32 :=
  if hX0_find (Z 0) a1 then (let x_2 := fX5_leftIfHalted a1.toNatClampNeg (Z 0)
    let x_3 := fX5_saysAfter a1.toNatClampNeg (Z 0) x_2
    x_3 + 1000000)
  else (-1)
abbrev rX6_stopsAt : Room := { frames := 2, cells := 0, slots := 0, locals := 41 }
set_option maxHeartbeats 4000000 in
set_option maxRecDepth 100000 in
theorem kX6_stopsAt (l : Launch) (G : wG) (Z : wZ)  (a1 : Int32)  : mI l yX6_stopsAt wsX6_stopsAt rX6_stopsAt G [.ref (G.2.2.1 11 0), .int a1] Z (fX6_stopsAt Z a1) Z := by
  refine Met.ofW (cc := cX6_stopsAt) (maxL := 3) (ret := (some .int)) (by decide) rfl ?_
  intro p e s m args below meth c s₁ B0 hml hv
  obtain ⟨rfl, hW, hK, hL⟩ := hv
  have hlocks := B0.notSynchronized
  have hr := B0.returns
  have hC : wX p s m c cX6_stopsAt _ wsX6_stopsAt RX6 G := ⟨B0.exec, B0.bytes, findClass_of_methodNamed B0.named, atoms_spec (ws := wsX6_stopsAt) B0.pre, hK, hL⟩
  have hx := hC.1
  have hb := hC.2.1
  have hts := hC.2.2.2.1
  have hinRX6 : ∀ w ∈ wsX60, w ∈ wsX6_stopsAt := by decide +kernel
  have hk0 := hts (.fieldLink RX6 10 "RampShafts" "bench" "LRampShafts$Bench;") (by decide +kernel)
  have hk1 := hts (.constant RX6 96 (1000000)) (by decide +kernel)
  have hS : va_S (wA G) s.heap s.heap [] := va_S.rf
  have hl := lv_entry ([.ref (G.2.2.1 11 0), .int a1]) (n := 3) (Nat.le_of_ble_eq_true rfl)
  rw [lg_entry_eq]
  generalize (lg_sl ([.ref (G.2.2.1 11 0), .int a1]) ++ List.replicate (3 - (lg_sl ([.ref (G.2.2.1 11 0), .int a1])).length) Slot.unset).toArray = ls at hl ⊢
  have hl : lv_has ls 3 [(0, .ref (G.2.2.1 11 0)), (1, .int a1)] := hl
  refine lv_aload_n hx hb dX6_stopsAt_0 rfl (lv_at hl 0 rfl) ?_
  refine wr_get hC hinRX6 hW (vS (by decide)) ((wE_c (Z' := wset Z 11 (Z 11)) (by first | (simp [wset]; done) | (simp only [wset]; split <;> first | (exfalso; omega) | simp))).trans ce_s0) rfl 0 (by decide) hk0 rfl dX6_stopsAt_1 ?_
  refine lv_iload_n hx hb dX6_stopsAt_4 rfl (lv_at hl 1 rfl) ?_
  have hW := wW_eq (Z' := (wset Z 0 (Z 0))) hW (by
    funext i9
    by_cases e0 : i9 = 0
    all_goals first | (simp [wset, e0]; done) | (exfalso; omega) | (subst_vars; simp [wset]; done) | (subst_vars; simp_all [wset]; done))
  refine wc_q hC hml (kX0_find l G Z 0 (by decide) (Z 0) a1) (cwV 1 hts gX6_stopsAt_X0_find rfl rfl rfl (by decide +kernel) ⟨Nat.le_of_ble_eq_true rfl, Nat.le_of_ble_eq_true rfl⟩) hW hS (vB (by decide) (by decide)) (ce_b0 (by decide)) rfl rfl rfl rfl hl.1 (Nat.le_of_ble_eq_true rfl) dX6_stopsAt_5 (fun H locs hW hS => ?_)
  by_cases c_1 : hX0_find (Z 0) a1
  · refine lv_rev (v' := .ref (G.2.2.1 0 (3 + a1.toNatClampNeg))) (congrArg va_rf (if_pos c_1)) ?_
    refine lv_astore_n (lv' := [(2, .ref (G.2.2.1 0 (3 + a1.toNatClampNeg))), (0, .ref (G.2.2.1 11 0)), (1, .int a1)]) hx hb dX6_stopsAt_8 rfl hl (by decide) rfl (fun ls hl => ?_)
    refine lv_aload_n hx hb dX6_stopsAt_9 rfl (lv_at hl 0 rfl) ?_
    refine lv_ifnonnull (tgt := 15) hx hb dX6_stopsAt_10 (by decide) ?_
    refine lv_aload_n hx hb dX6_stopsAt_15 rfl (lv_at hl 0 rfl) ?_
    refine lv_aload_n hx hb dX6_stopsAt_16 rfl (lv_at hl 0 rfl) ?_
    refine wc_i hC hml (kX5_leftIfHalted l G Z 0 (by decide) a1.toNatClampNeg (find_lt c_1) (Z 0)) (cwV 0 hts gX6_stopsAt_X5_leftIfHalted rfl rfl rfl (by decide +kernel) ⟨Nat.le_of_ble_eq_true rfl, Nat.le_of_ble_eq_true rfl⟩) hW hS (vBs (by decide) (find_lt c_1)) (ce_bs (by decide) (find_lt c_1)) rfl rfl rfl rfl hl.1 (Nat.le_of_ble_eq_true rfl) dX6_stopsAt_17 (fun H locs hW hS => ?_)
    refine lv_topi (fun x_2 ex_2 => ?_)
    refine wc_i hC hml (kX5_saysAfter l G Z 0 (by decide) a1.toNatClampNeg (find_lt c_1) (Z 0) x_2) (cwV 1 hts gX6_stopsAt_X5_saysAfter rfl rfl rfl (by decide +kernel) ⟨Nat.le_of_ble_eq_true rfl, Nat.le_of_ble_eq_true rfl⟩) hW hS (vBs (by decide) (find_lt c_1)) (ce_bs (by decide) (find_lt c_1)) rfl rfl rfl rfl hl.1 (Nat.le_of_ble_eq_true rfl) dX6_stopsAt_20 (fun H locs hW hS => ?_)
    refine lv_topi (fun x_3 ex_3 => ?_)
    refine lv_ldc (v := 1000000) hx hb hC.2.2.1 hk1 dX6_stopsAt_23 ?_
    refine lv_iadd hx hb dX6_stopsAt_25 ?_
    have hW := wW_eq (Z' := Z) hW (by
      funext i9
      by_cases e0 : i9 = 0
      all_goals first | (simp [wset, e0]; done) | (exfalso; omega) | (subst_vars; simp [wset]; done) | (subst_vars; simp_all [wset]; done))
    have hf : fX6_stopsAt Z a1 = x_3 + 1000000 := by
      subst ex_3
      subst ex_2
      exact (if_pos c_1).trans rfl
    exact we_i hC hr hlocks hf.symm rfl hW hS dX6_stopsAt_26
  · refine lv_rev (v' := .null) (congrArg va_rf (if_neg c_1)) ?_
    refine lv_astore_nN (lv' := [(2, .null), (0, .ref (G.2.2.1 11 0)), (1, .int a1)]) hx hb dX6_stopsAt_8 rfl hl (by decide) rfl (fun ls hl => ?_)
    refine lv_aload_nN hx hb dX6_stopsAt_9 rfl (lv_at hl 0 rfl) ?_
    refine lv_ifnonnullN hx hb dX6_stopsAt_10 ?_
    refine lv_iconst (v := (-1)) hx hb dX6_stopsAt_13 (by decide) ?_
    have hW := wW_eq (Z' := Z) hW (by
      funext i9
      by_cases e0 : i9 = 0
      all_goals first | (simp [wset, e0]; done) | (exfalso; omega) | (subst_vars; simp [wset]; done) | (subst_vars; simp_all [wset]; done))
    have hf : fX6_stopsAt Z a1 = (-1) := (if_neg c_1).trans rfl
    exact we_i hC hr hlocks hf.symm rfl hW hS dX6_stopsAt_14

def LX0_down : Nat → Nat → wB → wB
  | 0, _, B => B
  | u + 1, k, B => LX0_down u (k + 1) (fX0_copyPlan B (nI k) ((nI k) - 1))
def gX0_dec (B : wB) : wB := bput B 0 1 (B 0 1 - 1)
def gX0_plan1 (B : wB) : wB := if hX0_find B (B 12 0) then fX5_beginOrWait (B 12 0).toNatClampNeg B (B 13 0) (B 0 2) else B
def gX0_drop (B : wB) : wB := gX0_dec (LX0_down ((B 0 1).toNatClampNeg - 1) 1 B)
def LX0_arr : Nat → wB → wB
  | 0, B => B
  | u + 1, B => if B 0 1 ≤ 0 then B else if B 11 0 = B 0 2 then LX0_arr u (gX0_drop (gX0_plan1 B)) else B
def fX0_arriveAt (B : wB) (a1 : Int32) : wB := LX0_arr 12 (bput B 0 2 a1)
abbrev rX0_arriveAt : Room := { frames := 3, cells := 0, slots := 0, locals := 69 }
set_option maxHeartbeats 4000000 in
set_option maxRecDepth 100000 in
theorem kX0_arriveAt (l : Launch) (G : wG) (Z : wZ) (i : Nat) (hi : i < 11) (B : wB) (a1 : Int32)  : mV l yX0_arriveAt wsX0_arriveAt rX0_arriveAt G [.ref (G.2.2.1 i 0), .int a1] (wset Z i B) (wset Z i (fX0_arriveAt B a1)) := by
  refine Met.ofW (cc := cX0_arriveAt) (maxL := 5) (ret := none) (by decide) rfl ?_
  intro p e s m args below meth c s₁ B0 hml hv
  obtain ⟨rfl, hW, hK, hL⟩ := hv
  have hlocks := B0.notSynchronized
  have hr := B0.returns
  have hC : wX p s m c cX0_arriveAt _ wsX0_arriveAt RX0 G := ⟨B0.exec, B0.bytes, findClass_of_methodNamed B0.named, atoms_spec (ws := wsX0_arriveAt) B0.pre, hK, hL⟩
  have hx := hC.1
  have hb := hC.2.1
  have hts := hC.2.2.2.1
  have hinRX0 : ∀ w ∈ wsX00, w ∈ wsX0_arriveAt := by decide +kernel
  have hk0 := hts (.fieldLink RX0 46 "RampShafts$Bench" "planCount" "I") (by decide +kernel)
  have hk1 := hts (.fieldLink RX0 25 "RampShafts$Bench" "planTimes" "[I") (by decide +kernel)
  have hk2 := hts (.fieldLink RX0 49 "RampShafts$Bench" "time" "I") (by decide +kernel)
  have hk3 := hts (.fieldLink RX0 29 "RampShafts$Bench" "planShafts" "[I") (by decide +kernel)
  have hk4 := hts (.fieldLink RX0 32 "RampShafts$Bench" "planPlaces" "[I") (by decide +kernel)
  have hk5 := hts (.fieldLink RX0 12 "RampShafts$Bench" "ramp" "LRampShafts$Ramp;") (by decide +kernel)
  have hS : va_S (wA G) s.heap s.heap [] := va_S.rf
  have hl := lv_entry ([.ref (G.2.2.1 i 0), .int a1]) (n := 5) (Nat.le_of_ble_eq_true rfl)
  rw [lg_entry_eq]
  generalize (lg_sl ([.ref (G.2.2.1 i 0), .int a1]) ++ List.replicate (5 - (lg_sl ([.ref (G.2.2.1 i 0), .int a1])).length) Slot.unset).toArray = ls at hl ⊢
  have hl : lv_has ls 5 [(0, .ref (G.2.2.1 i 0)), (1, .int a1)] := hl
  obtain ⟨R, hR⟩ : ∃ R, R = fX0_arriveAt B a1 := ⟨_, rfl⟩
  rw [← hR]
  unfold fX0_arriveAt at hR
  have hlp_1 : ∀ (u : Nat) (j : Nat) (B : wB), (hj : j + u = 12) → R = LX0_arr u B → ∀ (H : Heap) (locs : List Loc) (ls : Array Slot), wW G (wset Z i B) H → va_S (wA G) s.heap H locs → lv_has ls 5 [(0, .ref (G.2.2.1 i 0)), (1, .int a1), (2, .int (nI j))] → W p l e (headSpec wsX0_arriveAt rX0_arriveAt).room s m ([.ref (G.2.2.1 i 0), .int a1] : List Value).toArray below meth c H locs 0 0 (qV below ([.ref (G.2.2.1 i 0), .int a1] : List Value).toArray s G (wset Z i R)) (F0 m 7 ls []) := by
    intro u
    induction u with
    | zero =>
      intro j B hj hR H locs ls hW hS hl
      simp only [LX0_arr] at hR
      refine lv_iload_n hx hb dX0_arriveAt_7 rfl (lv_at hl 2 rfl) ?_
      refine lv_bipush (v := 12) hx hb dX0_arriveAt_8 (by decide) ?_
      refine lv_icmp_ge (tgt := 110) hx hb dX0_arriveAt_10 (by decide) (fun c_2 => ?_) (fun c_2 => ?_)
      · skip
        exact we_v hC hr hlocks (congrArg (wset Z i) hR).symm hW hS dX0_arriveAt_110
      · exact absurd ((nI_leI (a := 12) (by decide) (by omega)).mpr (by omega)) c_2
    | succ t ih =>
      intro j B hj hR H locs ls hW hS hl
      simp only [LX0_arr, gX0_plan1] at hR
      refine lv_iload_n hx hb dX0_arriveAt_7 rfl (lv_at hl 2 rfl) ?_
      refine lv_bipush (v := 12) hx hb dX0_arriveAt_8 (by decide) ?_
      refine lv_icmp_ge (tgt := 110) hx hb dX0_arriveAt_10 (by decide) (fun c_3 => ?_) (fun c_3 => ?_)
      · exact absurd ((nI_leI (a := 12) (by decide) (by omega)).mp c_3) (by omega)
      · skip
        refine lv_aload_n hx hb dX0_arriveAt_13 rfl (lv_at hl 0 rfl) ?_
        refine wr_get hC hinRX0 hW (vB hi (by decide)) (ce_b0 hi) rfl 6 (by decide) hk0 rfl dX0_arriveAt_14 ?_
        refine lv_if_le (tgt := 110) hx hb dX0_arriveAt_17 (by decide) (fun c_4 => ?_) (fun c_4 => ?_)
        · skip
          try rw [if_pos c_4] at hR
          exact we_v hC hr hlocks (congrArg (wset Z i) hR).symm hW hS dX0_arriveAt_110
        · skip
          try rw [if_neg c_4] at hR
          refine lv_aload_n hx hb dX0_arriveAt_20 rfl (lv_at hl 0 rfl) ?_
          refine wr_get hC hinRX0 hW (vB hi (by decide)) (ce_b0 hi) rfl 2 (by decide) hk1 rfl dX0_arriveAt_21 ?_
          refine lv_iconst (v := 0) hx hb dX0_arriveAt_24 (by decide) ?_
          refine wr_ald (kA := 0) hC hW (vB hi (by decide)) (ce_bp hi (by decide)) rfl (vp_in_iff.mpr (by decide)) dX0_arriveAt_25 ?_
          refine lv_re (y := B 11 0) ((congrArg (B 11) (show (0 : Int32).toNatClampNeg = 0 by decide))) ?_
          refine lv_aload_n hx hb dX0_arriveAt_26 rfl (lv_at hl 0 rfl) ?_
          refine wr_get hC hinRX0 hW (vB hi (by decide)) (ce_b0 hi) rfl 7 (by decide) hk2 rfl dX0_arriveAt_27 ?_
          refine lv_icmp_ne (tgt := 110) hx hb dX0_arriveAt_30 (by decide) (fun c_5 => ?_) (fun c_5 => ?_)
          · skip
            try rw [if_neg c_5] at hR
            exact we_v hC hr hlocks (congrArg (wset Z i) hR).symm hW hS dX0_arriveAt_110
          · skip
            try rw [if_pos c_5] at hR
            refine lv_aload_n hx hb dX0_arriveAt_33 rfl (lv_at hl 0 rfl) ?_
            refine lv_aload_n hx hb dX0_arriveAt_34 rfl (lv_at hl 0 rfl) ?_
            refine wr_get hC hinRX0 hW (vB hi (by decide)) (ce_b0 hi) rfl 3 (by decide) hk3 rfl dX0_arriveAt_35 ?_
            refine lv_iconst (v := 0) hx hb dX0_arriveAt_38 (by decide) ?_
            refine wr_ald (kA := 0) hC hW (vB hi (by decide)) (ce_bp hi (by decide)) rfl (vp_in_iff.mpr (by decide)) dX0_arriveAt_39 ?_
            refine lv_re (y := B 12 0) ((congrArg (B 12) (show (0 : Int32).toNatClampNeg = 0 by decide))) ?_
            refine wc_q hC hml (kX0_find l G Z i hi B (B 12 0)) (cwV 1 hts gX0_arriveAt_X0_find rfl rfl rfl (by decide +kernel) ⟨Nat.le_of_ble_eq_true rfl, Nat.le_of_ble_eq_true rfl⟩) hW hS (vB hi (by decide)) (ce_b0 hi) rfl rfl rfl rfl hl.1 (Nat.le_of_ble_eq_true rfl) dX0_arriveAt_40 (fun H locs hW hS => ?_)
            by_cases c_6 : hX0_find B (B 12 0)
            · refine lv_rev (v' := .ref (G.2.2.1 i (3 + (B 12 0).toNatClampNeg))) (congrArg va_rf (if_pos c_6)) ?_
              try rw [if_pos c_6] at hR
              refine lv_astore_n (lv' := [(3, .ref (G.2.2.1 i (3 + (B 12 0).toNatClampNeg))), (0, .ref (G.2.2.1 i 0)), (1, .int a1), (2, .int (nI j))]) hx hb dX0_arriveAt_43 rfl hl (by decide) rfl (fun ls hl => ?_)
              refine lv_aload_n hx hb dX0_arriveAt_44 rfl (lv_at hl 0 rfl) ?_
              refine lv_ifnull hx hb dX0_arriveAt_45 ?_
              refine lv_aload_n hx hb dX0_arriveAt_48 rfl (lv_at hl 0 rfl) ?_
              refine lv_aload_n hx hb dX0_arriveAt_49 rfl (lv_at hl 1 rfl) ?_
              refine wr_get hC hinRX0 hW (vB hi (by decide)) (ce_b0 hi) rfl 4 (by decide) hk4 rfl dX0_arriveAt_50 ?_
              refine lv_iconst (v := 0) hx hb dX0_arriveAt_53 (by decide) ?_
              refine wr_ald (kA := 0) hC hW (vB hi (by decide)) (ce_bp hi (by decide)) rfl (vp_in_iff.mpr (by decide)) dX0_arriveAt_54 ?_
              refine lv_re (y := B 13 0) ((congrArg (B 13) (show (0 : Int32).toNatClampNeg = 0 by decide))) ?_
              refine lv_aload_n hx hb dX0_arriveAt_55 rfl (lv_at hl 1 rfl) ?_
              refine wr_get hC hinRX0 hW (vB hi (by decide)) (ce_b0 hi) rfl 7 (by decide) hk2 rfl dX0_arriveAt_56 ?_
              refine lv_aload_n hx hb dX0_arriveAt_59 rfl (lv_at hl 1 rfl) ?_
              refine wr_get hC hinRX0 hW (vB hi (by decide)) (ce_b0 hi) rfl 0 (by decide) hk5 rfl dX0_arriveAt_60 ?_
              refine wc_v hC hml (kX5_beginOrWait l G Z i hi (B 12 0).toNatClampNeg (find_lt c_6) B (B 13 0) (B 0 2)) (cwV 3 hts gX0_arriveAt_X5_beginOrWait rfl rfl rfl (by decide +kernel) ⟨Nat.le_of_ble_eq_true rfl, Nat.le_of_ble_eq_true rfl⟩) hW hS (vBs hi (find_lt c_6)) (ce_bs hi (find_lt c_6)) rfl rfl rfl rfl hl.1 (Nat.le_of_ble_eq_true rfl) dX0_arriveAt_63 (fun H locs hW hS => ?_)
              obtain ⟨B_7, eB_7⟩ : ∃ y, y = fX5_beginOrWait (B 12 0).toNatClampNeg B (B 13 0) (B 0 2) := ⟨_, rfl⟩
              rw [← eB_7] at hW
              try rw [← eB_7] at hR
              have hq0 : B_7 0 1 = B 0 1 := by rw [eB_7, bow_off (by omega) (by omega)]
              have hq5 : ¬ B_7 0 1 < 0 := fun h9 => c_4 (by rw [hq0] at h9; rw [Int32.lt_iff_toInt_lt] at h9; rw [Int32.le_iff_toInt_le]; omega)
              obtain ⟨P9, hP9, eP9⟩ := nI_of hq5
              have hq6 : 1 ≤ P9 := by
                rcases Nat.eq_zero_or_pos P9 with h9 | h9
                · exact absurd (show B 0 1 ≤ 0 by rw [← hq0, eP9, h9]; decide) c_4
                · exact h9
              have hq7 : (B_7 0 1).toNatClampNeg = P9 := by rw [eP9, nI_clamp hP9]
              have hq1 : B_7 0 1 = nI (B_7 0 1).toNatClampNeg := by rw [hq7]; exact eP9
              have hq2 : 1 + ((B_7 0 1).toNatClampNeg - 1) = (B_7 0 1).toNatClampNeg := by omega
              have hq3 : (B_7 0 1).toNatClampNeg < 2 ^ 31 := by omega
              have hq4 : 1 ≤ 1 := Nat.le_refl 1
              unfold gX0_drop at hR
              refine lv_iconst (v := 1) hx hb dX0_arriveAt_66 (by decide) ?_
              refine lv_istore (lv' := [(4, .int 1), (3, .ref (G.2.2.1 i (3 + (B 12 0).toNatClampNeg))), (0, .ref (G.2.2.1 i 0)), (1, .int a1), (2, .int (nI j))]) hx hb dX0_arriveAt_67 hl (by decide) rfl (fun ls hl => ?_)
              have hlp_8 : ∀ (u : Nat) (k : Nat) (B : wB) (P : Nat), (hB1 : B 0 1 = nI P) → (hkP : k + u = P) → (hP : P < 2 ^ 31) → (hk1 : 1 ≤ k) → R = LX0_arr t (gX0_dec (LX0_down u k B)) → ∀ (H : Heap) (locs : List Loc) (ls : Array Slot), wW G (wset Z i B) H → va_S (wA G) s.heap H locs → lv_has ls 5 [(0, .ref (G.2.2.1 i 0)), (4, .int (nI k)), (2, .int (nI j)), (1, .int a1)] → W p l e (headSpec wsX0_arriveAt rX0_arriveAt).room s m ([.ref (G.2.2.1 i 0), .int a1] : List Value).toArray below meth c H locs 0 0 (qV below ([.ref (G.2.2.1 i 0), .int a1] : List Value).toArray s G (wset Z i R)) (F0 m 69 ls []) := by
                intro u
                induction u with
                | zero =>
                  intro k B P hB1 hkP hP hk1 hR H locs ls hW hS hl
                  simp only [LX0_down, gX0_dec] at hR
                  refine lv_iload hx hb dX0_arriveAt_69 (lv_at hl 1 rfl) ?_
                  refine lv_aload_n hx hb dX0_arriveAt_71 rfl (lv_at hl 0 rfl) ?_
                  refine wr_get hC hinRX0 hW (vB hi (by decide)) (ce_b0 hi) rfl 6 (by decide) hk0 rfl dX0_arriveAt_72 ?_
                  refine lv_icmp_ge (tgt := 94) hx hb dX0_arriveAt_75 (by decide) (fun c_9 => ?_) (fun c_9 => ?_)
                  · skip
                    refine lv_aload_n hx hb dX0_arriveAt_94 rfl (lv_at hl 0 rfl) ?_
                    refine lv_dup hx hb dX0_arriveAt_95 rfl ?_
                    refine wr_get hC hinRX0 hW (vB hi (by decide)) (ce_b0 hi) rfl 6 (by decide) hk0 rfl dX0_arriveAt_96 ?_
                    refine lv_iconst (v := 1) hx hb dX0_arriveAt_99 (by decide) ?_
                    refine lv_isub hx hb dX0_arriveAt_100 ?_
                    refine wr_put (Z' := wset Z i (bput B 0 1 ((B 0 1) - 1))) (v := .int ((B 0 1) - 1)) hC hinRX0 tyX0 tyX0_ok nmX0 hW hS (vB hi (by decide)) (ce_b0 hi) rfl 6 (by decide) hk0 rfl (tyX0_ok 6 (by decide)) rfl rfl (Nat.le_of_ble_eq_true rfl) wset_off (pu_b0_1 hi) dX0_arriveAt_101 (fun H locs hW hS => ?_)
                    refine lv_iinc (v := nI (j + 1)) (lv' := [(2, .int (nI (j + 1))), (0, .ref (G.2.2.1 i 0)), (4, .int (nI k)), (1, .int a1)]) hx hb dX0_arriveAt_104 hl (k := 2) rfl (nI_1 _) (by decide) rfl (fun ls hl => ?_)
                    refine lv_goto (tgt := 7) hx hb dX0_arriveAt_107 (by decide) ?_
                    exact ih (j + 1) (bput B 0 1 ((B 0 1) - 1)) (by omega) hR _ _ _ hW hS (lv_sub hl [1, 3, 0] rfl)
                  · exact absurd (by rw [hB1, nI_leI (by omega) (by omega)]; omega) c_9
                | succ u ih =>
                  intro k B P hB1 hkP hP hk1 hR H locs ls hW hS hl
                  simp only [LX0_down] at hR
                  refine lv_iload hx hb dX0_arriveAt_69 (lv_at hl 1 rfl) ?_
                  refine lv_aload_n hx hb dX0_arriveAt_71 rfl (lv_at hl 0 rfl) ?_
                  refine wr_get hC hinRX0 hW (vB hi (by decide)) (ce_b0 hi) rfl 6 (by decide) hk0 rfl dX0_arriveAt_72 ?_
                  refine lv_icmp_ge (tgt := 94) hx hb dX0_arriveAt_75 (by decide) (fun c_10 => ?_) (fun c_10 => ?_)
                  · exact absurd c_10 (by rw [hB1, nI_leI (by omega) (by omega)]; omega)
                  · skip
                    refine lv_aload_n hx hb dX0_arriveAt_78 rfl (lv_at hl 0 rfl) ?_
                    refine lv_iload hx hb dX0_arriveAt_79 (lv_at hl 1 rfl) ?_
                    refine lv_iload hx hb dX0_arriveAt_81 (lv_at hl 1 rfl) ?_
                    refine lv_iconst (v := 1) hx hb dX0_arriveAt_83 (by decide) ?_
                    refine lv_isub hx hb dX0_arriveAt_84 ?_
                    refine wc_v hC hml (kX0_copyPlan l G Z i hi B (nI k) ((nI k) - 1)) (cwV 2 hts gX0_arriveAt_X0_copyPlan rfl rfl rfl (by decide +kernel) ⟨Nat.le_of_ble_eq_true rfl, Nat.le_of_ble_eq_true rfl⟩) hW hS (vB hi (by decide)) (ce_b0 hi) rfl rfl rfl rfl hl.1 (Nat.le_of_ble_eq_true rfl) dX0_arriveAt_85 (fun H locs hW hS => ?_)
                    obtain ⟨B_11, eB_11⟩ : ∃ y, y = fX0_copyPlan B (nI k) ((nI k) - 1) := ⟨_, rfl⟩
                    rw [← eB_11] at hW
                    try rw [← eB_11] at hR
                    refine lv_iinc (v := nI (k + 1)) (lv' := [(4, .int (nI (k + 1))), (0, .ref (G.2.2.1 i 0)), (2, .int (nI j)), (1, .int a1)]) hx hb dX0_arriveAt_88 hl (k := 1) rfl (nI_1 _) (by decide) rfl (fun ls hl => ?_)
                    refine lv_goto (tgt := 69) hx hb dX0_arriveAt_91 (by decide) ?_
                    exact ih (k + 1) B_11 P (by rw [eB_11, copyPlan_off (by decide)]; exact hB1) (by omega) hP (by omega) hR _ _ _ hW hS (lv_sub hl [1, 0, 2, 3] rfl)
              exact hlp_8 ((B_7 0 1).toNatClampNeg - 1) 1 B_7 ((B_7 0 1).toNatClampNeg) hq1 hq2 hq3 hq4 hR _ _ _ hW hS (lv_sub hl [2, 0, 4, 3] rfl)
            · refine lv_rev (v' := .null) (congrArg va_rf (if_neg c_6)) ?_
              try rw [if_neg c_6] at hR
              refine lv_astore_nN (lv' := [(3, .null), (0, .ref (G.2.2.1 i 0)), (1, .int a1), (2, .int (nI j))]) hx hb dX0_arriveAt_43 rfl hl (by decide) rfl (fun ls hl => ?_)
              refine lv_aload_nN hx hb dX0_arriveAt_44 rfl (lv_at hl 0 rfl) ?_
              refine lv_ifnullN (tgt := 66) hx hb dX0_arriveAt_45 (by decide) ?_
              have hq0 : B 0 1 = B 0 1 := rfl
              have hq5 : ¬ B 0 1 < 0 := fun h9 => c_4 (by rw [hq0] at h9; rw [Int32.lt_iff_toInt_lt] at h9; rw [Int32.le_iff_toInt_le]; omega)
              obtain ⟨P9, hP9, eP9⟩ := nI_of hq5
              have hq6 : 1 ≤ P9 := by
                rcases Nat.eq_zero_or_pos P9 with h9 | h9
                · exact absurd (show B 0 1 ≤ 0 by rw [← hq0, eP9, h9]; decide) c_4
                · exact h9
              have hq7 : (B 0 1).toNatClampNeg = P9 := by rw [eP9, nI_clamp hP9]
              have hq1 : B 0 1 = nI (B 0 1).toNatClampNeg := by rw [hq7]; exact eP9
              have hq2 : 1 + ((B 0 1).toNatClampNeg - 1) = (B 0 1).toNatClampNeg := by omega
              have hq3 : (B 0 1).toNatClampNeg < 2 ^ 31 := by omega
              have hq4 : 1 ≤ 1 := Nat.le_refl 1
              unfold gX0_drop at hR
              refine lv_iconst (v := 1) hx hb dX0_arriveAt_66 (by decide) ?_
              refine lv_istore (lv' := [(4, .int 1), (3, .null), (0, .ref (G.2.2.1 i 0)), (1, .int a1), (2, .int (nI j))]) hx hb dX0_arriveAt_67 hl (by decide) rfl (fun ls hl => ?_)
              have hlp_12 : ∀ (u : Nat) (k : Nat) (B : wB) (P : Nat), (hB1 : B 0 1 = nI P) → (hkP : k + u = P) → (hP : P < 2 ^ 31) → (hk1 : 1 ≤ k) → R = LX0_arr t (gX0_dec (LX0_down u k B)) → ∀ (H : Heap) (locs : List Loc) (ls : Array Slot), wW G (wset Z i B) H → va_S (wA G) s.heap H locs → lv_has ls 5 [(0, .ref (G.2.2.1 i 0)), (4, .int (nI k)), (2, .int (nI j)), (1, .int a1)] → W p l e (headSpec wsX0_arriveAt rX0_arriveAt).room s m ([.ref (G.2.2.1 i 0), .int a1] : List Value).toArray below meth c H locs 0 0 (qV below ([.ref (G.2.2.1 i 0), .int a1] : List Value).toArray s G (wset Z i R)) (F0 m 69 ls []) := by
                intro u
                induction u with
                | zero =>
                  intro k B P hB1 hkP hP hk1 hR H locs ls hW hS hl
                  simp only [LX0_down, gX0_dec] at hR
                  refine lv_iload hx hb dX0_arriveAt_69 (lv_at hl 1 rfl) ?_
                  refine lv_aload_n hx hb dX0_arriveAt_71 rfl (lv_at hl 0 rfl) ?_
                  refine wr_get hC hinRX0 hW (vB hi (by decide)) (ce_b0 hi) rfl 6 (by decide) hk0 rfl dX0_arriveAt_72 ?_
                  refine lv_icmp_ge (tgt := 94) hx hb dX0_arriveAt_75 (by decide) (fun c_13 => ?_) (fun c_13 => ?_)
                  · skip
                    refine lv_aload_n hx hb dX0_arriveAt_94 rfl (lv_at hl 0 rfl) ?_
                    refine lv_dup hx hb dX0_arriveAt_95 rfl ?_
                    refine wr_get hC hinRX0 hW (vB hi (by decide)) (ce_b0 hi) rfl 6 (by decide) hk0 rfl dX0_arriveAt_96 ?_
                    refine lv_iconst (v := 1) hx hb dX0_arriveAt_99 (by decide) ?_
                    refine lv_isub hx hb dX0_arriveAt_100 ?_
                    refine wr_put (Z' := wset Z i (bput B 0 1 ((B 0 1) - 1))) (v := .int ((B 0 1) - 1)) hC hinRX0 tyX0 tyX0_ok nmX0 hW hS (vB hi (by decide)) (ce_b0 hi) rfl 6 (by decide) hk0 rfl (tyX0_ok 6 (by decide)) rfl rfl (Nat.le_of_ble_eq_true rfl) wset_off (pu_b0_1 hi) dX0_arriveAt_101 (fun H locs hW hS => ?_)
                    refine lv_iinc (v := nI (j + 1)) (lv' := [(2, .int (nI (j + 1))), (0, .ref (G.2.2.1 i 0)), (4, .int (nI k)), (1, .int a1)]) hx hb dX0_arriveAt_104 hl (k := 2) rfl (nI_1 _) (by decide) rfl (fun ls hl => ?_)
                    refine lv_goto (tgt := 7) hx hb dX0_arriveAt_107 (by decide) ?_
                    exact ih (j + 1) (bput B 0 1 ((B 0 1) - 1)) (by omega) hR _ _ _ hW hS (lv_sub hl [1, 3, 0] rfl)
                  · exact absurd (by rw [hB1, nI_leI (by omega) (by omega)]; omega) c_13
                | succ u ih =>
                  intro k B P hB1 hkP hP hk1 hR H locs ls hW hS hl
                  simp only [LX0_down] at hR
                  refine lv_iload hx hb dX0_arriveAt_69 (lv_at hl 1 rfl) ?_
                  refine lv_aload_n hx hb dX0_arriveAt_71 rfl (lv_at hl 0 rfl) ?_
                  refine wr_get hC hinRX0 hW (vB hi (by decide)) (ce_b0 hi) rfl 6 (by decide) hk0 rfl dX0_arriveAt_72 ?_
                  refine lv_icmp_ge (tgt := 94) hx hb dX0_arriveAt_75 (by decide) (fun c_14 => ?_) (fun c_14 => ?_)
                  · exact absurd c_14 (by rw [hB1, nI_leI (by omega) (by omega)]; omega)
                  · skip
                    refine lv_aload_n hx hb dX0_arriveAt_78 rfl (lv_at hl 0 rfl) ?_
                    refine lv_iload hx hb dX0_arriveAt_79 (lv_at hl 1 rfl) ?_
                    refine lv_iload hx hb dX0_arriveAt_81 (lv_at hl 1 rfl) ?_
                    refine lv_iconst (v := 1) hx hb dX0_arriveAt_83 (by decide) ?_
                    refine lv_isub hx hb dX0_arriveAt_84 ?_
                    refine wc_v hC hml (kX0_copyPlan l G Z i hi B (nI k) ((nI k) - 1)) (cwV 2 hts gX0_arriveAt_X0_copyPlan rfl rfl rfl (by decide +kernel) ⟨Nat.le_of_ble_eq_true rfl, Nat.le_of_ble_eq_true rfl⟩) hW hS (vB hi (by decide)) (ce_b0 hi) rfl rfl rfl rfl hl.1 (Nat.le_of_ble_eq_true rfl) dX0_arriveAt_85 (fun H locs hW hS => ?_)
                    obtain ⟨B_15, eB_15⟩ : ∃ y, y = fX0_copyPlan B (nI k) ((nI k) - 1) := ⟨_, rfl⟩
                    rw [← eB_15] at hW
                    try rw [← eB_15] at hR
                    refine lv_iinc (v := nI (k + 1)) (lv' := [(4, .int (nI (k + 1))), (0, .ref (G.2.2.1 i 0)), (2, .int (nI j)), (1, .int a1)]) hx hb dX0_arriveAt_88 hl (k := 1) rfl (nI_1 _) (by decide) rfl (fun ls hl => ?_)
                    refine lv_goto (tgt := 69) hx hb dX0_arriveAt_91 (by decide) ?_
                    exact ih (k + 1) B_15 P (by rw [eB_15, copyPlan_off (by decide)]; exact hB1) (by omega) hP (by omega) hR _ _ _ hW hS (lv_sub hl [1, 0, 2, 3] rfl)
              exact hlp_12 ((B 0 1).toNatClampNeg - 1) 1 B ((B 0 1).toNatClampNeg) hq1 hq2 hq3 hq4 hR _ _ _ hW hS (lv_sub hl [2, 0, 4, 3] rfl)
  refine lv_aload_n hx hb dX0_arriveAt_0 rfl (lv_at hl 0 rfl) ?_
  refine lv_iload_n hx hb dX0_arriveAt_1 rfl (lv_at hl 1 rfl) ?_
  refine wr_put (Z' := wset Z i (bput B 0 2 a1)) (v := .int a1) hC hinRX0 tyX0 tyX0_ok nmX0 hW hS (vB hi (by decide)) (ce_b0 hi) rfl 7 (by decide) hk2 rfl (tyX0_ok 7 (by decide)) rfl rfl (Nat.le_of_ble_eq_true rfl) wset_off (pu_b0_2 hi) dX0_arriveAt_2 (fun H locs hW hS => ?_)
  refine lv_iconst (v := 0) hx hb dX0_arriveAt_5 (by decide) ?_
  refine lv_istore_n (lv' := [(2, .int 0), (0, .ref (G.2.2.1 i 0)), (1, .int a1)]) hx hb dX0_arriveAt_6 rfl hl (by decide) rfl (fun ls hl => ?_)
  exact hlp_1 12 0 (bput B 0 2 a1) rfl hR _ _ _ hW hS (lv_sub hl [1, 2, 0] rfl)

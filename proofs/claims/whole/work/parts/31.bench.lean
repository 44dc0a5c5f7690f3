def LX0_next (B : wB) : Nat → Nat → Int32 → Int32
  | 0, _, x => x
  | u + 1, k, x => if fX5_moves k B = 0 then LX0_next B u (k + 1) x else LX0_next B u (k + 1) (if B (3 + k) 7 < x then B (3 + k) 7 else x)
def fX0_nextEvent (B : wB) : Int32 := LX0_next B 4 0 (if B 0 1 ≤ 0 then 2147483647 else B 11 0)
abbrev rX0_nextEvent : Room := { frames := 1, cells := 0, slots := 0, locals := 21 }
set_option maxHeartbeats 4000000 in
set_option maxRecDepth 100000 in
theorem kX0_nextEvent (l : Launch) (G : wG) (Z : wZ) (i : Nat) (hi : i < 11) (B : wB)   : mI l yX0_nextEvent wsX0_nextEvent rX0_nextEvent G [.ref (G.2.2.1 i 0)] (wset Z i B) (fX0_nextEvent B) (wset Z i B) := by
  refine Met.ofW (cc := cX0_nextEvent) (maxL := 3) (ret := (some .int)) (by decide) rfl ?_
  intro p e s m args below meth c s₁ B0 hml hv
  obtain ⟨rfl, hW, hK, hL⟩ := hv
  have hlocks := B0.notSynchronized
  have hr := B0.returns
  have hC : wX p s m c cX0_nextEvent _ wsX0_nextEvent RX0 G := ⟨B0.exec, B0.bytes, findClass_of_methodNamed B0.named, atoms_spec (ws := wsX0_nextEvent) B0.pre, hK, hL⟩
  have hx := hC.1
  have hb := hC.2.1
  have hts := hC.2.2.2.1
  have hinRX0 : ∀ w ∈ wsX00, w ∈ wsX0_nextEvent := by decide +kernel
  have hinRX5 : ∀ w ∈ wsX50, w ∈ wsX0_nextEvent := by decide +kernel
  have hk0 := hts (.fieldLink RX0 20 "RampShafts$Bench" "shafts" "[LRampShafts$Shaft;") (by decide +kernel)
  have hk1 := hts (.fieldLink RX0 110 "RampShafts$Shaft" "next" "I") (by decide +kernel)
  have hk2 := hts (.methodLink RX0 113 Lib.Math.min.name) (by decide +kernel)
  have hk3 := hts (.static Lib.Math.min.name) (by decide +kernel)
  have hk4 := hts (.initialized "java/lang/Math") (by decide +kernel)
  have hk5 := hts (.code Lib.Math.min.name Lib.Math.min.code 2 (some .int)) (by decide +kernel)
  have hk6 := hts (.fieldLink RX0 46 "RampShafts$Bench" "planCount" "I") (by decide +kernel)
  have hk7 := hts (.constant RX0 109 (2147483647)) (by decide +kernel)
  have hk8 := hts (.fieldLink RX0 25 "RampShafts$Bench" "planTimes" "[I") (by decide +kernel)
  have hS : va_S (wA G) s.heap s.heap [] := va_S.rf
  have hl := lv_entry ([.ref (G.2.2.1 i 0)]) (n := 3) (Nat.le_of_ble_eq_true rfl)
  rw [lg_entry_eq]
  generalize (lg_sl ([.ref (G.2.2.1 i 0)]) ++ List.replicate (3 - (lg_sl ([.ref (G.2.2.1 i 0)])).length) Slot.unset).toArray = ls at hl ⊢
  have hl : lv_has ls 3 [(0, .ref (G.2.2.1 i 0))] := hl
  obtain ⟨R, hR⟩ : ∃ R, R = fX0_nextEvent B := ⟨_, rfl⟩
  rw [← hR]
  unfold fX0_nextEvent at hR
  have hlp_1 : ∀ (u : Nat) (k : Nat) (x : Int32), (hk : k + u = 4) → R = LX0_next B u k x → ∀ (H : Heap) (locs : List Loc) (ls : Array Slot), wW G (wset Z i B) H → va_S (wA G) s.heap H locs → lv_has ls 3 [(0, .ref (G.2.2.1 i 0)), (2, .int (nI k)), (1, .int x)] → W p l e (headSpec wsX0_nextEvent rX0_nextEvent).room s m ([.ref (G.2.2.1 i 0)] : List Value).toArray below meth c H locs 0 0 (qI below ([.ref (G.2.2.1 i 0)] : List Value).toArray s G R (wset Z i B)) (F0 m 21 ls []) := by
    intro u
    induction u with
    | zero =>
      intro k x hk hR H locs ls hW hS hl
      have hk4 : k = 4 := by omega
      simp only [LX0_next] at hR
      refine lv_iload_n hx hb dX0_nextEvent_21 rfl (lv_at hl 1 rfl) ?_
      refine lv_aload_n hx hb dX0_nextEvent_22 rfl (lv_at hl 0 rfl) ?_
      refine wr_get hC hinRX0 hW (vB hi (by decide)) (ce_b0 hi) rfl 1 (by decide) hk0 rfl dX0_nextEvent_23 ?_
      refine wr_alen (v := 4) hC hW (vB hi (by decide)) (ce_b2 hi) (ty := .object _) rfl rfl dX0_nextEvent_26 ?_
      refine lv_icmp_ge (tgt := 62) hx hb dX0_nextEvent_27 (by decide) (fun c_2 => ?_) (fun c_2 => ?_)
      · skip
        refine lv_iload_n hx hb dX0_nextEvent_62 rfl (lv_at hl 2 rfl) ?_
        exact we_i hC hr hlocks (v := x) (hR.symm) rfl hW hS dX0_nextEvent_63
      · exact absurd ((nI_leI (a := 4) (by decide) (by omega)).mpr (by omega)) c_2
    | succ u ih =>
      intro k x hk hR H locs ls hW hS hl
      simp only [LX0_next] at hR
      refine lv_iload_n hx hb dX0_nextEvent_21 rfl (lv_at hl 1 rfl) ?_
      refine lv_aload_n hx hb dX0_nextEvent_22 rfl (lv_at hl 0 rfl) ?_
      refine wr_get hC hinRX0 hW (vB hi (by decide)) (ce_b0 hi) rfl 1 (by decide) hk0 rfl dX0_nextEvent_23 ?_
      refine wr_alen (v := 4) hC hW (vB hi (by decide)) (ce_b2 hi) (ty := .object _) rfl rfl dX0_nextEvent_26 ?_
      refine lv_icmp_ge (tgt := 62) hx hb dX0_nextEvent_27 (by decide) (fun c_3 => ?_) (fun c_3 => ?_)
      · exact absurd ((nI_leI (a := 4) (by decide) (by omega)).mp c_3) (by omega)
      · skip
        refine lv_aload_n hx hb dX0_nextEvent_30 rfl (lv_at hl 0 rfl) ?_
        refine wr_get hC hinRX0 hW (vB hi (by decide)) (ce_b0 hi) rfl 1 (by decide) hk0 rfl dX0_nextEvent_31 ?_
        refine lv_iload_n hx hb dX0_nextEvent_34 rfl (lv_at hl 1 rfl) ?_
        refine wr_aald (v := .ref (G.2.2.1 i (3 + k))) (kA := 3) hC hW (vB hi (by decide)) (ce_b2 hi) rfl (vp_in_nI (show k < 4 by omega) (by decide)) (by rw [nI_clamp (by omega)]; rfl) dX0_nextEvent_35 ?_
        refine wc_i hC hml (kX5_moves l G Z i hi k (show k < 4 by omega) B) (cwV 0 hts gX0_nextEvent_X5_moves rfl rfl rfl (by decide +kernel) ⟨Nat.le_of_ble_eq_true rfl, Nat.le_of_ble_eq_true rfl⟩) hW hS (vBs hi (show k < 4 by omega)) (ce_bs hi (show k < 4 by omega)) rfl rfl rfl rfl hl.1 (Nat.le_of_ble_eq_true rfl) dX0_nextEvent_36 (fun H locs hW hS => ?_)
        refine lv_topi (fun x_4 ex_4 => ?_)
        try rw [← ex_4] at hR
        refine lv_if_eq (tgt := 56) hx hb dX0_nextEvent_39 (by decide) (fun c_5 => ?_) (fun c_5 => ?_)
        · skip
          try rw [if_pos c_5] at hR
          refine lv_iinc (v := nI (k + 1)) (lv' := [(2, .int (nI (k + 1))), (0, .ref (G.2.2.1 i 0)), (1, .int x)]) hx hb dX0_nextEvent_56 hl (k := 1) rfl (nI_1 _) (by decide) rfl (fun ls hl => ?_)
          refine lv_goto (tgt := 21) hx hb dX0_nextEvent_59 (by decide) ?_
          exact ih (k + 1) x (by omega) hR _ _ _ hW hS (lv_sub hl [1, 0, 2] rfl)
        · skip
          try rw [if_neg c_5] at hR
          refine lv_iload_n hx hb dX0_nextEvent_42 rfl (lv_at hl 2 rfl) ?_
          refine lv_aload_n hx hb dX0_nextEvent_43 rfl (lv_at hl 0 rfl) ?_
          refine wr_get hC hinRX0 hW (vB hi (by decide)) (ce_b0 hi) rfl 1 (by decide) hk0 rfl dX0_nextEvent_44 ?_
          refine lv_iload_n hx hb dX0_nextEvent_47 rfl (lv_at hl 1 rfl) ?_
          refine wr_aald (v := .ref (G.2.2.1 i (3 + k))) (kA := 3) hC hW (vB hi (by decide)) (ce_b2 hi) rfl (vp_in_nI (show k < 4 by omega) (by decide)) (by rw [nI_clamp (by omega)]; rfl) dX0_nextEvent_48 ?_
          refine wr_get hC hinRX5 hW (vBs hi (show k < 4 by omega)) (ce_bs hi (show k < 4 by omega)) rfl 7 (by decide) hk1 rfl dX0_nextEvent_49 ?_
          refine va_mmin hx hb (hml.trans hl.1.symm) hC.2.2.1 hk2 hk3 hk4 hk5 (Nat.le_of_ble_eq_true rfl) (Nat.le_of_ble_eq_true rfl) (Nat.zero_le _) (Nat.zero_le _) dX0_nextEvent_52 ?_
          refine lv_topi (fun x_6 ex_6 => ?_)
          try rw [← ex_6] at hR
          refine lv_istore_n (lv' := [(1, .int x_6), (0, .ref (G.2.2.1 i 0)), (2, .int (nI k))]) hx hb dX0_nextEvent_55 rfl hl (by decide) rfl (fun ls hl => ?_)
          refine lv_iinc (v := nI (k + 1)) (lv' := [(2, .int (nI (k + 1))), (1, .int x_6), (0, .ref (G.2.2.1 i 0))]) hx hb dX0_nextEvent_56 hl (k := 2) rfl (nI_1 _) (by decide) rfl (fun ls hl => ?_)
          refine lv_goto (tgt := 21) hx hb dX0_nextEvent_59 (by decide) ?_
          exact ih (k + 1) x_6 (by omega) hR _ _ _ hW hS (lv_sub hl [2, 0, 1] rfl)
  refine lv_aload_n hx hb dX0_nextEvent_0 rfl (lv_at hl 0 rfl) ?_
  refine wr_get hC hinRX0 hW (vB hi (by decide)) (ce_b0 hi) rfl 6 (by decide) hk6 rfl dX0_nextEvent_1 ?_
  refine lv_if_le (tgt := 16) hx hb dX0_nextEvent_4 (by decide) (fun c_7 => ?_) (fun c_7 => ?_)
  · skip
    try rw [if_pos c_7] at hR
    refine lv_ldc (v := 2147483647) hx hb hC.2.2.1 hk7 dX0_nextEvent_16 ?_
    refine lv_istore_n (lv' := [(1, .int 2147483647), (0, .ref (G.2.2.1 i 0))]) hx hb dX0_nextEvent_18 rfl hl (by decide) rfl (fun ls hl => ?_)
    refine lv_iconst (v := 0) hx hb dX0_nextEvent_19 (by decide) ?_
    refine lv_istore_n (lv' := [(2, .int 0), (1, .int 2147483647), (0, .ref (G.2.2.1 i 0))]) hx hb dX0_nextEvent_20 rfl hl (by decide) rfl (fun ls hl => ?_)
    exact hlp_1 4 0 2147483647 rfl hR _ _ _ hW hS (lv_sub hl [2, 0, 1] rfl)
  · skip
    try rw [if_neg c_7] at hR
    refine lv_aload_n hx hb dX0_nextEvent_7 rfl (lv_at hl 0 rfl) ?_
    refine wr_get hC hinRX0 hW (vB hi (by decide)) (ce_b0 hi) rfl 2 (by decide) hk8 rfl dX0_nextEvent_8 ?_
    refine lv_iconst (v := 0) hx hb dX0_nextEvent_11 (by decide) ?_
    refine wr_ald (kA := 0) hC hW (vB hi (by decide)) (ce_bp hi (by decide)) rfl (vp_in_iff.mpr (by decide)) dX0_nextEvent_12 ?_
    refine lv_re (y := B 11 0) ((congrArg (B 11) (show (0 : Int32).toNatClampNeg = 0 by decide))) ?_
    refine lv_goto (tgt := 18) hx hb dX0_nextEvent_13 (by decide) ?_
    refine lv_topi (fun x_8 ex_8 => ?_)
    try rw [← ex_8] at hR
    refine lv_istore_n (lv' := [(1, .int x_8), (0, .ref (G.2.2.1 i 0))]) hx hb dX0_nextEvent_18 rfl hl (by decide) rfl (fun ls hl => ?_)
    refine lv_iconst (v := 0) hx hb dX0_nextEvent_19 (by decide) ?_
    refine lv_istore_n (lv' := [(2, .int 0), (1, .int x_8), (0, .ref (G.2.2.1 i 0))]) hx hb dX0_nextEvent_20 rfl hl (by decide) rfl (fun ls hl => ?_)
    exact hlp_1 4 0 x_8 rfl hR _ _ _ hW hS (lv_sub hl [2, 0, 1] rfl)
def LX0_mov (B : wB) : Nat → Nat → Int32 → Int32
  | 0, _, x => x
  | u + 1, k, x => if fX5_moves k B = 0 then LX0_mov B u (k + 1) x else LX0_mov B u (k + 1) (x ||| (1 <<< ((nI k) &&& 31)))
def fX0_movingSet (B : wB) : Int32 := LX0_mov B 4 0 0
abbrev rX0_movingSet : Room := { frames := 1, cells := 0, slots := 0, locals := 20 }
set_option maxHeartbeats 4000000 in
set_option maxRecDepth 100000 in
theorem kX0_movingSet (l : Launch) (G : wG) (Z : wZ) (i : Nat) (hi : i < 11) (B : wB)   : mI l yX0_movingSet wsX0_movingSet rX0_movingSet G [.ref (G.2.2.1 i 0)] (wset Z i B) (fX0_movingSet B) (wset Z i B) := by
  refine Met.ofW (cc := cX0_movingSet) (maxL := 3) (ret := (some .int)) (by decide) rfl ?_
  intro p e s m args below meth c s₁ B0 hml hv
  obtain ⟨rfl, hW, hK, hL⟩ := hv
  have hlocks := B0.notSynchronized
  have hr := B0.returns
  have hC : wX p s m c cX0_movingSet _ wsX0_movingSet RX0 G := ⟨B0.exec, B0.bytes, findClass_of_methodNamed B0.named, atoms_spec (ws := wsX0_movingSet) B0.pre, hK, hL⟩
  have hx := hC.1
  have hb := hC.2.1
  have hts := hC.2.2.2.1
  have hinRX0 : ∀ w ∈ wsX00, w ∈ wsX0_movingSet := by decide +kernel
  have hk0 := hts (.fieldLink RX0 20 "RampShafts$Bench" "shafts" "[LRampShafts$Shaft;") (by decide +kernel)
  have hS : va_S (wA G) s.heap s.heap [] := va_S.rf
  have hl := lv_entry ([.ref (G.2.2.1 i 0)]) (n := 3) (Nat.le_of_ble_eq_true rfl)
  rw [lg_entry_eq]
  generalize (lg_sl ([.ref (G.2.2.1 i 0)]) ++ List.replicate (3 - (lg_sl ([.ref (G.2.2.1 i 0)])).length) Slot.unset).toArray = ls at hl ⊢
  have hl : lv_has ls 3 [(0, .ref (G.2.2.1 i 0))] := hl
  obtain ⟨R, hR⟩ : ∃ R, R = fX0_movingSet B := ⟨_, rfl⟩
  rw [← hR]
  unfold fX0_movingSet at hR
  have hlp_1 : ∀ (u : Nat) (k : Nat) (x : Int32), (hk : k + u = 4) → R = LX0_mov B u k x → ∀ (H : Heap) (locs : List Loc) (ls : Array Slot), wW G (wset Z i B) H → va_S (wA G) s.heap H locs → lv_has ls 3 [(0, .ref (G.2.2.1 i 0)), (2, .int (nI k)), (1, .int x)] → W p l e (headSpec wsX0_movingSet rX0_movingSet).room s m ([.ref (G.2.2.1 i 0)] : List Value).toArray below meth c H locs 0 0 (qI below ([.ref (G.2.2.1 i 0)] : List Value).toArray s G R (wset Z i B)) (F0 m 4 ls []) := by
    intro u
    induction u with
    | zero =>
      intro k x hk hR H locs ls hW hS hl
      have hk4 : k = 4 := by omega
      simp only [LX0_mov] at hR
      refine lv_iload_n hx hb dX0_movingSet_4 rfl (lv_at hl 1 rfl) ?_
      refine lv_aload_n hx hb dX0_movingSet_5 rfl (lv_at hl 0 rfl) ?_
      refine wr_get hC hinRX0 hW (vB hi (by decide)) (ce_b0 hi) rfl 1 (by decide) hk0 rfl dX0_movingSet_6 ?_
      refine wr_alen (v := 4) hC hW (vB hi (by decide)) (ce_b2 hi) (ty := .object _) rfl rfl dX0_movingSet_9 ?_
      refine lv_icmp_ge (tgt := 37) hx hb dX0_movingSet_10 (by decide) (fun c_2 => ?_) (fun c_2 => ?_)
      · skip
        refine lv_iload_n hx hb dX0_movingSet_37 rfl (lv_at hl 2 rfl) ?_
        exact we_i hC hr hlocks (v := x) (hR.symm) rfl hW hS dX0_movingSet_38
      · exact absurd ((nI_leI (a := 4) (by decide) (by omega)).mpr (by omega)) c_2
    | succ u ih =>
      intro k x hk hR H locs ls hW hS hl
      simp only [LX0_mov] at hR
      refine lv_iload_n hx hb dX0_movingSet_4 rfl (lv_at hl 1 rfl) ?_
      refine lv_aload_n hx hb dX0_movingSet_5 rfl (lv_at hl 0 rfl) ?_
      refine wr_get hC hinRX0 hW (vB hi (by decide)) (ce_b0 hi) rfl 1 (by decide) hk0 rfl dX0_movingSet_6 ?_
      refine wr_alen (v := 4) hC hW (vB hi (by decide)) (ce_b2 hi) (ty := .object _) rfl rfl dX0_movingSet_9 ?_
      refine lv_icmp_ge (tgt := 37) hx hb dX0_movingSet_10 (by decide) (fun c_3 => ?_) (fun c_3 => ?_)
      · exact absurd ((nI_leI (a := 4) (by decide) (by omega)).mp c_3) (by omega)
      · skip
        refine lv_aload_n hx hb dX0_movingSet_13 rfl (lv_at hl 0 rfl) ?_
        refine wr_get hC hinRX0 hW (vB hi (by decide)) (ce_b0 hi) rfl 1 (by decide) hk0 rfl dX0_movingSet_14 ?_
        refine lv_iload_n hx hb dX0_movingSet_17 rfl (lv_at hl 1 rfl) ?_
        refine wr_aald (v := .ref (G.2.2.1 i (3 + k))) (kA := 3) hC hW (vB hi (by decide)) (ce_b2 hi) rfl (vp_in_nI (show k < 4 by omega) (by decide)) (by rw [nI_clamp (by omega)]; rfl) dX0_movingSet_18 ?_
        refine wc_i hC hml (kX5_moves l G Z i hi k (show k < 4 by omega) B) (cwV 0 hts gX0_movingSet_X5_moves rfl rfl rfl (by decide +kernel) ⟨Nat.le_of_ble_eq_true rfl, Nat.le_of_ble_eq_true rfl⟩) hW hS (vBs hi (show k < 4 by omega)) (ce_bs hi (show k < 4 by omega)) rfl rfl rfl rfl hl.1 (Nat.le_of_ble_eq_true rfl) dX0_movingSet_19 (fun H locs hW hS => ?_)
        refine lv_topi (fun x_4 ex_4 => ?_)
        try rw [← ex_4] at hR
        refine lv_if_eq (tgt := 31) hx hb dX0_movingSet_22 (by decide) (fun c_5 => ?_) (fun c_5 => ?_)
        · skip
          try rw [if_pos c_5] at hR
          refine lv_iinc (v := nI (k + 1)) (lv' := [(2, .int (nI (k + 1))), (0, .ref (G.2.2.1 i 0)), (1, .int x)]) hx hb dX0_movingSet_31 hl (k := 1) rfl (nI_1 _) (by decide) rfl (fun ls hl => ?_)
          refine lv_goto (tgt := 4) hx hb dX0_movingSet_34 (by decide) ?_
          exact ih (k + 1) x (by omega) hR _ _ _ hW hS (lv_sub hl [1, 0, 2] rfl)
        · skip
          try rw [if_neg c_5] at hR
          refine lv_iload_n hx hb dX0_movingSet_25 rfl (lv_at hl 2 rfl) ?_
          refine lv_iconst (v := 1) hx hb dX0_movingSet_26 (by decide) ?_
          refine lv_iload_n hx hb dX0_movingSet_27 rfl (lv_at hl 1 rfl) ?_
          refine lv_ishl hx hb dX0_movingSet_28 ?_
          refine lv_ior hx hb dX0_movingSet_29 ?_
          refine lv_topi (fun x_6 ex_6 => ?_)
          try rw [← ex_6] at hR
          refine lv_istore_n (lv' := [(1, .int x_6), (0, .ref (G.2.2.1 i 0)), (2, .int (nI k))]) hx hb dX0_movingSet_30 rfl hl (by decide) rfl (fun ls hl => ?_)
          refine lv_iinc (v := nI (k + 1)) (lv' := [(2, .int (nI (k + 1))), (1, .int x_6), (0, .ref (G.2.2.1 i 0))]) hx hb dX0_movingSet_31 hl (k := 2) rfl (nI_1 _) (by decide) rfl (fun ls hl => ?_)
          refine lv_goto (tgt := 4) hx hb dX0_movingSet_34 (by decide) ?_
          exact ih (k + 1) x_6 (by omega) hR _ _ _ hW hS (lv_sub hl [2, 0, 1] rfl)
  refine lv_iconst (v := 0) hx hb dX0_movingSet_0 (by decide) ?_
  refine lv_istore_n (lv' := [(1, .int 0), (0, .ref (G.2.2.1 i 0))]) hx hb dX0_movingSet_1 rfl hl (by decide) rfl (fun ls hl => ?_)
  refine lv_iconst (v := 0) hx hb dX0_movingSet_2 (by decide) ?_
  refine lv_istore_n (lv' := [(2, .int 0), (1, .int 0), (0, .ref (G.2.2.1 i 0))]) hx hb dX0_movingSet_3 rfl hl (by decide) rfl (fun ls hl => ?_)
  exact hlp_1 4 0 0 rfl hR _ _ _ hW hS (lv_sub hl [2, 0, 1] rfl)
def LX0_dis (B : wB) : Nat → Nat → Int32 → Int32
  | 0, _, x => x
  | u + 1, k, x => if B (3 + k) 2 = B (3 + k) 3 then LX0_dis B u (k + 1) x else LX0_dis B u (k + 1) (x ||| (1 <<< ((nI k) &&& 31)))
def fX0_displacedSet (B : wB) : Int32 := LX0_dis B 4 0 0
abbrev rX0_displacedSet : Room := { frames := 0, cells := 0, slots := 0, locals := 0 }
set_option maxHeartbeats 4000000 in
set_option maxRecDepth 100000 in
theorem kX0_displacedSet (l : Launch) (G : wG) (Z : wZ) (i : Nat) (hi : i < 11) (B : wB)   : mI l yX0_displacedSet wsX0_displacedSet rX0_displacedSet G [.ref (G.2.2.1 i 0)] (wset Z i B) (fX0_displacedSet B) (wset Z i B) := by
  refine Met.ofW (cc := cX0_displacedSet) (maxL := 3) (ret := (some .int)) (by decide) rfl ?_
  intro p e s m args below meth c s₁ B0 hml hv
  obtain ⟨rfl, hW, hK, hL⟩ := hv
  have hlocks := B0.notSynchronized
  have hr := B0.returns
  have hC : wX p s m c cX0_displacedSet _ wsX0_displacedSet RX0 G := ⟨B0.exec, B0.bytes, findClass_of_methodNamed B0.named, atoms_spec (ws := wsX0_displacedSet) B0.pre, hK, hL⟩
  have hx := hC.1
  have hb := hC.2.1
  have hts := hC.2.2.2.1
  have hinRX0 : ∀ w ∈ wsX00, w ∈ wsX0_displacedSet := by decide +kernel
  have hinRX5 : ∀ w ∈ wsX50, w ∈ wsX0_displacedSet := by decide +kernel
  have hk0 := hts (.fieldLink RX0 20 "RampShafts$Bench" "shafts" "[LRampShafts$Shaft;") (by decide +kernel)
  have hk1 := hts (.fieldLink RX0 90 "RampShafts$Shaft" "says" "I") (by decide +kernel)
  have hk2 := hts (.fieldLink RX0 93 "RampShafts$Shaft" "stands" "I") (by decide +kernel)
  have hS : va_S (wA G) s.heap s.heap [] := va_S.rf
  have hl := lv_entry ([.ref (G.2.2.1 i 0)]) (n := 3) (Nat.le_of_ble_eq_true rfl)
  rw [lg_entry_eq]
  generalize (lg_sl ([.ref (G.2.2.1 i 0)]) ++ List.replicate (3 - (lg_sl ([.ref (G.2.2.1 i 0)])).length) Slot.unset).toArray = ls at hl ⊢
  have hl : lv_has ls 3 [(0, .ref (G.2.2.1 i 0))] := hl
  obtain ⟨R, hR⟩ : ∃ R, R = fX0_displacedSet B := ⟨_, rfl⟩
  rw [← hR]
  unfold fX0_displacedSet at hR
  have hlp_1 : ∀ (u : Nat) (k : Nat) (x : Int32), (hk : k + u = 4) → R = LX0_dis B u k x → ∀ (H : Heap) (locs : List Loc) (ls : Array Slot), wW G (wset Z i B) H → va_S (wA G) s.heap H locs → lv_has ls 3 [(0, .ref (G.2.2.1 i 0)), (2, .int (nI k)), (1, .int x)] → W p l e (headSpec wsX0_displacedSet rX0_displacedSet).room s m ([.ref (G.2.2.1 i 0)] : List Value).toArray below meth c H locs 0 0 (qI below ([.ref (G.2.2.1 i 0)] : List Value).toArray s G R (wset Z i B)) (F0 m 4 ls []) := by
    intro u
    induction u with
    | zero =>
      intro k x hk hR H locs ls hW hS hl
      have hk4 : k = 4 := by omega
      simp only [LX0_dis] at hR
      refine lv_iload_n hx hb dX0_displacedSet_4 rfl (lv_at hl 1 rfl) ?_
      refine lv_aload_n hx hb dX0_displacedSet_5 rfl (lv_at hl 0 rfl) ?_
      refine wr_get hC hinRX0 hW (vB hi (by decide)) (ce_b0 hi) rfl 1 (by decide) hk0 rfl dX0_displacedSet_6 ?_
      refine wr_alen (v := 4) hC hW (vB hi (by decide)) (ce_b2 hi) (ty := .object _) rfl rfl dX0_displacedSet_9 ?_
      refine lv_icmp_ge (tgt := 46) hx hb dX0_displacedSet_10 (by decide) (fun c_2 => ?_) (fun c_2 => ?_)
      · skip
        refine lv_iload_n hx hb dX0_displacedSet_46 rfl (lv_at hl 2 rfl) ?_
        exact we_i hC hr hlocks (v := x) (hR.symm) rfl hW hS dX0_displacedSet_47
      · exact absurd ((nI_leI (a := 4) (by decide) (by omega)).mpr (by omega)) c_2
    | succ u ih =>
      intro k x hk hR H locs ls hW hS hl
      simp only [LX0_dis] at hR
      refine lv_iload_n hx hb dX0_displacedSet_4 rfl (lv_at hl 1 rfl) ?_
      refine lv_aload_n hx hb dX0_displacedSet_5 rfl (lv_at hl 0 rfl) ?_
      refine wr_get hC hinRX0 hW (vB hi (by decide)) (ce_b0 hi) rfl 1 (by decide) hk0 rfl dX0_displacedSet_6 ?_
      refine wr_alen (v := 4) hC hW (vB hi (by decide)) (ce_b2 hi) (ty := .object _) rfl rfl dX0_displacedSet_9 ?_
      refine lv_icmp_ge (tgt := 46) hx hb dX0_displacedSet_10 (by decide) (fun c_3 => ?_) (fun c_3 => ?_)
      · exact absurd ((nI_leI (a := 4) (by decide) (by omega)).mp c_3) (by omega)
      · skip
        refine lv_aload_n hx hb dX0_displacedSet_13 rfl (lv_at hl 0 rfl) ?_
        refine wr_get hC hinRX0 hW (vB hi (by decide)) (ce_b0 hi) rfl 1 (by decide) hk0 rfl dX0_displacedSet_14 ?_
        refine lv_iload_n hx hb dX0_displacedSet_17 rfl (lv_at hl 1 rfl) ?_
        refine wr_aald (v := .ref (G.2.2.1 i (3 + k))) (kA := 3) hC hW (vB hi (by decide)) (ce_b2 hi) rfl (vp_in_nI (show k < 4 by omega) (by decide)) (by rw [nI_clamp (by omega)]; rfl) dX0_displacedSet_18 ?_
        refine wr_get hC hinRX5 hW (vBs hi (show k < 4 by omega)) (ce_bs hi (show k < 4 by omega)) rfl 2 (by decide) hk1 rfl dX0_displacedSet_19 ?_
        refine lv_aload_n hx hb dX0_displacedSet_22 rfl (lv_at hl 0 rfl) ?_
        refine wr_get hC hinRX0 hW (vB hi (by decide)) (ce_b0 hi) rfl 1 (by decide) hk0 rfl dX0_displacedSet_23 ?_
        refine lv_iload_n hx hb dX0_displacedSet_26 rfl (lv_at hl 1 rfl) ?_
        refine wr_aald (v := .ref (G.2.2.1 i (3 + k))) (kA := 3) hC hW (vB hi (by decide)) (ce_b2 hi) rfl (vp_in_nI (show k < 4 by omega) (by decide)) (by rw [nI_clamp (by omega)]; rfl) dX0_displacedSet_27 ?_
        refine wr_get hC hinRX5 hW (vBs hi (show k < 4 by omega)) (ce_bs hi (show k < 4 by omega)) rfl 3 (by decide) hk2 rfl dX0_displacedSet_28 ?_
        refine lv_icmp_eq (tgt := 40) hx hb dX0_displacedSet_31 (by decide) (fun c_4 => ?_) (fun c_4 => ?_)
        · skip
          try rw [if_pos c_4] at hR
          refine lv_iinc (v := nI (k + 1)) (lv' := [(2, .int (nI (k + 1))), (0, .ref (G.2.2.1 i 0)), (1, .int x)]) hx hb dX0_displacedSet_40 hl (k := 1) rfl (nI_1 _) (by decide) rfl (fun ls hl => ?_)
          refine lv_goto (tgt := 4) hx hb dX0_displacedSet_43 (by decide) ?_
          exact ih (k + 1) x (by omega) hR _ _ _ hW hS (lv_sub hl [1, 0, 2] rfl)
        · skip
          try rw [if_neg c_4] at hR
          refine lv_iload_n hx hb dX0_displacedSet_34 rfl (lv_at hl 2 rfl) ?_
          refine lv_iconst (v := 1) hx hb dX0_displacedSet_35 (by decide) ?_
          refine lv_iload_n hx hb dX0_displacedSet_36 rfl (lv_at hl 1 rfl) ?_
          refine lv_ishl hx hb dX0_displacedSet_37 ?_
          refine lv_ior hx hb dX0_displacedSet_38 ?_
          refine lv_topi (fun x_5 ex_5 => ?_)
          try rw [← ex_5] at hR
          refine lv_istore_n (lv' := [(1, .int x_5), (0, .ref (G.2.2.1 i 0)), (2, .int (nI k))]) hx hb dX0_displacedSet_39 rfl hl (by decide) rfl (fun ls hl => ?_)
          refine lv_iinc (v := nI (k + 1)) (lv' := [(2, .int (nI (k + 1))), (1, .int x_5), (0, .ref (G.2.2.1 i 0))]) hx hb dX0_displacedSet_40 hl (k := 2) rfl (nI_1 _) (by decide) rfl (fun ls hl => ?_)
          refine lv_goto (tgt := 4) hx hb dX0_displacedSet_43 (by decide) ?_
          exact ih (k + 1) x_5 (by omega) hR _ _ _ hW hS (lv_sub hl [2, 0, 1] rfl)
  refine lv_iconst (v := 0) hx hb dX0_displacedSet_0 (by decide) ?_
  refine lv_istore_n (lv' := [(1, .int 0), (0, .ref (G.2.2.1 i 0))]) hx hb dX0_displacedSet_1 rfl hl (by decide) rfl (fun ls hl => ?_)
  refine lv_iconst (v := 0) hx hb dX0_displacedSet_2 (by decide) ?_
  refine lv_istore_n (lv' := [(2, .int 0), (1, .int 0), (0, .ref (G.2.2.1 i 0))]) hx hb dX0_displacedSet_3 rfl hl (by decide) rfl (fun ls hl => ?_)
  exact hlp_1 4 0 0 rfl hR _ _ _ hW hS (lv_sub hl [2, 0, 1] rfl)
def LX0_ssf (B : wB) : Nat → Nat → Int32 → Int32
  | 0, _, x => x
  | u + 1, k, x => LX0_ssf B u (k + 1) (x + B (3 + k) 8)
def fX0_stepsSoFar (B : wB) : Int32 := LX0_ssf B 4 0 0
abbrev rX0_stepsSoFar : Room := { frames := 0, cells := 0, slots := 0, locals := 0 }
set_option maxHeartbeats 4000000 in
set_option maxRecDepth 100000 in
theorem kX0_stepsSoFar (l : Launch) (G : wG) (Z : wZ) (i : Nat) (hi : i < 11) (B : wB)   : mI l yX0_stepsSoFar wsX0_stepsSoFar rX0_stepsSoFar G [.ref (G.2.2.1 i 0)] (wset Z i B) (fX0_stepsSoFar B) (wset Z i B) := by
  refine Met.ofW (cc := cX0_stepsSoFar) (maxL := 3) (ret := (some .int)) (by decide) rfl ?_
  intro p e s m args below meth c s₁ B0 hml hv
  obtain ⟨rfl, hW, hK, hL⟩ := hv
  have hlocks := B0.notSynchronized
  have hr := B0.returns
  have hC : wX p s m c cX0_stepsSoFar _ wsX0_stepsSoFar RX0 G := ⟨B0.exec, B0.bytes, findClass_of_methodNamed B0.named, atoms_spec (ws := wsX0_stepsSoFar) B0.pre, hK, hL⟩
  have hx := hC.1
  have hb := hC.2.1
  have hts := hC.2.2.2.1
  have hinRX0 : ∀ w ∈ wsX00, w ∈ wsX0_stepsSoFar := by decide +kernel
  have hinRX5 : ∀ w ∈ wsX50, w ∈ wsX0_stepsSoFar := by decide +kernel
  have hk0 := hts (.fieldLink RX0 20 "RampShafts$Bench" "shafts" "[LRampShafts$Shaft;") (by decide +kernel)
  have hk1 := hts (.fieldLink RX0 132 "RampShafts$Shaft" "steps" "I") (by decide +kernel)
  have hS : va_S (wA G) s.heap s.heap [] := va_S.rf
  have hl := lv_entry ([.ref (G.2.2.1 i 0)]) (n := 3) (Nat.le_of_ble_eq_true rfl)
  rw [lg_entry_eq]
  generalize (lg_sl ([.ref (G.2.2.1 i 0)]) ++ List.replicate (3 - (lg_sl ([.ref (G.2.2.1 i 0)])).length) Slot.unset).toArray = ls at hl ⊢
  have hl : lv_has ls 3 [(0, .ref (G.2.2.1 i 0))] := hl
  obtain ⟨R, hR⟩ : ∃ R, R = fX0_stepsSoFar B := ⟨_, rfl⟩
  rw [← hR]
  unfold fX0_stepsSoFar at hR
  have hlp_1 : ∀ (u : Nat) (k : Nat) (x : Int32), (hk : k + u = 4) → R = LX0_ssf B u k x → ∀ (H : Heap) (locs : List Loc) (ls : Array Slot), wW G (wset Z i B) H → va_S (wA G) s.heap H locs → lv_has ls 3 [(0, .ref (G.2.2.1 i 0)), (2, .int (nI k)), (1, .int x)] → W p l e (headSpec wsX0_stepsSoFar rX0_stepsSoFar).room s m ([.ref (G.2.2.1 i 0)] : List Value).toArray below meth c H locs 0 0 (qI below ([.ref (G.2.2.1 i 0)] : List Value).toArray s G R (wset Z i B)) (F0 m 4 ls []) := by
    intro u
    induction u with
    | zero =>
      intro k x hk hR H locs ls hW hS hl
      have hk4 : k = 4 := by omega
      simp only [LX0_ssf] at hR
      refine lv_iload_n hx hb dX0_stepsSoFar_4 rfl (lv_at hl 1 rfl) ?_
      refine lv_aload_n hx hb dX0_stepsSoFar_5 rfl (lv_at hl 0 rfl) ?_
      refine wr_get hC hinRX0 hW (vB hi (by decide)) (ce_b0 hi) rfl 1 (by decide) hk0 rfl dX0_stepsSoFar_6 ?_
      refine wr_alen (v := 4) hC hW (vB hi (by decide)) (ce_b2 hi) (ty := .object _) rfl rfl dX0_stepsSoFar_9 ?_
      refine lv_icmp_ge (tgt := 31) hx hb dX0_stepsSoFar_10 (by decide) (fun c_2 => ?_) (fun c_2 => ?_)
      · skip
        refine lv_iload_n hx hb dX0_stepsSoFar_31 rfl (lv_at hl 2 rfl) ?_
        exact we_i hC hr hlocks (v := x) (hR.symm) rfl hW hS dX0_stepsSoFar_32
      · exact absurd ((nI_leI (a := 4) (by decide) (by omega)).mpr (by omega)) c_2
    | succ u ih =>
      intro k x hk hR H locs ls hW hS hl
      simp only [LX0_ssf] at hR
      refine lv_iload_n hx hb dX0_stepsSoFar_4 rfl (lv_at hl 1 rfl) ?_
      refine lv_aload_n hx hb dX0_stepsSoFar_5 rfl (lv_at hl 0 rfl) ?_
      refine wr_get hC hinRX0 hW (vB hi (by decide)) (ce_b0 hi) rfl 1 (by decide) hk0 rfl dX0_stepsSoFar_6 ?_
      refine wr_alen (v := 4) hC hW (vB hi (by decide)) (ce_b2 hi) (ty := .object _) rfl rfl dX0_stepsSoFar_9 ?_
      refine lv_icmp_ge (tgt := 31) hx hb dX0_stepsSoFar_10 (by decide) (fun c_3 => ?_) (fun c_3 => ?_)
      · exact absurd ((nI_leI (a := 4) (by decide) (by omega)).mp c_3) (by omega)
      · skip
        refine lv_iload_n hx hb dX0_stepsSoFar_13 rfl (lv_at hl 2 rfl) ?_
        refine lv_aload_n hx hb dX0_stepsSoFar_14 rfl (lv_at hl 0 rfl) ?_
        refine wr_get hC hinRX0 hW (vB hi (by decide)) (ce_b0 hi) rfl 1 (by decide) hk0 rfl dX0_stepsSoFar_15 ?_
        refine lv_iload_n hx hb dX0_stepsSoFar_18 rfl (lv_at hl 1 rfl) ?_
        refine wr_aald (v := .ref (G.2.2.1 i (3 + k))) (kA := 3) hC hW (vB hi (by decide)) (ce_b2 hi) rfl (vp_in_nI (show k < 4 by omega) (by decide)) (by rw [nI_clamp (by omega)]; rfl) dX0_stepsSoFar_19 ?_
        refine wr_get hC hinRX5 hW (vBs hi (show k < 4 by omega)) (ce_bs hi (show k < 4 by omega)) rfl 8 (by decide) hk1 rfl dX0_stepsSoFar_20 ?_
        refine lv_iadd hx hb dX0_stepsSoFar_23 ?_
        refine lv_topi (fun x_4 ex_4 => ?_)
        try rw [← ex_4] at hR
        refine lv_istore_n (lv' := [(1, .int x_4), (0, .ref (G.2.2.1 i 0)), (2, .int (nI k))]) hx hb dX0_stepsSoFar_24 rfl hl (by decide) rfl (fun ls hl => ?_)
        refine lv_iinc (v := nI (k + 1)) (lv' := [(2, .int (nI (k + 1))), (1, .int x_4), (0, .ref (G.2.2.1 i 0))]) hx hb dX0_stepsSoFar_25 hl (k := 2) rfl (nI_1 _) (by decide) rfl (fun ls hl => ?_)
        refine lv_goto (tgt := 4) hx hb dX0_stepsSoFar_28 (by decide) ?_
        exact ih (k + 1) x_4 (by omega) hR _ _ _ hW hS (lv_sub hl [2, 0, 1] rfl)
  refine lv_iconst (v := 0) hx hb dX0_stepsSoFar_0 (by decide) ?_
  refine lv_istore_n (lv' := [(1, .int 0), (0, .ref (G.2.2.1 i 0))]) hx hb dX0_stepsSoFar_1 rfl hl (by decide) rfl (fun ls hl => ?_)
  refine lv_iconst (v := 0) hx hb dX0_stepsSoFar_2 (by decide) ?_
  refine lv_istore_n (lv' := [(2, .int 0), (1, .int 0), (0, .ref (G.2.2.1 i 0))]) hx hb dX0_stepsSoFar_3 rfl hl (by decide) rfl (fun ls hl => ?_)
  exact hlp_1 4 0 0 rfl hR _ _ _ hW hS (lv_sub hl [2, 0, 1] rfl)
def LX0_lsf (B : wB) : Nat → Nat → Int32 → Int32
  | 0, _, x => x
  | u + 1, k, x => LX0_lsf B u (k + 1) (x + B (3 + k) 9)
def fX0_lostSoFar (B : wB) : Int32 := LX0_lsf B 4 0 0
abbrev rX0_lostSoFar : Room := { frames := 0, cells := 0, slots := 0, locals := 0 }
set_option maxHeartbeats 4000000 in
set_option maxRecDepth 100000 in
theorem kX0_lostSoFar (l : Launch) (G : wG) (Z : wZ) (i : Nat) (hi : i < 11) (B : wB)   : mI l yX0_lostSoFar wsX0_lostSoFar rX0_lostSoFar G [.ref (G.2.2.1 i 0)] (wset Z i B) (fX0_lostSoFar B) (wset Z i B) := by
  refine Met.ofW (cc := cX0_lostSoFar) (maxL := 3) (ret := (some .int)) (by decide) rfl ?_
  intro p e s m args below meth c s₁ B0 hml hv
  obtain ⟨rfl, hW, hK, hL⟩ := hv
  have hlocks := B0.notSynchronized
  have hr := B0.returns
  have hC : wX p s m c cX0_lostSoFar _ wsX0_lostSoFar RX0 G := ⟨B0.exec, B0.bytes, findClass_of_methodNamed B0.named, atoms_spec (ws := wsX0_lostSoFar) B0.pre, hK, hL⟩
  have hx := hC.1
  have hb := hC.2.1
  have hts := hC.2.2.2.1
  have hinRX0 : ∀ w ∈ wsX00, w ∈ wsX0_lostSoFar := by decide +kernel
  have hinRX5 : ∀ w ∈ wsX50, w ∈ wsX0_lostSoFar := by decide +kernel
  have hk0 := hts (.fieldLink RX0 20 "RampShafts$Bench" "shafts" "[LRampShafts$Shaft;") (by decide +kernel)
  have hk1 := hts (.fieldLink RX0 135 "RampShafts$Shaft" "lost" "I") (by decide +kernel)
  have hS : va_S (wA G) s.heap s.heap [] := va_S.rf
  have hl := lv_entry ([.ref (G.2.2.1 i 0)]) (n := 3) (Nat.le_of_ble_eq_true rfl)
  rw [lg_entry_eq]
  generalize (lg_sl ([.ref (G.2.2.1 i 0)]) ++ List.replicate (3 - (lg_sl ([.ref (G.2.2.1 i 0)])).length) Slot.unset).toArray = ls at hl ⊢
  have hl : lv_has ls 3 [(0, .ref (G.2.2.1 i 0))] := hl
  obtain ⟨R, hR⟩ : ∃ R, R = fX0_lostSoFar B := ⟨_, rfl⟩
  rw [← hR]
  unfold fX0_lostSoFar at hR
  have hlp_1 : ∀ (u : Nat) (k : Nat) (x : Int32), (hk : k + u = 4) → R = LX0_lsf B u k x → ∀ (H : Heap) (locs : List Loc) (ls : Array Slot), wW G (wset Z i B) H → va_S (wA G) s.heap H locs → lv_has ls 3 [(0, .ref (G.2.2.1 i 0)), (2, .int (nI k)), (1, .int x)] → W p l e (headSpec wsX0_lostSoFar rX0_lostSoFar).room s m ([.ref (G.2.2.1 i 0)] : List Value).toArray below meth c H locs 0 0 (qI below ([.ref (G.2.2.1 i 0)] : List Value).toArray s G R (wset Z i B)) (F0 m 4 ls []) := by
    intro u
    induction u with
    | zero =>
      intro k x hk hR H locs ls hW hS hl
      have hk4 : k = 4 := by omega
      simp only [LX0_lsf] at hR
      refine lv_iload_n hx hb dX0_lostSoFar_4 rfl (lv_at hl 1 rfl) ?_
      refine lv_aload_n hx hb dX0_lostSoFar_5 rfl (lv_at hl 0 rfl) ?_
      refine wr_get hC hinRX0 hW (vB hi (by decide)) (ce_b0 hi) rfl 1 (by decide) hk0 rfl dX0_lostSoFar_6 ?_
      refine wr_alen (v := 4) hC hW (vB hi (by decide)) (ce_b2 hi) (ty := .object _) rfl rfl dX0_lostSoFar_9 ?_
      refine lv_icmp_ge (tgt := 31) hx hb dX0_lostSoFar_10 (by decide) (fun c_2 => ?_) (fun c_2 => ?_)
      · skip
        refine lv_iload_n hx hb dX0_lostSoFar_31 rfl (lv_at hl 2 rfl) ?_
        exact we_i hC hr hlocks (v := x) (hR.symm) rfl hW hS dX0_lostSoFar_32
      · exact absurd ((nI_leI (a := 4) (by decide) (by omega)).mpr (by omega)) c_2
    | succ u ih =>
      intro k x hk hR H locs ls hW hS hl
      simp only [LX0_lsf] at hR
      refine lv_iload_n hx hb dX0_lostSoFar_4 rfl (lv_at hl 1 rfl) ?_
      refine lv_aload_n hx hb dX0_lostSoFar_5 rfl (lv_at hl 0 rfl) ?_
      refine wr_get hC hinRX0 hW (vB hi (by decide)) (ce_b0 hi) rfl 1 (by decide) hk0 rfl dX0_lostSoFar_6 ?_
      refine wr_alen (v := 4) hC hW (vB hi (by decide)) (ce_b2 hi) (ty := .object _) rfl rfl dX0_lostSoFar_9 ?_
      refine lv_icmp_ge (tgt := 31) hx hb dX0_lostSoFar_10 (by decide) (fun c_3 => ?_) (fun c_3 => ?_)
      · exact absurd ((nI_leI (a := 4) (by decide) (by omega)).mp c_3) (by omega)
      · skip
        refine lv_iload_n hx hb dX0_lostSoFar_13 rfl (lv_at hl 2 rfl) ?_
        refine lv_aload_n hx hb dX0_lostSoFar_14 rfl (lv_at hl 0 rfl) ?_
        refine wr_get hC hinRX0 hW (vB hi (by decide)) (ce_b0 hi) rfl 1 (by decide) hk0 rfl dX0_lostSoFar_15 ?_
        refine lv_iload_n hx hb dX0_lostSoFar_18 rfl (lv_at hl 1 rfl) ?_
        refine wr_aald (v := .ref (G.2.2.1 i (3 + k))) (kA := 3) hC hW (vB hi (by decide)) (ce_b2 hi) rfl (vp_in_nI (show k < 4 by omega) (by decide)) (by rw [nI_clamp (by omega)]; rfl) dX0_lostSoFar_19 ?_
        refine wr_get hC hinRX5 hW (vBs hi (show k < 4 by omega)) (ce_bs hi (show k < 4 by omega)) rfl 9 (by decide) hk1 rfl dX0_lostSoFar_20 ?_
        refine lv_iadd hx hb dX0_lostSoFar_23 ?_
        refine lv_topi (fun x_4 ex_4 => ?_)
        try rw [← ex_4] at hR
        refine lv_istore_n (lv' := [(1, .int x_4), (0, .ref (G.2.2.1 i 0)), (2, .int (nI k))]) hx hb dX0_lostSoFar_24 rfl hl (by decide) rfl (fun ls hl => ?_)
        refine lv_iinc (v := nI (k + 1)) (lv' := [(2, .int (nI (k + 1))), (1, .int x_4), (0, .ref (G.2.2.1 i 0))]) hx hb dX0_lostSoFar_25 hl (k := 2) rfl (nI_1 _) (by decide) rfl (fun ls hl => ?_)
        refine lv_goto (tgt := 4) hx hb dX0_lostSoFar_28 (by decide) ?_
        exact ih (k + 1) x_4 (by omega) hR _ _ _ hW hS (lv_sub hl [2, 0, 1] rfl)
  refine lv_iconst (v := 0) hx hb dX0_lostSoFar_0 (by decide) ?_
  refine lv_istore_n (lv' := [(1, .int 0), (0, .ref (G.2.2.1 i 0))]) hx hb dX0_lostSoFar_1 rfl hl (by decide) rfl (fun ls hl => ?_)
  refine lv_iconst (v := 0) hx hb dX0_lostSoFar_2 (by decide) ?_
  refine lv_istore_n (lv' := [(2, .int 0), (1, .int 0), (0, .ref (G.2.2.1 i 0))]) hx hb dX0_lostSoFar_3 rfl hl (by decide) rfl (fun ls hl => ?_)
  exact hlp_1 4 0 0 rfl hR _ _ _ hW hS (lv_sub hl [2, 0, 1] rfl)

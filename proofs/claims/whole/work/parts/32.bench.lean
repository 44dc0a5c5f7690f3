theorem copyPlan_off {B : wB} {a b : Int32} {j q : Nat} (h : j < 11) : fX0_copyPlan B a b j q = B j q := by
  simp only [fX0_copyPlan]
  repeat' split
  all_goals first | rfl | (rw [bput_j (by omega), bput_j (by omega), bput_j (by omega)])
theorem begin_off {n : Nat} {B : wB} {a b : Int32} {j q : Nat} (h : j ≠ 3 + n) : fX5_begin n B a b j q = B j q := by
  simp only [fX5_begin]
  repeat' split
  all_goals rw [bput_j h, bput_j h, bput_j h, bput_j h]
theorem bow_off {n : Nat} {B : wB} {a b : Int32} {j q : Nat} (h : j ≠ 3 + n) (h2 : j ≠ 7 + n) : fX5_beginOrWait n B a b j q = B j q := by
  simp only [fX5_beginOrWait]
  split
  · exact begin_off h
  · split
    · rfl
    · rw [bput_j h, bput_j h2]
def LX0_make : Nat → Nat → wB → Int32 → wB × Int32
  | 0, _, B, x => (B, x)
  | u + 1, k, B, x => if fX0_isDue B (nI k) = 0 then LX0_make u (k + 1) B x else LX0_make u (k + 1) (fX5_beginWaiting k (fX5_makeStep k B (B 0 2)) ((fX5_makeStep k B (B 0 2)) 0 2)) (x + 1)
def fX0_makeSteps (B : wB) : wB × Int32 := LX0_make 4 0 B 0
abbrev rX0_makeSteps : Room := { frames := 3, cells := 0, slots := 0, locals := 71 }
set_option maxHeartbeats 4000000 in
set_option maxRecDepth 100000 in
theorem kX0_makeSteps (l : Launch) (G : wG) (Z : wZ) (i : Nat) (hi : i < 11) (B : wB)   : mI l yX0_makeSteps wsX0_makeSteps rX0_makeSteps G [.ref (G.2.2.1 i 0)] (wset Z i B) (fX0_makeSteps B).2 (wset Z i (fX0_makeSteps B).1) := by
  refine Met.ofW (cc := cX0_makeSteps) (maxL := 3) (ret := (some .int)) (by decide) rfl ?_
  intro p e s m args below meth c s₁ B0 hml hv
  obtain ⟨rfl, hW, hK, hL⟩ := hv
  have hlocks := B0.notSynchronized
  have hr := B0.returns
  have hC : wX p s m c cX0_makeSteps _ wsX0_makeSteps RX0 G := ⟨B0.exec, B0.bytes, findClass_of_methodNamed B0.named, atoms_spec (ws := wsX0_makeSteps) B0.pre, hK, hL⟩
  have hx := hC.1
  have hb := hC.2.1
  have hts := hC.2.2.2.1
  have hinRX0 : ∀ w ∈ wsX00, w ∈ wsX0_makeSteps := by decide +kernel
  have hk0 := hts (.fieldLink RX0 20 "RampShafts$Bench" "shafts" "[LRampShafts$Shaft;") (by decide +kernel)
  have hk1 := hts (.fieldLink RX0 49 "RampShafts$Bench" "time" "I") (by decide +kernel)
  have hk2 := hts (.fieldLink RX0 12 "RampShafts$Bench" "ramp" "LRampShafts$Ramp;") (by decide +kernel)
  have hS : va_S (wA G) s.heap s.heap [] := va_S.rf
  have hl := lv_entry ([.ref (G.2.2.1 i 0)]) (n := 3) (Nat.le_of_ble_eq_true rfl)
  rw [lg_entry_eq]
  generalize (lg_sl ([.ref (G.2.2.1 i 0)]) ++ List.replicate (3 - (lg_sl ([.ref (G.2.2.1 i 0)])).length) Slot.unset).toArray = ls at hl ⊢
  have hl : lv_has ls 3 [(0, .ref (G.2.2.1 i 0))] := hl
  obtain ⟨R, hR⟩ : ∃ R, R = fX0_makeSteps B := ⟨_, rfl⟩
  rw [← hR]
  unfold fX0_makeSteps at hR
  have hlp_1 : ∀ (u : Nat) (k : Nat) (B : wB) (x : Int32), (hk : k + u = 4) → R = LX0_make u k B x → ∀ (H : Heap) (locs : List Loc) (ls : Array Slot), wW G (wset Z i B) H → va_S (wA G) s.heap H locs → lv_has ls 3 [(0, .ref (G.2.2.1 i 0)), (2, .int (nI k)), (1, .int x)] → W p l e (headSpec wsX0_makeSteps rX0_makeSteps).room s m ([.ref (G.2.2.1 i 0)] : List Value).toArray below meth c H locs 0 0 (qI below ([.ref (G.2.2.1 i 0)] : List Value).toArray s G R.2 (wset Z i R.1)) (F0 m 4 ls []) := by
    intro u
    induction u with
    | zero =>
      intro k B x hk hR H locs ls hW hS hl
      have hk4 : k = 4 := by omega
      simp only [LX0_make] at hR
      refine lv_iload_n hx hb dX0_makeSteps_4 rfl (lv_at hl 1 rfl) ?_
      refine lv_aload_n hx hb dX0_makeSteps_5 rfl (lv_at hl 0 rfl) ?_
      refine wr_get hC hinRX0 hW (vB hi (by decide)) (ce_b0 hi) rfl 1 (by decide) hk0 rfl dX0_makeSteps_6 ?_
      refine wr_alen (v := 4) hC hW (vB hi (by decide)) (ce_b2 hi) (ty := .object _) rfl rfl dX0_makeSteps_9 ?_
      refine lv_icmp_ge (tgt := 64) hx hb dX0_makeSteps_10 (by decide) (fun c_2 => ?_) (fun c_2 => ?_)
      · skip
        refine lv_iload_n hx hb dX0_makeSteps_64 rfl (lv_at hl 2 rfl) ?_
        exact we_i hC hr hlocks (congrArg Prod.snd hR).symm (congrArg (fun u => wset Z i u.1) hR).symm hW hS dX0_makeSteps_65
      · exact absurd ((nI_leI (a := 4) (by decide) (by omega)).mpr (by omega)) c_2
    | succ u ih =>
      intro k B x hk hR H locs ls hW hS hl
      simp only [LX0_make] at hR
      refine lv_iload_n hx hb dX0_makeSteps_4 rfl (lv_at hl 1 rfl) ?_
      refine lv_aload_n hx hb dX0_makeSteps_5 rfl (lv_at hl 0 rfl) ?_
      refine wr_get hC hinRX0 hW (vB hi (by decide)) (ce_b0 hi) rfl 1 (by decide) hk0 rfl dX0_makeSteps_6 ?_
      refine wr_alen (v := 4) hC hW (vB hi (by decide)) (ce_b2 hi) (ty := .object _) rfl rfl dX0_makeSteps_9 ?_
      refine lv_icmp_ge (tgt := 64) hx hb dX0_makeSteps_10 (by decide) (fun c_3 => ?_) (fun c_3 => ?_)
      · exact absurd ((nI_leI (a := 4) (by decide) (by omega)).mp c_3) (by omega)
      · skip
        refine lv_aload_n hx hb dX0_makeSteps_13 rfl (lv_at hl 0 rfl) ?_
        refine lv_iload_n hx hb dX0_makeSteps_14 rfl (lv_at hl 1 rfl) ?_
        refine wc_i hC hml (kX0_isDue l G Z i hi B (nI k)) (cwV 1 hts gX0_makeSteps_X0_isDue rfl rfl rfl (by decide +kernel) ⟨Nat.le_of_ble_eq_true rfl, Nat.le_of_ble_eq_true rfl⟩) hW hS (vB hi (by decide)) (ce_b0 hi) rfl rfl rfl rfl hl.1 (Nat.le_of_ble_eq_true rfl) dX0_makeSteps_15 (fun H locs hW hS => ?_)
        refine lv_topi (fun x_4 ex_4 => ?_)
        try rw [← ex_4] at hR
        refine lv_if_eq (tgt := 58) hx hb dX0_makeSteps_18 (by decide) (fun c_5 => ?_) (fun c_5 => ?_)
        · skip
          try rw [if_pos c_5] at hR
          refine lv_iinc (v := nI (k + 1)) (lv' := [(2, .int (nI (k + 1))), (0, .ref (G.2.2.1 i 0)), (1, .int x)]) hx hb dX0_makeSteps_58 hl (k := 1) rfl (nI_1 _) (by decide) rfl (fun ls hl => ?_)
          refine lv_goto (tgt := 4) hx hb dX0_makeSteps_61 (by decide) ?_
          exact ih (k + 1) B x (by omega) hR _ _ _ hW hS (lv_sub hl [1, 0, 2] rfl)
        · skip
          try rw [if_neg c_5] at hR
          refine lv_aload_n hx hb dX0_makeSteps_21 rfl (lv_at hl 0 rfl) ?_
          refine wr_get hC hinRX0 hW (vB hi (by decide)) (ce_b0 hi) rfl 1 (by decide) hk0 rfl dX0_makeSteps_22 ?_
          refine lv_iload_n hx hb dX0_makeSteps_25 rfl (lv_at hl 1 rfl) ?_
          refine wr_aald (v := .ref (G.2.2.1 i (3 + k))) (kA := 3) hC hW (vB hi (by decide)) (ce_b2 hi) rfl (vp_in_nI (show k < 4 by omega) (by decide)) (by rw [nI_clamp (by omega)]; rfl) dX0_makeSteps_26 ?_
          refine lv_aload_n hx hb dX0_makeSteps_27 rfl (lv_at hl 0 rfl) ?_
          refine wr_get hC hinRX0 hW (vB hi (by decide)) (ce_b0 hi) rfl 7 (by decide) hk1 rfl dX0_makeSteps_28 ?_
          refine lv_aload_n hx hb dX0_makeSteps_31 rfl (lv_at hl 0 rfl) ?_
          refine wr_get hC hinRX0 hW (vB hi (by decide)) (ce_b0 hi) rfl 0 (by decide) hk2 rfl dX0_makeSteps_32 ?_
          refine wc_v hC hml (kX5_makeStep l G Z i hi k (show k < 4 by omega) B (B 0 2)) (cwV 2 hts gX0_makeSteps_X5_makeStep rfl rfl rfl (by decide +kernel) ⟨Nat.le_of_ble_eq_true rfl, Nat.le_of_ble_eq_true rfl⟩) hW hS (vBs hi (show k < 4 by omega)) (ce_bs hi (show k < 4 by omega)) rfl rfl rfl rfl hl.1 (Nat.le_of_ble_eq_true rfl) dX0_makeSteps_35 (fun H locs hW hS => ?_)
          obtain ⟨B_6, eB_6⟩ : ∃ y, y = fX5_makeStep k B (B 0 2) := ⟨_, rfl⟩
          rw [← eB_6] at hW
          try rw [← eB_6] at hR
          refine lv_aload_n hx hb dX0_makeSteps_38 rfl (lv_at hl 0 rfl) ?_
          refine wr_get hC hinRX0 hW (vB hi (by decide)) (ce_b0 hi) rfl 1 (by decide) hk0 rfl dX0_makeSteps_39 ?_
          refine lv_iload_n hx hb dX0_makeSteps_42 rfl (lv_at hl 1 rfl) ?_
          refine wr_aald (v := .ref (G.2.2.1 i (3 + k))) (kA := 3) hC hW (vB hi (by decide)) (ce_b2 hi) rfl (vp_in_nI (show k < 4 by omega) (by decide)) (by rw [nI_clamp (by omega)]; rfl) dX0_makeSteps_43 ?_
          refine lv_aload_n hx hb dX0_makeSteps_44 rfl (lv_at hl 0 rfl) ?_
          refine wr_get hC hinRX0 hW (vB hi (by decide)) (ce_b0 hi) rfl 7 (by decide) hk1 rfl dX0_makeSteps_45 ?_
          refine lv_aload_n hx hb dX0_makeSteps_48 rfl (lv_at hl 0 rfl) ?_
          refine wr_get hC hinRX0 hW (vB hi (by decide)) (ce_b0 hi) rfl 0 (by decide) hk2 rfl dX0_makeSteps_49 ?_
          refine wc_v hC hml (kX5_beginWaiting l G Z i hi k (show k < 4 by omega) B_6 (B_6 0 2)) (cwV 2 hts gX0_makeSteps_X5_beginWaiting rfl rfl rfl (by decide +kernel) ⟨Nat.le_of_ble_eq_true rfl, Nat.le_of_ble_eq_true rfl⟩) hW hS (vBs hi (show k < 4 by omega)) (ce_bs hi (show k < 4 by omega)) rfl rfl rfl rfl hl.1 (Nat.le_of_ble_eq_true rfl) dX0_makeSteps_52 (fun H locs hW hS => ?_)
          obtain ⟨B_7, eB_7⟩ : ∃ y, y = fX5_beginWaiting k B_6 (B_6 0 2) := ⟨_, rfl⟩
          rw [← eB_7] at hW
          try rw [← eB_7] at hR
          refine lv_iinc (v := x + 1) (lv' := [(1, .int (x + 1)), (0, .ref (G.2.2.1 i 0)), (2, .int (nI k))]) hx hb dX0_makeSteps_55 hl (k := 2) rfl (rfl) (by decide) rfl (fun ls hl => ?_)
          refine lv_iinc (v := nI (k + 1)) (lv' := [(2, .int (nI (k + 1))), (1, .int (x + 1)), (0, .ref (G.2.2.1 i 0))]) hx hb dX0_makeSteps_58 hl (k := 2) rfl (nI_1 _) (by decide) rfl (fun ls hl => ?_)
          refine lv_goto (tgt := 4) hx hb dX0_makeSteps_61 (by decide) ?_
          exact ih (k + 1) B_7 (x + 1) (by omega) hR _ _ _ hW hS (lv_sub hl [2, 0, 1] rfl)
  refine lv_iconst (v := 0) hx hb dX0_makeSteps_0 (by decide) ?_
  refine lv_istore_n (lv' := [(1, .int 0), (0, .ref (G.2.2.1 i 0))]) hx hb dX0_makeSteps_1 rfl hl (by decide) rfl (fun ls hl => ?_)
  refine lv_iconst (v := 0) hx hb dX0_makeSteps_2 (by decide) ?_
  refine lv_istore_n (lv' := [(2, .int 0), (1, .int 0), (0, .ref (G.2.2.1 i 0))]) hx hb dX0_makeSteps_3 rfl hl (by decide) rfl (fun ls hl => ?_)
  exact hlp_1 4 0 B 0 rfl hR _ _ _ hW hS (lv_sub hl [2, 0, 1] rfl)
def LX0_has (B : wB) (a : Int32) : Nat → Nat → Int32
  | 0, _ => 0
  | u + 1, k => if B 0 1 ≤ nI k then 0 else if B 12 k = a then 1 else LX0_has B a u (k + 1)
def fX0_hasPlan (B : wB) (a : Int32) : Int32 := LX0_has B a 12 0
abbrev rX0_hasPlan : Room := { frames := 0, cells := 0, slots := 0, locals := 0 }
set_option maxHeartbeats 4000000 in
set_option maxRecDepth 100000 in
theorem kX0_hasPlan (l : Launch) (G : wG) (Z : wZ) (i : Nat) (hi : i < 11) (B : wB) (a1 : Int32)  : mI l yX0_hasPlan wsX0_hasPlan rX0_hasPlan G [.ref (G.2.2.1 i 0), .int a1] (wset Z i B) (fX0_hasPlan B a1) (wset Z i B) := by
  refine Met.ofW (cc := cX0_hasPlan) (maxL := 3) (ret := (some .boolean)) (by decide) rfl ?_
  intro p e s m args below meth c s₁ B0 hml hv
  obtain ⟨rfl, hW, hK, hL⟩ := hv
  have hlocks := B0.notSynchronized
  have hr := B0.returns
  have hC : wX p s m c cX0_hasPlan _ wsX0_hasPlan RX0 G := ⟨B0.exec, B0.bytes, findClass_of_methodNamed B0.named, atoms_spec (ws := wsX0_hasPlan) B0.pre, hK, hL⟩
  have hx := hC.1
  have hb := hC.2.1
  have hts := hC.2.2.2.1
  have hinRX0 : ∀ w ∈ wsX00, w ∈ wsX0_hasPlan := by decide +kernel
  have hk0 := hts (.fieldLink RX0 46 "RampShafts$Bench" "planCount" "I") (by decide +kernel)
  have hk1 := hts (.fieldLink RX0 29 "RampShafts$Bench" "planShafts" "[I") (by decide +kernel)
  have hS : va_S (wA G) s.heap s.heap [] := va_S.rf
  have hl := lv_entry ([.ref (G.2.2.1 i 0), .int a1]) (n := 3) (Nat.le_of_ble_eq_true rfl)
  rw [lg_entry_eq]
  generalize (lg_sl ([.ref (G.2.2.1 i 0), .int a1]) ++ List.replicate (3 - (lg_sl ([.ref (G.2.2.1 i 0), .int a1])).length) Slot.unset).toArray = ls at hl ⊢
  have hl : lv_has ls 3 [(0, .ref (G.2.2.1 i 0)), (1, .int a1)] := hl
  obtain ⟨R, hR⟩ : ∃ R, R = fX0_hasPlan B a1 := ⟨_, rfl⟩
  rw [← hR]
  unfold fX0_hasPlan at hR
  have hlp_1 : ∀ (u : Nat) (k : Nat), (hk : k + u = 12) → R = LX0_has B a1 u k → ∀ (H : Heap) (locs : List Loc) (ls : Array Slot), wW G (wset Z i B) H → va_S (wA G) s.heap H locs → lv_has ls 3 [(0, .ref (G.2.2.1 i 0)), (1, .int a1), (2, .int (nI k))] → W p l e (headSpec wsX0_hasPlan rX0_hasPlan).room s m ([.ref (G.2.2.1 i 0), .int a1] : List Value).toArray below meth c H locs 0 0 (qI below ([.ref (G.2.2.1 i 0), .int a1] : List Value).toArray s G R (wset Z i B)) (F0 m 2 ls []) := by
    intro u
    induction u with
    | zero =>
      intro k hk hR H locs ls hW hS hl
      have hk4 : k = 12 := by omega
      simp only [LX0_has] at hR
      refine lv_iload_n hx hb dX0_hasPlan_2 rfl (lv_at hl 2 rfl) ?_
      refine lv_aload_n hx hb dX0_hasPlan_3 rfl (lv_at hl 0 rfl) ?_
      refine wr_get hC hinRX0 hW (vB hi (by decide)) (ce_b0 hi) rfl 6 (by decide) hk0 rfl dX0_hasPlan_4 ?_
      refine lv_icmp_ge (tgt := 34) hx hb dX0_hasPlan_7 (by decide) (fun c_2 => ?_) (fun c_2 => ?_)
      · skip
        try rw [if_pos c_2] at hR
        refine lv_iconst (v := 0) hx hb dX0_hasPlan_34 (by decide) ?_
        exact we_z hC hr hlocks (by first | rfl | decide | assumption | exact nar_char_i _) (v := 0) (hR.symm) rfl hW hS dX0_hasPlan_35
      · skip
        try rw [if_neg c_2] at hR
        refine lv_iload_n hx hb dX0_hasPlan_10 rfl (lv_at hl 2 rfl) ?_
        refine lv_bipush (v := 12) hx hb dX0_hasPlan_11 (by decide) ?_
        refine lv_icmp_ge (tgt := 34) hx hb dX0_hasPlan_13 (by decide) (fun c_3 => ?_) (fun c_3 => ?_)
        · skip
          refine lv_iconst (v := 0) hx hb dX0_hasPlan_34 (by decide) ?_
          exact we_z hC hr hlocks (by first | rfl | decide | assumption | exact nar_char_i _) (v := 0) (hR.symm) rfl hW hS dX0_hasPlan_35
        · exact absurd ((nI_leI (a := 12) (by decide) (by omega)).mpr (by omega)) c_3
    | succ u ih =>
      intro k hk hR H locs ls hW hS hl
      simp only [LX0_has] at hR
      refine lv_iload_n hx hb dX0_hasPlan_2 rfl (lv_at hl 2 rfl) ?_
      refine lv_aload_n hx hb dX0_hasPlan_3 rfl (lv_at hl 0 rfl) ?_
      refine wr_get hC hinRX0 hW (vB hi (by decide)) (ce_b0 hi) rfl 6 (by decide) hk0 rfl dX0_hasPlan_4 ?_
      refine lv_icmp_ge (tgt := 34) hx hb dX0_hasPlan_7 (by decide) (fun c_4 => ?_) (fun c_4 => ?_)
      · skip
        try rw [if_pos c_4] at hR
        refine lv_iconst (v := 0) hx hb dX0_hasPlan_34 (by decide) ?_
        exact we_z hC hr hlocks (by first | rfl | decide | assumption | exact nar_char_i _) (v := 0) (hR.symm) rfl hW hS dX0_hasPlan_35
      · skip
        try rw [if_neg c_4] at hR
        refine lv_iload_n hx hb dX0_hasPlan_10 rfl (lv_at hl 2 rfl) ?_
        refine lv_bipush (v := 12) hx hb dX0_hasPlan_11 (by decide) ?_
        refine lv_icmp_ge (tgt := 34) hx hb dX0_hasPlan_13 (by decide) (fun c_5 => ?_) (fun c_5 => ?_)
        · exact absurd ((nI_leI (a := 12) (by decide) (by omega)).mp c_5) (by omega)
        · skip
          refine lv_aload_n hx hb dX0_hasPlan_16 rfl (lv_at hl 0 rfl) ?_
          refine wr_get hC hinRX0 hW (vB hi (by decide)) (ce_b0 hi) rfl 3 (by decide) hk1 rfl dX0_hasPlan_17 ?_
          refine lv_iload_n hx hb dX0_hasPlan_20 rfl (lv_at hl 2 rfl) ?_
          refine wr_ald (kA := 0) hC hW (vB hi (by decide)) (ce_bp hi (by decide)) rfl (vp_in_nI (show k < 12 by omega) (by decide)) dX0_hasPlan_21 ?_
          refine lv_re (y := B 12 k) ((congrArg (B 12) (nI_clamp (by omega)))) ?_
          refine lv_iload_n hx hb dX0_hasPlan_22 rfl (lv_at hl 1 rfl) ?_
          refine lv_icmp_ne (tgt := 28) hx hb dX0_hasPlan_23 (by decide) (fun c_6 => ?_) (fun c_6 => ?_)
          · skip
            try rw [if_neg c_6] at hR
            refine lv_iinc (v := nI (k + 1)) (lv' := [(2, .int (nI (k + 1))), (0, .ref (G.2.2.1 i 0)), (1, .int a1)]) hx hb dX0_hasPlan_28 hl (k := 2) rfl (nI_1 _) (by decide) rfl (fun ls hl => ?_)
            refine lv_goto (tgt := 2) hx hb dX0_hasPlan_31 (by decide) ?_
            exact ih (k + 1) (by omega) hR _ _ _ hW hS (lv_sub hl [1, 2, 0] rfl)
          · skip
            try rw [if_pos c_6] at hR
            refine lv_iconst (v := 1) hx hb dX0_hasPlan_26 (by decide) ?_
            exact we_z hC hr hlocks (by first | rfl | decide | assumption | exact nar_char_i _) (v := 1) (hR.symm) rfl hW hS dX0_hasPlan_27
  refine lv_iconst (v := 0) hx hb dX0_hasPlan_0 (by decide) ?_
  refine lv_istore_n (lv' := [(2, .int 0), (0, .ref (G.2.2.1 i 0)), (1, .int a1)]) hx hb dX0_hasPlan_1 rfl hl (by decide) rfl (fun ls hl => ?_)
  exact hlp_1 12 0 rfl hR _ _ _ hW hS (lv_sub hl [1, 2, 0] rfl)
def LX0_shift (t : Int32) : Nat → wB → Nat × wB
  | 0, B => (0, B)
  | u + 1, B => if B 11 u ≤ B 0 2 + t then (u + 1, B) else LX0_shift t u (fX0_copyPlan B (nI u) (nI (u + 1)))
def gX0_ins (a1 a2 a3 : Int32) (q : Nat × wB) : wB × Int32 := (bput (bput (bput (bput q.2 11 q.1 (q.2 0 2 + a1)) 12 q.1 a2) 13 q.1 a3) 0 1 (q.2 0 1 + 1), q.2 0 1 + 1)
def fX0_addPlan (B : wB) (a1 a2 a3 : Int32) : wB × Int32 :=
  if hX0_find B a2 then
    (if a1 < 1 then (B, -2) else if 9999 < a1 then (B, -2) else if fX0_isPlace a3 = 0 then (B, -2)
     else if B 0 1 < 0 then (B, -4) else if B 0 1 < 12 then gX0_ins a1 a2 a3 (LX0_shift a1 (B 0 1).toNatClampNeg B) else (B, -4))
  else (B, -1)
abbrev rX0_addPlan : Room := { frames := 1, cells := 0, slots := 0, locals := 22 }
set_option maxHeartbeats 4000000 in
set_option maxRecDepth 100000 in
theorem kX0_addPlan (l : Launch) (G : wG) (Z : wZ) (i : Nat) (hi : i < 11) (B : wB) (a1 : Int32) (a2 : Int32) (a3 : Int32)  : mI l yX0_addPlan wsX0_addPlan rX0_addPlan G [.ref (G.2.2.1 i 0), .int a1, .int a2, .int a3] (wset Z i B) (fX0_addPlan B a1 a2 a3).2 (wset Z i (fX0_addPlan B a1 a2 a3).1) := by
  refine Met.ofW (cc := cX0_addPlan) (maxL := 5) (ret := (some .int)) (by decide) rfl ?_
  intro p e s m args below meth c s₁ B0 hml hv
  obtain ⟨rfl, hW, hK, hL⟩ := hv
  have hlocks := B0.notSynchronized
  have hr := B0.returns
  have hC : wX p s m c cX0_addPlan _ wsX0_addPlan RX0 G := ⟨B0.exec, B0.bytes, findClass_of_methodNamed B0.named, atoms_spec (ws := wsX0_addPlan) B0.pre, hK, hL⟩
  have hx := hC.1
  have hb := hC.2.1
  have hts := hC.2.2.2.1
  have hinRX0 : ∀ w ∈ wsX00, w ∈ wsX0_addPlan := by decide +kernel
  have hk0 := hts (.fieldLink RX0 25 "RampShafts$Bench" "planTimes" "[I") (by decide +kernel)
  have hk1 := hts (.fieldLink RX0 49 "RampShafts$Bench" "time" "I") (by decide +kernel)
  have hk2 := hts (.fieldLink RX0 29 "RampShafts$Bench" "planShafts" "[I") (by decide +kernel)
  have hk3 := hts (.fieldLink RX0 32 "RampShafts$Bench" "planPlaces" "[I") (by decide +kernel)
  have hk4 := hts (.fieldLink RX0 46 "RampShafts$Bench" "planCount" "I") (by decide +kernel)
  have hS : va_S (wA G) s.heap s.heap [] := va_S.rf
  have hl := lv_entry ([.ref (G.2.2.1 i 0), .int a1, .int a2, .int a3]) (n := 5) (Nat.le_of_ble_eq_true rfl)
  rw [lg_entry_eq]
  generalize (lg_sl ([.ref (G.2.2.1 i 0), .int a1, .int a2, .int a3]) ++ List.replicate (5 - (lg_sl ([.ref (G.2.2.1 i 0), .int a1, .int a2, .int a3])).length) Slot.unset).toArray = ls at hl ⊢
  have hl : lv_has ls 5 [(0, .ref (G.2.2.1 i 0)), (1, .int a1), (2, .int a2), (3, .int a3)] := hl
  obtain ⟨R, hR⟩ : ∃ R, R = fX0_addPlan B a1 a2 a3 := ⟨_, rfl⟩
  rw [← hR]
  unfold fX0_addPlan at hR
  have hlp_1 : ∀ (u : Nat) (B : wB), (hu : u ≤ 11) → R = gX0_ins a1 a2 a3 (LX0_shift a1 u B) → ∀ (H : Heap) (locs : List Loc) (ls : Array Slot), wW G (wset Z i B) H → va_S (wA G) s.heap H locs → lv_has ls 5 [(0, .ref (G.2.2.1 i 0)), (1, .int a1), (2, .int a2), (3, .int a3), (4, .int (nI u))] → W p l e (headSpec wsX0_addPlan rX0_addPlan).room s m ([.ref (G.2.2.1 i 0), .int a1, .int a2, .int a3] : List Value).toArray below meth c H locs 0 0 (qI below ([.ref (G.2.2.1 i 0), .int a1, .int a2, .int a3] : List Value).toArray s G R.2 (wset Z i R.1)) (F0 m 57 ls []) := by
    intro u
    induction u with
    | zero =>
      intro B hu hR H locs ls hW hS hl
      simp only [LX0_shift] at hR
      refine lv_iload hx hb dX0_addPlan_57 (lv_at hl 4 rfl) ?_
      refine lv_if_le (tgt := 96) hx hb dX0_addPlan_59 (by decide) (fun c_2 => ?_) (fun c_2 => ?_)
      · skip
        refine lv_aload_n hx hb dX0_addPlan_96 rfl (lv_at hl 0 rfl) ?_
        refine wr_get hC hinRX0 hW (vB hi (by decide)) (ce_b0 hi) rfl 2 (by decide) hk0 rfl dX0_addPlan_97 ?_
        refine lv_iload hx hb dX0_addPlan_100 (lv_at hl 4 rfl) ?_
        refine lv_aload_n hx hb dX0_addPlan_102 rfl (lv_at hl 0 rfl) ?_
        refine wr_get hC hinRX0 hW (vB hi (by decide)) (ce_b0 hi) rfl 7 (by decide) hk1 rfl dX0_addPlan_103 ?_
        refine lv_iload_n hx hb dX0_addPlan_106 rfl (lv_at hl 1 rfl) ?_
        refine lv_iadd hx hb dX0_addPlan_107 ?_
        refine wr_ast (kA := 0) (Z' := wset Z i (bput B 11 (nI 0).toNatClampNeg ((B 0 2) + a1))) hC hW hS (vB hi (by decide)) (ce_bp hi (by decide)) rfl (vp_in_nI (show 0 < 12 by omega) (by decide)) wset_off (pu_bp hi (by decide)) dX0_addPlan_108 (fun H locs hW hS => ?_)
        rw [nI_clamp (show 0 < 2 ^ 31 by omega)] at hW
        refine lv_aload_n hx hb dX0_addPlan_109 rfl (lv_at hl 0 rfl) ?_
        refine wr_get hC hinRX0 hW (vB hi (by decide)) (ce_b0 hi) rfl 3 (by decide) hk2 rfl dX0_addPlan_110 ?_
        refine lv_iload hx hb dX0_addPlan_113 (lv_at hl 4 rfl) ?_
        refine lv_iload_n hx hb dX0_addPlan_115 rfl (lv_at hl 2 rfl) ?_
        refine wr_ast (kA := 0) (Z' := wset Z i (bput (bput B 11 0 ((B 0 2) + a1)) 12 (nI 0).toNatClampNeg a2)) hC hW hS (vB hi (by decide)) (ce_bp hi (by decide)) rfl (vp_in_nI (show 0 < 12 by omega) (by decide)) wset_off (pu_bp hi (by decide)) dX0_addPlan_116 (fun H locs hW hS => ?_)
        rw [nI_clamp (show 0 < 2 ^ 31 by omega)] at hW
        refine lv_aload_n hx hb dX0_addPlan_117 rfl (lv_at hl 0 rfl) ?_
        refine wr_get hC hinRX0 hW (vB hi (by decide)) (ce_b0 hi) rfl 4 (by decide) hk3 rfl dX0_addPlan_118 ?_
        refine lv_iload hx hb dX0_addPlan_121 (lv_at hl 4 rfl) ?_
        refine lv_iload_n hx hb dX0_addPlan_123 rfl (lv_at hl 3 rfl) ?_
        refine wr_ast (kA := 0) (Z' := wset Z i (bput (bput (bput B 11 0 ((B 0 2) + a1)) 12 0 a2) 13 (nI 0).toNatClampNeg a3)) hC hW hS (vB hi (by decide)) (ce_bp hi (by decide)) rfl (vp_in_nI (show 0 < 12 by omega) (by decide)) wset_off (pu_bp hi (by decide)) dX0_addPlan_124 (fun H locs hW hS => ?_)
        rw [nI_clamp (show 0 < 2 ^ 31 by omega)] at hW
        refine lv_aload_n hx hb dX0_addPlan_125 rfl (lv_at hl 0 rfl) ?_
        refine lv_dup hx hb dX0_addPlan_126 rfl ?_
        refine wr_get hC hinRX0 hW (vB hi (by decide)) (ce_b0 hi) rfl 6 (by decide) hk4 rfl dX0_addPlan_127 ?_
        refine lv_re (y := B 0 1) (((bput_q (by decide)).trans (bput_q (by decide))).trans (bput_q (by decide))) ?_
        refine lv_iconst (v := 1) hx hb dX0_addPlan_130 (by decide) ?_
        refine lv_iadd hx hb dX0_addPlan_131 ?_
        refine wr_put (Z' := wset Z i (bput (bput (bput (bput B 11 0 ((B 0 2) + a1)) 12 0 a2) 13 0 a3) 0 1 ((B 0 1) + 1))) (v := .int ((B 0 1) + 1)) hC hinRX0 tyX0 tyX0_ok nmX0 hW hS (vB hi (by decide)) (ce_b0 hi) rfl 6 (by decide) hk4 rfl (tyX0_ok 6 (by decide)) rfl rfl (Nat.le_of_ble_eq_true rfl) wset_off (pu_b0_1 hi) dX0_addPlan_132 (fun H locs hW hS => ?_)
        refine lv_aload_n hx hb dX0_addPlan_135 rfl (lv_at hl 0 rfl) ?_
        refine wr_get hC hinRX0 hW (vB hi (by decide)) (ce_b0 hi) rfl 6 (by decide) hk4 rfl dX0_addPlan_136 ?_
        refine lv_re (y := (B 0 1) + 1) (bput_h) ?_
        exact we_i hC hr hlocks (congrArg Prod.snd hR).symm (congrArg (fun u => wset Z i u.1) hR).symm hW hS dX0_addPlan_139
      · exact absurd ((nI_leI (b := 0) (by decide) (by decide)).mpr (by omega)) c_2
    | succ u ih =>
      intro B hu hR H locs ls hW hS hl
      simp only [LX0_shift] at hR
      refine lv_iload hx hb dX0_addPlan_57 (lv_at hl 4 rfl) ?_
      refine lv_if_le (tgt := 96) hx hb dX0_addPlan_59 (by decide) (fun c_3 => ?_) (fun c_3 => ?_)
      · exact absurd ((nI_leI (b := 0) (by omega) (by decide)).mp c_3) (by omega)
      · skip
        refine lv_aload_n hx hb dX0_addPlan_62 rfl (lv_at hl 0 rfl) ?_
        refine wr_get hC hinRX0 hW (vB hi (by decide)) (ce_b0 hi) rfl 2 (by decide) hk0 rfl dX0_addPlan_63 ?_
        refine lv_iload hx hb dX0_addPlan_66 (lv_at hl 4 rfl) ?_
        refine lv_iconst (v := 1) hx hb dX0_addPlan_68 (by decide) ?_
        refine lv_isub hx hb dX0_addPlan_69 ?_
        refine lv_re (y := nI u) (nI_pred _) ?_
        refine wr_ald (kA := 0) hC hW (vB hi (by decide)) (ce_bp hi (by decide)) rfl (vp_in_nI (show u < 12 by omega) (by decide)) dX0_addPlan_70 ?_
        refine lv_re (y := B 11 u) ((congrArg (B 11) (nI_clamp (by omega)))) ?_
        refine lv_aload_n hx hb dX0_addPlan_71 rfl (lv_at hl 0 rfl) ?_
        refine wr_get hC hinRX0 hW (vB hi (by decide)) (ce_b0 hi) rfl 7 (by decide) hk1 rfl dX0_addPlan_72 ?_
        refine lv_iload_n hx hb dX0_addPlan_75 rfl (lv_at hl 1 rfl) ?_
        refine lv_iadd hx hb dX0_addPlan_76 ?_
        refine lv_icmp_le (tgt := 96) hx hb dX0_addPlan_77 (by decide) (fun c_4 => ?_) (fun c_4 => ?_)
        · skip
          try rw [if_pos c_4] at hR
          refine lv_aload_n hx hb dX0_addPlan_96 rfl (lv_at hl 0 rfl) ?_
          refine wr_get hC hinRX0 hW (vB hi (by decide)) (ce_b0 hi) rfl 2 (by decide) hk0 rfl dX0_addPlan_97 ?_
          refine lv_iload hx hb dX0_addPlan_100 (lv_at hl 4 rfl) ?_
          refine lv_aload_n hx hb dX0_addPlan_102 rfl (lv_at hl 0 rfl) ?_
          refine wr_get hC hinRX0 hW (vB hi (by decide)) (ce_b0 hi) rfl 7 (by decide) hk1 rfl dX0_addPlan_103 ?_
          refine lv_iload_n hx hb dX0_addPlan_106 rfl (lv_at hl 1 rfl) ?_
          refine lv_iadd hx hb dX0_addPlan_107 ?_
          refine wr_ast (kA := 0) (Z' := wset Z i (bput B 11 (nI (u + 1)).toNatClampNeg ((B 0 2) + a1))) hC hW hS (vB hi (by decide)) (ce_bp hi (by decide)) rfl (vp_in_nI (show (u + 1) < 12 by omega) (by decide)) wset_off (pu_bp hi (by decide)) dX0_addPlan_108 (fun H locs hW hS => ?_)
          rw [nI_clamp (show (u + 1) < 2 ^ 31 by omega)] at hW
          refine lv_aload_n hx hb dX0_addPlan_109 rfl (lv_at hl 0 rfl) ?_
          refine wr_get hC hinRX0 hW (vB hi (by decide)) (ce_b0 hi) rfl 3 (by decide) hk2 rfl dX0_addPlan_110 ?_
          refine lv_iload hx hb dX0_addPlan_113 (lv_at hl 4 rfl) ?_
          refine lv_iload_n hx hb dX0_addPlan_115 rfl (lv_at hl 2 rfl) ?_
          refine wr_ast (kA := 0) (Z' := wset Z i (bput (bput B 11 (u + 1) ((B 0 2) + a1)) 12 (nI (u + 1)).toNatClampNeg a2)) hC hW hS (vB hi (by decide)) (ce_bp hi (by decide)) rfl (vp_in_nI (show (u + 1) < 12 by omega) (by decide)) wset_off (pu_bp hi (by decide)) dX0_addPlan_116 (fun H locs hW hS => ?_)
          rw [nI_clamp (show (u + 1) < 2 ^ 31 by omega)] at hW
          refine lv_aload_n hx hb dX0_addPlan_117 rfl (lv_at hl 0 rfl) ?_
          refine wr_get hC hinRX0 hW (vB hi (by decide)) (ce_b0 hi) rfl 4 (by decide) hk3 rfl dX0_addPlan_118 ?_
          refine lv_iload hx hb dX0_addPlan_121 (lv_at hl 4 rfl) ?_
          refine lv_iload_n hx hb dX0_addPlan_123 rfl (lv_at hl 3 rfl) ?_
          refine wr_ast (kA := 0) (Z' := wset Z i (bput (bput (bput B 11 (u + 1) ((B 0 2) + a1)) 12 (u + 1) a2) 13 (nI (u + 1)).toNatClampNeg a3)) hC hW hS (vB hi (by decide)) (ce_bp hi (by decide)) rfl (vp_in_nI (show (u + 1) < 12 by omega) (by decide)) wset_off (pu_bp hi (by decide)) dX0_addPlan_124 (fun H locs hW hS => ?_)
          rw [nI_clamp (show (u + 1) < 2 ^ 31 by omega)] at hW
          refine lv_aload_n hx hb dX0_addPlan_125 rfl (lv_at hl 0 rfl) ?_
          refine lv_dup hx hb dX0_addPlan_126 rfl ?_
          refine wr_get hC hinRX0 hW (vB hi (by decide)) (ce_b0 hi) rfl 6 (by decide) hk4 rfl dX0_addPlan_127 ?_
          refine lv_re (y := B 0 1) (((bput_j (by omega)).trans (bput_j (by omega))).trans (bput_j (by omega))) ?_
          refine lv_iconst (v := 1) hx hb dX0_addPlan_130 (by decide) ?_
          refine lv_iadd hx hb dX0_addPlan_131 ?_
          refine wr_put (Z' := wset Z i (bput (bput (bput (bput B 11 (u + 1) ((B 0 2) + a1)) 12 (u + 1) a2) 13 (u + 1) a3) 0 1 ((B 0 1) + 1))) (v := .int ((B 0 1) + 1)) hC hinRX0 tyX0 tyX0_ok nmX0 hW hS (vB hi (by decide)) (ce_b0 hi) rfl 6 (by decide) hk4 rfl (tyX0_ok 6 (by decide)) rfl rfl (Nat.le_of_ble_eq_true rfl) wset_off (pu_b0_1 hi) dX0_addPlan_132 (fun H locs hW hS => ?_)
          refine lv_aload_n hx hb dX0_addPlan_135 rfl (lv_at hl 0 rfl) ?_
          refine wr_get hC hinRX0 hW (vB hi (by decide)) (ce_b0 hi) rfl 6 (by decide) hk4 rfl dX0_addPlan_136 ?_
          refine lv_re (y := (B 0 1) + 1) (bput_h) ?_
          exact we_i hC hr hlocks (congrArg Prod.snd hR).symm (congrArg (fun u => wset Z i u.1) hR).symm hW hS dX0_addPlan_139
        · skip
          try rw [if_neg c_4] at hR
          refine lv_aload_n hx hb dX0_addPlan_80 rfl (lv_at hl 0 rfl) ?_
          refine lv_iload hx hb dX0_addPlan_81 (lv_at hl 4 rfl) ?_
          refine lv_iconst (v := 1) hx hb dX0_addPlan_83 (by decide) ?_
          refine lv_isub hx hb dX0_addPlan_84 ?_
          refine lv_re (y := nI u) (nI_pred _) ?_
          refine lv_iload hx hb dX0_addPlan_85 (lv_at hl 4 rfl) ?_
          refine wc_v hC hml (kX0_copyPlan l G Z i hi B (nI u) (nI (u + 1))) (cwV 2 hts gX0_addPlan_X0_copyPlan rfl rfl rfl (by decide +kernel) ⟨Nat.le_of_ble_eq_true rfl, Nat.le_of_ble_eq_true rfl⟩) hW hS (vB hi (by decide)) (ce_b0 hi) rfl rfl rfl rfl hl.1 (Nat.le_of_ble_eq_true rfl) dX0_addPlan_87 (fun H locs hW hS => ?_)
          obtain ⟨B_5, eB_5⟩ : ∃ y, y = fX0_copyPlan B (nI u) (nI (u + 1)) := ⟨_, rfl⟩
          rw [← eB_5] at hW
          try rw [← eB_5] at hR
          refine lv_iinc (v := nI u) (lv' := [(4, .int (nI u)), (0, .ref (G.2.2.1 i 0)), (1, .int a1), (2, .int a2), (3, .int a3)]) hx hb dX0_addPlan_90 hl (k := 4) rfl (pk_m1 _) (by decide) rfl (fun ls hl => ?_)
          refine lv_goto (tgt := 57) hx hb dX0_addPlan_93 (by decide) ?_
          exact ih B_5 (by omega) hR _ _ _ hW hS (lv_sub hl [1, 2, 3, 4, 0] rfl)
  refine lv_aload_n hx hb dX0_addPlan_0 rfl (lv_at hl 0 rfl) ?_
  refine lv_iload_n hx hb dX0_addPlan_1 rfl (lv_at hl 2 rfl) ?_
  refine wc_q hC hml (kX0_find l G Z i hi B a2) (cwV 1 hts gX0_addPlan_X0_find rfl rfl rfl (by decide +kernel) ⟨Nat.le_of_ble_eq_true rfl, Nat.le_of_ble_eq_true rfl⟩) hW hS (vB hi (by decide)) (ce_b0 hi) rfl rfl rfl rfl hl.1 (Nat.le_of_ble_eq_true rfl) dX0_addPlan_2 (fun H locs hW hS => ?_)
  by_cases c_6 : hX0_find B a2
  · refine lv_rev (v' := .ref (G.2.2.1 i (3 + a2.toNatClampNeg))) (congrArg va_rf (if_pos c_6)) ?_
    try rw [if_pos c_6] at hR
    refine lv_ifnonnull (tgt := 10) hx hb dX0_addPlan_5 (by decide) ?_
    refine lv_iload_n hx hb dX0_addPlan_10 rfl (lv_at hl 1 rfl) ?_
    refine lv_iconst (v := 1) hx hb dX0_addPlan_11 (by decide) ?_
    refine lv_icmp_lt (tgt := 29) hx hb dX0_addPlan_12 (by decide) (fun c_7 => ?_) (fun c_7 => ?_)
    · skip
      try rw [if_pos c_7] at hR
      refine lv_bipush (v := (-2)) hx hb dX0_addPlan_29 (by decide) ?_
      exact we_i hC hr hlocks (congrArg Prod.snd hR).symm (congrArg (fun u => wset Z i u.1) hR).symm hW hS dX0_addPlan_31
    · skip
      try rw [if_neg c_7] at hR
      refine lv_iload_n hx hb dX0_addPlan_15 rfl (lv_at hl 1 rfl) ?_
      refine lv_sipush (v := 9999) hx hb dX0_addPlan_16 (by decide) ?_
      refine lv_icmp_gt (tgt := 29) hx hb dX0_addPlan_19 (by decide) (fun c_8 => ?_) (fun c_8 => ?_)
      · skip
        try rw [if_pos c_8] at hR
        refine lv_bipush (v := (-2)) hx hb dX0_addPlan_29 (by decide) ?_
        exact we_i hC hr hlocks (congrArg Prod.snd hR).symm (congrArg (fun u => wset Z i u.1) hR).symm hW hS dX0_addPlan_31
      · skip
        try rw [if_neg c_8] at hR
        refine lv_iload_n hx hb dX0_addPlan_22 rfl (lv_at hl 3 rfl) ?_
        refine wc_s hC hml (kX0_isPlace l G (wset Z i B) a3) (cwS 1 hts gX0_addPlan_X0_isPlace rfl rfl rfl (by decide +kernel) ⟨Nat.le_of_ble_eq_true rfl, Nat.le_of_ble_eq_true rfl⟩) hW hS rfl rfl hl.1 (Nat.le_of_ble_eq_true rfl) dX0_addPlan_23 (fun H locs hW hS => ?_)
        refine lv_topi (fun x_9 ex_9 => ?_)
        try rw [← ex_9] at hR
        refine lv_if_ne (tgt := 32) hx hb dX0_addPlan_26 (by decide) (fun c_10 => ?_) (fun c_10 => ?_)
        · skip
          try rw [if_neg c_10] at hR
          refine lv_aload_n hx hb dX0_addPlan_32 rfl (lv_at hl 0 rfl) ?_
          refine wr_get hC hinRX0 hW (vB hi (by decide)) (ce_b0 hi) rfl 6 (by decide) hk4 rfl dX0_addPlan_33 ?_
          refine lv_if_lt (tgt := 48) hx hb dX0_addPlan_36 (by decide) (fun c_11 => ?_) (fun c_11 => ?_)
          · skip
            try rw [if_pos c_11] at hR
            refine lv_bipush (v := (-4)) hx hb dX0_addPlan_48 (by decide) ?_
            exact we_i hC hr hlocks (congrArg Prod.snd hR).symm (congrArg (fun u => wset Z i u.1) hR).symm hW hS dX0_addPlan_50
          · skip
            try rw [if_neg c_11] at hR
            refine lv_aload_n hx hb dX0_addPlan_39 rfl (lv_at hl 0 rfl) ?_
            refine wr_get hC hinRX0 hW (vB hi (by decide)) (ce_b0 hi) rfl 6 (by decide) hk4 rfl dX0_addPlan_40 ?_
            refine lv_bipush (v := 12) hx hb dX0_addPlan_43 (by decide) ?_
            refine lv_icmp_lt (tgt := 51) hx hb dX0_addPlan_45 (by decide) (fun c_12 => ?_) (fun c_12 => ?_)
            · skip
              try rw [if_pos c_12] at hR
              refine lv_aload_n hx hb dX0_addPlan_51 rfl (lv_at hl 0 rfl) ?_
              refine wr_get hC hinRX0 hW (vB hi (by decide)) (ce_b0 hi) rfl 6 (by decide) hk4 rfl dX0_addPlan_52 ?_
              have hu9 : (B 0 1).toNatClampNeg ≤ 11 := Nat.le_of_lt_succ (vp_lt (in_lt (N := 12) (M := 12) (by decide) (by decide) c_11 c_12))
              refine lv_re (nI_self c_11) ?_
              refine lv_istore (lv' := [(4, .int (nI (B 0 1).toNatClampNeg)), (0, .ref (G.2.2.1 i 0)), (1, .int a1), (2, .int a2), (3, .int a3)]) hx hb dX0_addPlan_55 hl (by decide) rfl (fun ls hl => ?_)
              exact hlp_1 ((B 0 1).toNatClampNeg) B hu9 hR _ _ _ hW hS (lv_sub hl [1, 2, 3, 4, 0] rfl)
            · skip
              try rw [if_neg c_12] at hR
              refine lv_bipush (v := (-4)) hx hb dX0_addPlan_48 (by decide) ?_
              exact we_i hC hr hlocks (congrArg Prod.snd hR).symm (congrArg (fun u => wset Z i u.1) hR).symm hW hS dX0_addPlan_50
        · skip
          try rw [if_pos c_10] at hR
          refine lv_bipush (v := (-2)) hx hb dX0_addPlan_29 (by decide) ?_
          exact we_i hC hr hlocks (congrArg Prod.snd hR).symm (congrArg (fun u => wset Z i u.1) hR).symm hW hS dX0_addPlan_31
  · refine lv_rev (v' := .null) (congrArg va_rf (if_neg c_6)) ?_
    try rw [if_neg c_6] at hR
    refine lv_ifnonnullN hx hb dX0_addPlan_5 ?_
    refine lv_iconst (v := (-1)) hx hb dX0_addPlan_8 (by decide) ?_
    exact we_i hC hr hlocks (congrArg Prod.snd hR).symm (congrArg (fun u => wset Z i u.1) hR).symm hW hS dX0_addPlan_9
